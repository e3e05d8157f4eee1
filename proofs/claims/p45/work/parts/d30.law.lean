/-! The law, whole. -/
theorem HB_S {h h1 : PH} {B : Bk} {mn al : Nat} (h88 : 88 ≤ hN h) (k : Kp (hN h) (fun a => 1 ≤ a ∧ a ≤ 82) h h1) (a : HB h B mn al) : HB h1 B mn al := by
  have k7 : Kp (hN h) (fun a => a ≤ 87) h h1 := Kp_m k (Nat.le_refl _) (fun x _ e => by omega)
  have e : ∀ a, 83 ≤ a → a < 88 → h1.1 a = h.1 a ∧ h1.2.2.1 a = h.2.2.1 a := fun a a1 a2 => k.2.1 a (by omega) (by omega)
  obtain ⟨a1, a2, a3⟩ := a
  have e83 := e 83 (by omega) (by omega)
  exact ⟨FLr_k k7 (by rw [e83.1]) (by rw [e83.2]) (fun f _ => by rw [(e 85 (by omega) (by omega)).2]) a1, GOr_k k7 (Nat.le_refl _) (by rw [e83.1]) (by rw [e83.2]) (by rw [e83.2]) (fun f _ => by rw [(e 86 (by omega) (by omega)).2]) (fun f _ => by rw [(e 87 (by omega) (by omega)).2]) a2, MOr_k k7 (by rw [e83.2]) (e 84 (by omega) (by omega)).1 a3⟩
theorem gP_b {t : Nat} (h : t ≤ 253) : gP t ≤ 1032240 := by
  have up : ∀ k t : Nat, gP t ≤ gP (t + k) := by
    intro k
    induction k with
    | zero => intro t; exact Nat.le_refl _
    | succ k ih =>
      intro t
      have := ih t
      show gP t ≤ gP (t + k) + (30 * (t + k) + 300)
      omega
  have e : gP 253 = 1032240 := by decide +kernel
  have := up (253 - t) t
  rw [show t + (253 - t) = 253 by omega, e] at this
  exact this
theorem tri_b : ∀ n m : Nat, n ≤ m → 2 * tri n ≤ m * m + m := by
  have h : ∀ n : Nat, 2 * tri n = n * n + n := by
    intro n
    induction n with
    | zero => rfl
    | succ n ih =>
      show 2 * (tri n + (n + 1)) = (n + 1) * (n + 1) + (n + 1)
      rw [show (n + 1) * (n + 1) = n * n + n + (n + 1) from by rw [Nat.add_mul, Nat.mul_add, Nat.mul_one, Nat.one_mul]]
      omega
  intro n m hn
  rw [h n]
  have := Nat.mul_le_mul hn hn
  omega
theorem room_c : ∀ c : Fin 43, 2 * ((2 * (2394 - 49 * c.val + c.val) + 160) * (c.val * 63)) + ((c.val * 63) * (c.val * 63) + c.val * 63) ≤ 11980000 := by decide +kernel
theorem room_b {B : Bk} {n T : Nat} (hB : B.2.2.length ≤ 6) (hn : n ≤ 63) (hT : T ≤ pw (cyB B B.2.2.length 0) n) : pw (K2B B) (pw (cyB B B.2.2.length 0) n) + tri T ≤ 5990000 ∧ pw (cyB B B.2.2.length 0) n ≤ 2646 := by
  have a := cy_oy (B := B) B.2.2.length 0
  have b := (ObB_le (B := B) hB).2
  have ek : K2B B = 2 * (oyB B B.2.2.length 0 + cyB B B.2.2.length 0) + 160 := by unfold K2B K1B ObB; omega
  rw [pw_mul] at hT ⊢
  rw [pw_mul, ek]
  generalize cyB B B.2.2.length 0 = c at *
  generalize oyB B B.2.2.length 0 = y at *
  have r := room_c ⟨c, by omega⟩
  have r : 2 * ((2 * (2394 - 49 * c + c) + 160) * (c * 63)) + ((c * 63) * (c * 63) + c * 63) ≤ 11980000 := r
  have m1 : c * n ≤ c * 63 := Nat.mul_le_mul_left c hn
  have m2 : (2 * (y + c) + 160) * (c * n) ≤ (2 * (2394 - 49 * c + c) + 160) * (c * 63) := Nat.mul_le_mul (by omega) m1
  have t := tri_b T (c * 63) (by omega)
  generalize (2 * (y + c) + 160) * (c * n) = P at *
  generalize (2 * (2394 - 49 * c + c) + 160) * (c * 63) = R at *
  generalize (c * 63) * (c * 63) = V at *
  omega
theorem bu_21 {d L b n : Nat} {u : Q5} {S : Sta} {h : PH} {Q : Rs → PH → Prop} (I : CI h S b n u) (W : WN S) (ea : eaS S = -1) (hL : L ≤ 100000) (kk : ∀ w : Int, 0 ≤ w → w < 24 → Ev ((d + 1)) 29 (58, [some (.inr (.inr (.inr (1, 0, 1)))), some (.inr (.inr (.inr (45, L, 0)))), some (.inr (.inr (.inr (11, 0, 83)))), some (.inr (.inr (.inr (12, 0, (hN h))))), some (.inl (iZ (w))), some (.inl (iZ (0)))], [], (smH (grow h 9) (hN h))) Q) : Ev (d + 1) 29 (21, [some (.inr (.inr (.inr (1, 0, 1)))), some (.inr (.inr (.inr (45, L, 0)))), some (.inr (.inr (.inr (11, 0, 83)))), none, none, none], [.inl (iZ (0))], h) Q := by
  refine Ev.brF (p := ¬ (iZ (0)) = (iZ (0))) (c1 := (32, [some (.inr (.inr (.inr (1, 0, 1)))), some (.inr (.inr (.inr (45, L, 0)))), some (.inr (.inr (.inr (11, 0, 83)))), none, none, none], [], h)) (c2 := (24, [some (.inr (.inr (.inr (1, 0, 1)))), some (.inr (.inr (.inr (45, L, 0)))), some (.inr (.inr (.inr (11, 0, 83)))), none, none, none], [], h)) (by decide) rfl ?_
  refine Ev.sts 1 (c' := (25, [some (.inr (.inr (.inr (1, 0, 1)))), some (.inr (.inr (.inr (45, L, 0)))), some (.inr (.inr (.inr (11, 0, 83)))), none, none, none], [.inr (.inr (.inr (1, 0, 1)))], h)) rfl ?_
  refine Ev.callv (a := [.inr (.inr (.inr (1, 0, 1)))]) rfl (cx_errorAt I) ?_
  refine Ev.sts 1 (c' := (29, [some (.inr (.inr (.inr (1, 0, 1)))), some (.inr (.inr (.inr (45, L, 0)))), some (.inr (.inr (.inr (11, 0, 83)))), none, none, none], [.inl (iZ (-1)), .inl (iZ (eaS S))], h)) rfl ?_
  refine Ev.brT (p := (iZ (eaS S)) = (iZ (-1))) (c1 := (34, [some (.inr (.inr (.inr (1, 0, 1)))), some (.inr (.inr (.inr (45, L, 0)))), some (.inr (.inr (.inr (11, 0, 83)))), none, none, none], [], h)) (c2 := (32, [some (.inr (.inr (.inr (1, 0, 1)))), some (.inr (.inr (.inr (45, L, 0)))), some (.inr (.inr (.inr (11, 0, 83)))), none, none, none], [], h)) ((iZ_eq ⟨by omega, by omega⟩ ⟨by omega, by omega⟩).mpr (by rw [ea])) rfl ?_
  refine Ev.sts 3 (c' := (39, [some (.inr (.inr (.inr (1, 0, 1)))), some (.inr (.inr (.inr (45, L, 0)))), some (.inr (.inr (.inr (11, 0, 83)))), none, none, none], [.inr (.inr (.inr (11, 0, 83))), .inr (.inr (.inr (12, 0, (hN h)))), .inr (.inr (.inr (12, 0, (hN h))))], (grow h 9))) rfl ?_
  refine Ev.callw (a := [.inr (.inr (.inr (12, 0, (hN h)))), .inr (.inr (.inr (11, 0, 83)))]) rfl (li_go ?_)
  refine Ev.sts 3 (c' := (45, [some (.inr (.inr (.inr (1, 0, 1)))), some (.inr (.inr (.inr (45, L, 0)))), some (.inr (.inr (.inr (11, 0, 83)))), some (.inr (.inr (.inr (12, 0, (hN h))))), none, none], [.inl (iZ (0)), .inr (.inr (.inr (45, L, 0)))], (smH (grow h 9) (hN h)))) rfl ?_
  refine Ev.callw (a := [.inr (.inr (.inr (45, L, 0))), .inl (iZ (0))]) rfl (w_cell (k := 0) (by omega) (by omega) hL (fun cv => ?_))
  refine Ev.sts 1 (c' := (50, [some (.inr (.inr (.inr (1, 0, 1)))), some (.inr (.inr (.inr (45, L, 0)))), some (.inr (.inr (.inr (11, 0, 83)))), some (.inr (.inr (.inr (12, 0, (hN h))))), none, none], [.inl (iZ (24)), .inl (cv)], (smH (grow h 9) (hN h)))) rfl ?_
  refine Ev.callw (a := [.inl (cv), .inl (iZ (24))]) rfl (w_below ⟨by omega, by omega⟩ (fun w hw1 hw2 => ?_))
  refine Ev.sts 3 (c' := (58, [some (.inr (.inr (.inr (1, 0, 1)))), some (.inr (.inr (.inr (45, L, 0)))), some (.inr (.inr (.inr (11, 0, 83)))), some (.inr (.inr (.inr (12, 0, (hN h))))), some (.inl (iZ (w))), some (.inl (iZ (0)))], [], (smH (grow h 9) (hN h)))) rfl ?_
  exact kk w hw1 hw2

theorem build_go {d L : Nat} {h : PH} {Q : Rs → PH → Prop} (hL : L ≤ 100000) (I : CI h S00 68 64 u00) (zz : ZZ h) (hn : hN h = 83) (hE1 : eTs 0 ≤ d + 298) (hE2 : eV 0 ≤ d + 298) (q : ∀ (h1 hb : PH) (sm mn al s0 n0 t : Nat) (B : Bk) (fv gv : Nat → Ctx → Int32 → Int32) (u : Q5) (S : Sta) (M : Ms), VF hb B fv gv → JS hb h1 sm mn al B fv gv s0 n0 t u S M → t < 24 → mskM mn M → s0 ≤ hS h + 1035677 → n0 ≤ 4000 → Q (.inl (some (.inr (.inr (.inr (12, 0, sm)))))) h1) : Rn (d + 300) 29 [.inr (.inr (.inr (1, 0, 1))), .inr (.inr (.inr (45, L, 0)))] h Q := by
  have zr : Zr h := fun a ha k => zz a (by omega) k
  have zg : Zr (grow h 11) := fun a ha k => zz a (by have ha : hN h + 1 ≤ a := ha; omega) k
  obtain ⟨b1, b2, b3, b4, b5, b6⟩ := bi_facts (L := L) zg (by show hN h + 1 = 84; omega) (fun k => zz 83 (Nat.le_refl _) k) hL
  have b6 : hS (bkH (grow h 11) L) = hS h + 11 + 21 := b6
  have kb : Kp 83 nA h (bkH (grow h 11) L) := Kp_t Kp_g b4
  refine Ev.stc (c1 := (3, [some (.inr (.inr (.inr (1, 0, 1)))), some (.inr (.inr (.inr (45, L, 0)))), none, none, none, none], [.inr (.inr (.inr (11, 0, hN h)))], grow h 11)) (c2 := (3, [some (.inr (.inr (.inr (1, 0, 1)))), some (.inr (.inr (.inr (45, L, 0)))), none, none, none, none], [.inr (.inr (.inr (11, 0, 83)))], grow h 11)) rfl (by rw [hn]) ?_
  refine Ev.sts 2 (c' := (5, [some (.inr (.inr (.inr (1, 0, 1)))), some (.inr (.inr (.inr (45, L, 0)))), none, none, none, none], [.inr (.inr (.inr (45, L, 0))), .inr (.inr (.inr (11, 0, 83))), .inr (.inr (.inr (11, 0, 83)))], grow h 11)) rfl ?_
  refine Ev.callv (a := [.inr (.inr (.inr (11, 0, 83))), .inr (.inr (.inr (45, L, 0)))]) rfl (bi_go (d := d + 299) (L := L) (h := grow h 11)) ?_
  refine Ev.sts 2 (c' := (10, [some (.inr (.inr (.inr (1, 0, 1)))), some (.inr (.inr (.inr (45, L, 0)))), some (.inr (.inr (.inr (11, 0, 83)))), none, none, none], [.inr (.inr (.inr (11, 0, 83)))], bkH (grow h 11) L)) rfl ?_
  refine Ev.callw (a := [.inr (.inr (.inr (11, 0, 83)))]) rfl (bw_go (d := d + 293) hE1 hE2 b1 rfl rfl b2 b3 (fun h1 dr1 tk1 tp1 ks1 s1 nl1 mn1 al1 l1 k1 t253 n9 n1 m1 => ?_))
  obtain ⟨⟨ln, bk⟩, lx, en, bs, bi, sf, sg, hb1, tl, kl, dl⟩ := l1
  obtain ⟨x1, x2, x3, x4, xt, xa, xz, x88⟩ := bk
  have kk := Kp_t kb k1
  have I1 : CI h1 S00 68 64 u00 := CI_K I (by decide) (by rw [hn]; exact kk)
  obtain ⟨rE, rS⟩ := BKs_end lx bs bi (by omega) (by omega)
  have e300 : gP tk1 ≤ 1032240 := gP_b t253
  refine Ev.sts 3 (c' := (18, [some (.inr (.inr (.inr (1, 0, 1)))), some (.inr (.inr (.inr (45, L, 0)))), some (.inr (.inr (.inr (11, 0, 83)))), none, none, none], [.inr (.inr (.inr (h1.2.2.1 83 4))), .inr (.inr (.inr (1, 0, 1)))], h1)) rfl ?_
  refine Ev.callw (a := [.inr (.inr (.inr (1, 0, 1))), .inr (.inr (.inr (h1.2.2.1 83 4)))]) rfl (say_go (d := d + 251) xa (by omega) I1 (by rw [rE]) xt (Nat.le_refl _) xz (fun h2 I2 w2 z2 k2 n2 m2 => ?_))
  have hb2 := HB_S x88 k2 hb1
  obtain ⟨fv, gv, vf⟩ := VF_ex hb2
  have n12 := k2.2.2.2
  have J := JS_0 (sm := hN h2) (fv := fv) (gv := gv) (B := bkO s1) (by rw [rS]) hb2 rfl (by omega) I2 w2 z2
  obtain ⟨J, jn, js⟩ := J
  refine bu_21 (d := d + 299) I2 (WS_N w2 (by decide)) (by show (rdE (lex tp1)).2 = -1; rw [rE]) hL (fun w hw1 hw2 => ?_)
  obtain ⟨n, rfl⟩ : ∃ n : Nat, w = (n : Int) := ⟨w.toNat, by omega⟩
  exact bu_lp (d := d + 277) vf (by omega) hL (fun h3 u3 S3 M3 J3 m3 => q h3 h2 (hN h2) mn1 al1 _ _ n (bkO s1) fv gv u3 S3 M3 vf J3 (by omega) m3 (by omega) (by omega)) n 0 _ _ _ _ (by omega) J (fun c hc => absurd hc List.not_mem_nil)
theorem lw_end {d sm L : Nat} {mk : Int} {P : PH → Prop} {h : PH} {Q : Rs → PH → Prop} {x5 x6 x7 x8 x9 x10 x11 x12 x13 x14 x15 x16 x17 x18 : Option VV} (hp : ∀ Q1 : Rs → PH → Prop, (∀ h1, P h1 → Q1 (.inl (some (.inl (iZ 1)))) h1) → Rn (d + 22) 172 [.inr (.inr (.inr (12, 0, sm))), .inr (.inr (.inr (1, 0, 1)))] h Q1) (q : ∀ h1, P h1 → Q (.inl (some (.inl (iZ 1)))) h1) : Ev (d + 23) 25 (25, [some (.inr (.inr (.inr (45, L, 0)))), some (.inr (.inr (.inr (1, 0, 1)))), some (.inr (.inr (.inr (12, 0, sm)))), some (.inl (iZ (mk))), some (.inl (iZ (40))), x5, x6, x7, x8, x9, x10, x11, x12, x13, x14, x15, x16, x17, x18], [], h) Q := by
  refine Ev.sts 2 (c' := (29, [some (.inr (.inr (.inr (45, L, 0)))), some (.inr (.inr (.inr (1, 0, 1)))), some (.inr (.inr (.inr (12, 0, sm)))), some (.inl (iZ (mk))), some (.inl (iZ (40))), x5, x6, x7, x8, x9, x10, x11, x12, x13, x14, x15, x16, x17, x18], [.inl (iZ (40)), .inl (iZ (40))], h)) rfl ?_
  refine Ev.brT (p := (iZ (40)) ≤ (iZ (40))) (c1 := (833, [some (.inr (.inr (.inr (45, L, 0)))), some (.inr (.inr (.inr (1, 0, 1)))), some (.inr (.inr (.inr (12, 0, sm)))), some (.inl (iZ (mk))), some (.inl (iZ (40))), x5, x6, x7, x8, x9, x10, x11, x12, x13, x14, x15, x16, x17, x18], [], h)) (c2 := (32, [some (.inr (.inr (.inr (45, L, 0)))), some (.inr (.inr (.inr (1, 0, 1)))), some (.inr (.inr (.inr (12, 0, sm)))), some (.inl (iZ (mk))), some (.inl (iZ (40))), x5, x6, x7, x8, x9, x10, x11, x12, x13, x14, x15, x16, x17, x18], [], h)) (by decide) rfl ?_
  refine Ev.sts 2 (c' := (835, [some (.inr (.inr (.inr (45, L, 0)))), some (.inr (.inr (.inr (1, 0, 1)))), some (.inr (.inr (.inr (12, 0, sm)))), some (.inl (iZ (mk))), some (.inl (iZ (40))), x5, x6, x7, x8, x9, x10, x11, x12, x13, x14, x15, x16, x17, x18], [.inr (.inr (.inr (1, 0, 1))), .inr (.inr (.inr (12, 0, sm)))], h)) rfl ?_
  refine Ev.callw (a := [.inr (.inr (.inr (12, 0, sm))), .inr (.inr (.inr (1, 0, 1)))]) rfl (hp _ (fun h1 n1 => ?_))
  exact Ev.ret rfl (q h1 n1)

theorem law_lp {d sm L mn al nb s00 n00 : Nat} {B : Bk} {fv gv : Nat → Ctx → Int32 → Int32} {hb : PH} {Q : Rs → PH → Prop} (vf : VF hb B fv gv) (hL : L ≤ 100000) (hnb : nb < 24) (hal : al ≤ 6) (q : ∀ h1 u1 S1 M1 s1 n1, JS hb h1 sm mn al B fv gv s1 n1 (nb + 40) u1 S1 M1 → s1 ≤ s00 + 480 → n1 ≤ n00 + 80 → ∀ h2, nwK h1 h2 2 16 → Q (.inl (some (.inl (iZ 1)))) h2) (m : Nat) : ∀ (t s0 n0 : Nat) (mk : Int) (h : PH) (u : Q5) (S : Sta) (M : Ms) (x5 x6 x7 x8 x9 x10 x11 x12 x13 x14 x15 x16 x17 x18 : Option VV), t + m = 40 → s0 ≤ s00 + 12 * t → n0 ≤ n00 + 2 * t → JS hb h sm mn al B fv gv s0 n0 (nb + t) u S M → mskM mn M → 0 ≤ mk → mk ≤ yK M → Ev (d + 301) 25 (25, [some (.inr (.inr (.inr (45, L, 0)))), some (.inr (.inr (.inr (1, 0, 1)))), some (.inr (.inr (.inr (12, 0, sm)))), some (.inl (iZ (mk))), some (.inl (iZ ((t : Int)))), x5, x6, x7, x8, x9, x10, x11, x12, x13, x14, x15, x16, x17, x18], [], h) Q := by
  induction m with
  | zero =>
    intro t s0 n0 mk h u S M x5 x6 x7 x8 x9 x10 x11 x12 x13 x14 x15 x16 x17 x18 ht hs hn j hm _ _
    obtain rfl : t = 40 := by omega
    exact lw_end (d := d + 278) (P := fun h2 => nwK h h2 2 16) (fun Q1 q1 => ls_same (d := d + 277) vf (by omega) j hm q1) (fun h2 n2 => q h u S M s0 n0 j (by omega) (by omega) h2 n2)
  | succ m ih =>
    intro t s0 n0 mk h u S M x5 x6 x7 x8 x9 x10 x11 x12 x13 x14 x15 x16 x17 x18 ht hs hn j hm mk0 mk1
    refine law_step (d := d + 278) vf (by omega) (by omega) hL j ⟨mk0, mk1⟩ (fun h1 u1 S1 M1 J1 k0 st y5 y6 y7 y8 y9 y10 y11 y12 y13 y14 y15 y16 y17 y18 => ?_) _ _ _ _ _ _ _ _ _ _ _ _ _ _
    have ek : wmS S1 = yK M1 := by
      obtain ⟨nn, ca, ka, oa, ta, I, wr, y, bh, ms, -⟩ := J1
      exact ms.2.2.2.2.1
    exact ih (t + 1) _ _ _ h1 u1 S1 M1 _ _ _ _ _ _ _ _ _ _ _ _ _ _ (by omega) (by omega) (by omega) J1 (msk_act vf (by omega) j st hm) (by omega) (by omega)
theorem law_ok : LAW_OK := by
  intro L xs hL
  have e : Rn 301 25 [scr L] (h0 xs) (fun r h' => r = .inl (some (.inl 1)) ∧ hN h' ≤ 90000 ∧ hS h' ≤ 7301442) := by
    refine Ev.sts 2 (c' := (4, [some (.inr (.inr (.inr (45, L, 0)))), none, none, none, none, none, none, none, none, none, none, none, none, none, none, none, none, none, none], [.inr (.inr (.inr (1, 0, 1))), .inr (.inr (.inr (1, 0, 1)))], grow (h0 xs) 12)) rfl ?_
    refine Ev.callv (a := [.inr (.inr (.inr (1, 0, 1)))]) rfl (mk_in xs 297) ?_
    refine Ev.sts 3 (c' := (10, [some (.inr (.inr (.inr (45, L, 0)))), some (.inr (.inr (.inr (1, 0, 1)))), none, none, none, none, none, none, none, none, none, none, none, none, none, none, none, none, none], [.inr (.inr (.inr (45, L, 0))), .inr (.inr (.inr (1, 0, 1)))], hIn xs)) rfl ?_
    obtain ⟨N0, S0⟩ := hIn_N xs
    refine Ev.callw (a := [.inr (.inr (.inr (1, 0, 1))), .inr (.inr (.inr (45, L, 0)))]) rfl (build_go (d := 0) (L := L) (by omega) (CI_0 xs) (ZZ_in xs) N0 (by decide) (by decide) (fun h1 hb sm mn al s0 n0 t B fv gv u S M vf J ht hm hs hn => ?_))
    generalize hIn xs = hi at *
    have al6 : al ≤ 6 := by
      obtain ⟨nn, ca, ka, oa, ta, I, wr, y, bh, -⟩ := J
      exact (bf_al bh).2.2.2
    have k0 : 0 ≤ yK M := by
      obtain ⟨nn, ca, ka, oa, ta, I, wr, y, bh, ms, -⟩ := J
      have := wr.2.2.2.2.1
      have := ms.2.2.2.2.1
      omega
    refine Ev.sts 2 (c' := (15, [some (.inr (.inr (.inr (45, L, 0)))), some (.inr (.inr (.inr (1, 0, 1)))), some (.inr (.inr (.inr (12, 0, sm)))), none, none, none, none, none, none, none, none, none, none, none, none, none, none, none, none], [.inr (.inr (.inr (12, 0, sm)))], h1)) rfl ?_
    refine Ev.brT (p := ¬ (12 : Nat) = 0) (c1 := (20, [some (.inr (.inr (.inr (45, L, 0)))), some (.inr (.inr (.inr (1, 0, 1)))), some (.inr (.inr (.inr (12, 0, sm)))), none, none, none, none, none, none, none, none, none, none, none, none, none, none, none, none], [], h1)) (c2 := (18, [some (.inr (.inr (.inr (45, L, 0)))), some (.inr (.inr (.inr (1, 0, 1)))), some (.inr (.inr (.inr (12, 0, sm)))), none, none, none, none, none, none, none, none, none, none, none, none, none, none, none, none], [], h1)) (by decide) rfl ?_
    refine Ev.sts 4 (c' := (25, [some (.inr (.inr (.inr (45, L, 0)))), some (.inr (.inr (.inr (1, 0, 1)))), some (.inr (.inr (.inr (12, 0, sm)))), some (.inl (iZ (0))), some (.inl (iZ (((0 : Nat) : Int)))), none, none, none, none, none, none, none, none, none, none, none, none, none, none], [], h1)) rfl ?_
    refine law_lp (d := 0) (s00 := s0) (n00 := n0) vf (by omega) ht al6 (fun h2 u2 S2 M2 s2 n2 J2 b2 c2 h3 n3 => ?_) 40 0 s0 n0 0 h1 u S M _ _ _ _ _ _ _ _ _ _ _ _ _ _ (by omega) (by omega) (by omega) J hm (Int.le_refl _) k0
    obtain ⟨nn, ca, ka, oa, ta, I, wr, y, bh, ms, mi, li, ub, hc, z, rs, rn⟩ := J2
    have bg := bh_G bh
    have nf := (nL_facts (ci_tl I).2.2.1)
    have mt := mi.2.2.2.1
    have rb := room_b (B := B) (n := (yC M2).length) (T := (yT M2).length) bg.1 (by omega) (by omega)
    have n4 := n3.2.2.2.1
    have n5 := n3.2.2.2.2
    refine ⟨rfl, ?_, ?_⟩
    · omega
    · omega
  obtain ⟨n, r, h', e1, e2, e3, e4⟩ := e
  exact ⟨n, 301, h', by omega, by rw [e1, e2], e3, e4⟩
