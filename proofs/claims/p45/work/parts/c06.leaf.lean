/-! The book writes: a tree's object; numbers and fields. -/
/-- a tree's object written -/
def trH (h : PH) (a : Nat) (s n : Int32) (p q : VR) : PH := setR (setR (setI (setI h a 0 s) a 1 n) a 2 p) a 3 q
theorem lt_nn {d a : Nat} {s n : Int} {h : PH} : Rv d 184 [.inr (.inr (.inr (13, 0, a))), .inl (iZ (s)), .inl (iZ (n)), .inr (.inr (.inr (0, 0, 0))), .inr (.inr (.inr (0, 0, 0)))] h (none) (trH h a (iZ s) (iZ n) (0, 0, 0) (0, 0, 0)) := Rv.of fun Q q => by
  refine Ev.sts 14 (c' := (25, [some (.inr (.inr (.inr (13, 0, a)))), some (.inl (iZ (s))), some (.inl (iZ (n))), some (.inr (.inr (.inr (0, 0, 0)))), some (.inr (.inr (.inr (0, 0, 0))))], [], (setR (setR (setI (setI h a 0 ((iZ (s)))) a 1 ((iZ (n)))) a 2 (0, 0, 0)) a 3 (0, 0, 0)))) rfl ?_
  exact Ev.ret rfl (q)

theorem lt_pn {d a pa : Nat} {s n : Int} {h : PH} : Rv d 184 [.inr (.inr (.inr (13, 0, a))), .inl (iZ (s)), .inl (iZ (n)), .inr (.inr (.inr (13, 0, pa))), .inr (.inr (.inr (0, 0, 0)))] h (none) (trH h a (iZ s) (iZ n) (13, 0, pa) (0, 0, 0)) := Rv.of fun Q q => by
  refine Ev.sts 14 (c' := (25, [some (.inr (.inr (.inr (13, 0, a)))), some (.inl (iZ (s))), some (.inl (iZ (n))), some (.inr (.inr (.inr (13, 0, pa)))), some (.inr (.inr (.inr (0, 0, 0))))], [], (setR (setR (setI (setI h a 0 ((iZ (s)))) a 1 ((iZ (n)))) a 2 (13, 0, pa)) a 3 (0, 0, 0)))) rfl ?_
  exact Ev.ret rfl (q)

theorem lt_pq {d a pa qa : Nat} {s n : Int} {h : PH} : Rv d 184 [.inr (.inr (.inr (13, 0, a))), .inl (iZ (s)), .inl (iZ (n)), .inr (.inr (.inr (13, 0, pa))), .inr (.inr (.inr (13, 0, qa)))] h (none) (trH h a (iZ s) (iZ n) (13, 0, pa) (13, 0, qa)) := Rv.of fun Q q => by
  refine Ev.sts 14 (c' := (25, [some (.inr (.inr (.inr (13, 0, a)))), some (.inl (iZ (s))), some (.inl (iZ (n))), some (.inr (.inr (.inr (13, 0, pa)))), some (.inr (.inr (.inr (13, 0, qa))))], [], (setR (setR (setI (setI h a 0 ((iZ (s)))) a 1 ((iZ (n)))) a 2 (13, 0, pa)) a 3 (13, 0, qa)))) rfl ?_
  exact Ev.ret rfl (q)

theorem trH_0 (h : PH) (a : Nat) (s n : Int32) (p q : VR) : (trH h a s n p q).1 a 0 = s := (setI_ne (by omega)).trans (setI_self _ _ _ _)
theorem trH_1 (h : PH) (a : Nat) (s n : Int32) (p q : VR) : (trH h a s n p q).1 a 1 = n := setI_self _ _ _ _
theorem trH_2 (h : PH) (a : Nat) (s n : Int32) (p q : VR) : (trH h a s n p q).2.2.1 a 2 = p := (setR_ne (by omega)).trans (setR_self _ _ _ _)
theorem trH_3 (h : PH) (a : Nat) (s n : Int32) (p q : VR) : (trH h a s n p q).2.2.1 a 3 = q := setR_self _ _ _ _
theorem trH_k {N a : Nat} {A : Nat → Prop} {h : PH} {s n : Int32} {p q : VR} (c : a < N → A a) (ha : a < hN h) : Kp N A h (trH h a s n p q) := Kp_t (Kp_t (Kp_t (Kp_I c ha) (Kp_I c ha)) (Kp_R c)) (Kp_R c)
theorem BK_tr {h h0 : PH} {L dr tk ln a : Nat} {tp : List Int} {s n : Int32} {p q : VR} (b : BKh h L dr tk ln tp) (f : FB h0 h) (h0a : 84 ≤ hN h0) (ha : hN h0 ≤ a) (ha2 : a < hN h) (ht : ∃ lo N, (N ≤ a ∨ a ≤ lo) ∧ 87 ≤ lo ∧ N ≤ hN h ∧ txR h lo N (h.2.2.1 83 4) tp) : BKh (trH h a s n p q) L dr tk ln tp ∧ FB h0 (trH h a s n p q) := by
  obtain ⟨b1, b2, b3, b4, b5, b6, b7, b8, b9⟩ := b
  have k : Kp (hN h) (fun x => x = a) h (trH h a s n p q) := trH_k (fun _ => rfl) ha2
  have k0 : Kp (hN h0) (fun x => x = 83) h (trH h a s n p q) := trH_k (fun z => absurd z (by omega)) ha2
  have e := k.2.1 83 (by omega) (by omega)
  obtain ⟨lo, N, hc, hlo, hN0, t⟩ := ht
  have t2 : txR (trH h a s n p q) lo N (h.2.2.1 83 4) tp := hc.elim (fun c => txR_Kp t (trH_k (N := N) (A := nA) (fun z => absurd z (by omega)) ha2) (Nat.le_refl _) (fun _ _ z => z)) (fun c => txR_Kp t k hN0 (fun x hx => by omega))
  refine ⟨⟨by rw [e.2]; exact b1, by rw [e.1]; exact b2, by rw [e.1]; exact b3, by rw [e.1]; exact b4, by rw [e.2]; exact txR_up (txR_lo t2 hlo) hN0, b6, Kp_Z k b7, b8, b9⟩, ⟨Kp_t f.1 k0, fun j j1 j2 => by rw [e.1]; exact f.2.1 j j1 j2, fun j j4 => by rw [e.2]; exact f.2.2 j j4⟩⟩
