/-! Texts of the JDK: what a walk may change, a text, a builder, their small methods. -/
theorem shr0 (x : Int) : (iZ x >>> (iZ 0 &&& 31) : Int32) = iZ x := by
  have e : (iZ 0 &&& 31 : Int32) = 0 := by decide
  rw [e]; exact Int32.shiftRight_zero
theorem shl0 (x : Int) : (iZ x <<< (iZ 0 &&& 31) : Int32) = iZ x := by
  have e : (iZ 0 &&& 31 : Int32) = 0 := by decide
  rw [e]; exact Int32.shiftLeft_zero
theorem nwa_in {z : Int} (h1 : 0 ≤ z) (h2 : z ≤ 100000) : ¬ (iZ z < 0 ∨ 100000 < (iZ z).toNatClampNeg) := by
  rw [iZ_cl h1 (by omega), iZ_l0, iZ_lt ⟨by omega, by omega⟩ ⟨by omega, by omega⟩]
  omega
theorem cpy_in {a b s d k : Nat} {sp dp n : Int} (h1 : sp = (s : Int)) (h2 : dp = (d : Int)) (h3 : n = (k : Int)) (h4 : s + k ≤ a) (h5 : d + k ≤ b) (ha : a < 2147483648) (hb : b < 2147483648) : ¬ (iZ sp < 0 ∨ iZ dp < 0 ∨ iZ n < 0 ∨ a < (iZ sp).toNatClampNeg + (iZ n).toNatClampNeg ∨ b < (iZ dp).toNatClampNeg + (iZ n).toNatClampNeg) := by
  rw [iZ_ix h1 (by omega), iZ_ix h2 (by omega), iZ_ix h3 (by omega), iZ_l0, iZ_lt ⟨by omega, by omega⟩ ⟨by omega, by omega⟩, iZ_lt ⟨by omega, by omega⟩ ⟨by omega, by omega⟩, iZ_lt ⟨by omega, by omega⟩ ⟨by omega, by omega⟩]
  omega
theorem cpy_c {h : PH} {a b s d k : Nat} {sp dp n : Int} (h1 : sp = (s : Int)) (h2 : dp = (d : Int)) (h3 : n = (k : Int)) (h4 : s < 2147483648) (h5 : d < 2147483648) (h6 : k < 2147483648) : cpyI h a (iZ sp).toNatClampNeg b (iZ dp).toNatClampNeg (iZ n).toNatClampNeg = cpyI h a s b d k := by
  rw [iZ_ix h1 h4, iZ_ix h2 h5, iZ_ix h3 h6]
theorem cpyS_c {h : PH} {a b s d k : Nat} {sp dp n : Int} (h1 : sp = (s : Int)) (h2 : dp = (d : Int)) (h3 : n = (k : Int)) (h4 : s < 2147483648) (h5 : d < 2147483648) (h6 : k < 2147483648) : cpyS h a (iZ sp).toNatClampNeg b (iZ dp).toNatClampNeg (iZ n).toNatClampNeg = cpyS h a s b d k := by
  rw [iZ_ix h1 h4, iZ_ix h2 h5, iZ_ix h3 h6]
/-- a copy of bytes -/
theorem Ev.pcb {d m : Nat} {c c1 c2 : Cf} {p : Prop} [Decidable p] {f : Bool} {Q : Rs → PH → Prop} (hin : ¬ p) (hf : f = true) (hs : step m c = if p then none else bif f then some (.inl c1) else none) (e : c1 = c2) (kk : Ev d m c2 Q) : Ev d m c Q := by
  rw [if_neg hin, hf, e] at hs
  exact Ev.st hs kk
theorem sClone_ok {n v pc : Nat} {ls : LV} {t : List VV} {h : PH} (hn : n ≤ 100000) (hf : fitb (h.1 v) 0 n = true) (ht : Nat.ble ((t.map vcat).sum) 8 = true) : sClone pc ls (.inr (.inr (.inr (22, n, v))) :: t) h = some (.inl (pc + 3, ls, .inr (.inr (.inr (22, n, hN h))) :: t, cpyR (grow h n) v (hN h))) := by
  have e := Nat.ble_eq_true_of_le hn
  unfold sClone
  dsimp only
  rw [e, hf, ht]
  rfl
theorem Ev.cln {d m n v pc : Nat} {c : Cf} {ls : LV} {t : List VV} {h : PH} {Q : Rs → PH → Prop} (hn : n ≤ 100000) (hf : fitb (h.1 v) 0 n = true) (ht : Nat.ble ((t.map vcat).sum) 8 = true) (hs : step m c = sClone pc ls (.inr (.inr (.inr (22, n, v))) :: t) h) (kk : Ev d m (pc + 3, ls, .inr (.inr (.inr (22, n, hN h))) :: t, cpyR (grow h n) v (hN h)) Q) : Ev d m c Q := by
  rw [sClone_ok hn hf ht] at hs
  exact Ev.st hs kk
theorem Ev.stB {d m : Nat} {c c' : Cf} {x : Int32} {Q : Rs → PH → Prop} (e : x.toInt8.toInt32 = x) (hs : step m c = if x.toInt8.toInt32 = x then some (.inl c') else none) (k : Ev d m c' Q) : Ev d m c Q := by
  rw [if_pos e] at hs
  exact Ev.st hs k
theorem Ev.retB {d m : Nat} {c : Cf} {x : Int32} {h : PH} {Q : Rs → PH → Prop} (hs : step m c = if x.toInt8.toInt32 = x then some (.inr (.inr (.inl (some (.inl x)), h))) else none) (e : x.toInt8.toInt32 = x) (q : Q (.inl (some (.inl x))) h) : Ev d m c Q := by
  rw [if_pos e] at hs
  exact Ev.ret hs q
theorem Ev.retC {d m : Nat} {c : Cf} {x : Int32} {h : PH} {Q : Rs → PH → Prop} (hs : step m c = if (x.toUInt32 % 65536).toInt32 = x then some (.inr (.inr (.inl (some (.inl x)), h))) else none) (e : (x.toUInt32 % 65536).toInt32 = x) (q : Q (.inl (some (.inl x))) h) : Ev d m c Q := by
  rw [if_pos e] at hs
  exact Ev.ret hs q
/-- fresh rows of ints are noughts -/
def Zr (h : PH) : Prop := ∀ a, hN h ≤ a → ∀ k, h.1 a k = 0
/-- what a walk may change: rows of A, and rows that came after N -/
def Kp (N : Nat) (A : Nat → Prop) (h h' : PH) : Prop := h.2.1 = h.2.1 ∧ (∀ a, a < N → ¬ A a → h'.1 a = h.1 a ∧ h'.2.2.1 a = h.2.2.1 a) ∧ (∀ a, hN h' ≤ a → h'.1 a = h.1 a) ∧ hN h ≤ hN h'
def nA (_ : Nat) : Prop := False
theorem Kp_r (N : Nat) (A : Nat → Prop) (h : PH) : Kp N A h h := ⟨rfl, fun _ _ _ => ⟨rfl, rfl⟩, fun _ _ => rfl, Nat.le_refl _⟩
theorem Kp_t {N : Nat} {A : Nat → Prop} {h h1 h2 : PH} (a : Kp N A h h1) (b : Kp N A h1 h2) : Kp N A h h2 := ⟨rfl, fun x x1 x2 => ⟨(b.2.1 x x1 x2).1.trans (a.2.1 x x1 x2).1, (b.2.1 x x1 x2).2.trans (a.2.1 x x1 x2).2⟩, fun x hx => (b.2.2.1 x hx).trans (a.2.2.1 x (Nat.le_trans b.2.2.2 hx)), Nat.le_trans a.2.2.2 b.2.2.2⟩
theorem Kp_m {N M : Nat} {A B : Nat → Prop} {h h1 : PH} (a : Kp N A h h1) (hM : M ≤ N) (e : ∀ x, x < M → A x → B x) : Kp M B h h1 := ⟨a.1, fun x x1 x2 => a.2.1 x (Nat.lt_of_lt_of_le x1 hM) (fun z => x2 (e x x1 z)), a.2.2⟩
theorem Kp_Z {N : Nat} {A : Nat → Prop} {h h1 : PH} (a : Kp N A h h1) (z : Zr h) : Zr h1 := fun x hx k => by rw [a.2.2.1 x hx]; exact z x (Nat.le_trans a.2.2.2 hx) k
theorem Kp_I {N a k : Nat} {A : Nat → Prop} {h : PH} {v : Int32} (c : a < N → A a) (ha : a < hN h) : Kp N A h (setI h a k v) := ⟨rfl, fun x x1 x2 => ⟨setI_oth (fun e => x2 (by rw [e]; exact c (by omega))), rfl⟩, fun x hx => setI_oth (fun e => by have hx : hN h ≤ x := hx; omega), Nat.le_refl _⟩
theorem Kp_R {N a k : Nat} {A : Nat → Prop} {h : PH} {v : VR} (c : a < N → A a) : Kp N A h (setR h a k v) := ⟨rfl, fun x x1 x2 => ⟨rfl, setR_oth (fun e => x2 (by rw [e]; exact c (by omega)))⟩, fun x hx => rfl, Nat.le_refl _⟩
theorem Kp_g {N n : Nat} {A : Nat → Prop} {h : PH} : Kp N A h (grow h n) := ⟨rfl, fun x x1 x2 => ⟨rfl, rfl⟩, fun x hx => rfl, Nat.le_succ _⟩
/-- one row of ints written, that is none of the old -/
theorem Kp_w {N b : Nat} {A : Nat → Prop} {h h1 : PH} (c : b < N → A b) (hb : b < hN h) (e2 : h1.2 = h.2) (e : ∀ x, x ≠ b → h1.1 x = h.1 x) : Kp N A h h1 := by
  have en : hN h1 = hN h := by unfold hN; rw [e2]
  exact ⟨rfl, fun x x1 x2 => ⟨e x (fun z => x2 (by rw [z]; exact c (by omega))), by rw [e2]⟩, fun x hx => e x (by omega), by omega⟩
/-- letters -/
def asT (T : List Int) : Prop := ∀ t ∈ T, 0 ≤ t ∧ t < 128
theorem asT_get {T : List Int} (a : asT T) (j : Nat) : 0 ≤ T.getD j 0 ∧ T.getD j 0 < 128 := by
  by_cases c : j < T.length
  · rw [List.getD_eq_getElem?_getD, List.getElem?_eq_getElem c]; exact a _ (List.getElem_mem c)
  · rw [List.getD_eq_getElem?_getD, List.getElem?_eq_none (by omega)]; exact ⟨by decide, by decide⟩
theorem asT_app {A B : List Int} (a : asT A) (b : asT B) : asT (A ++ B) := fun t ht => (List.mem_append.mp ht).elim (a t) (b t)
/-- the letters of a written text -/
noncomputable def txC (k : Nat) : List Int := (stL.getD k []).map Int32.toInt
theorem txC_len (k : Nat) : (txC k).length = slen k := List.length_map _
theorem stL_as : ∀ l ∈ stL, ∀ x ∈ l, 0 ≤ x.toInt ∧ x.toInt < 128 := by decide +kernel
theorem txC_as (k : Nat) : asT (txC k) := by
  intro t ht
  obtain ⟨x, hx, e⟩ := List.mem_map.mp ht
  rw [← e]
  by_cases c : k < stL.length
  · exact stL_as (stL.getD k []) (by rw [List.getD_eq_getElem?_getD, List.getElem?_eq_getElem c]; exact List.getElem_mem c) x hx
  · rw [List.getD_eq_getElem?_getD, List.getElem?_eq_none (by omega)] at hx
    exact absurd hx List.not_mem_nil
theorem txC_get (k j : Nat) : sbyt k j = iZ ((txC k).getD j 0) := by
  unfold sbyt txC
  generalize stL.getD k [] = l
  rw [List.getD_eq_getElem?_getD, List.getD_eq_getElem?_getD, List.getElem?_map]
  cases l[j]? with
  | none => rfl
  | some x => exact (Int32.ofInt_toInt x).symm
def byt (x : Int32) : Prop := x.toInt8.toInt32 = x
theorem byt_i : ∀ t : Int, 0 ≤ t ∧ t < 128 → byt (iZ t) := by
  intro t ht
  have : ∀ n : Fin 128, byt (iZ (n.val : Int)) := by unfold byt; decide +kernel
  have e := this ⟨t.toNat, by omega⟩
  rw [show ((t.toNat : Nat) : Int) = t by omega] at e
  exact e
theorem fit_ok {f : Nat → Int32} {sp n : Nat} (c : ∀ j, j < n → byt (f (sp + j))) : fitb f sp n = true := by
  unfold fitb
  rw [List.all_eq_true]
  intro j hj
  exact decide_eq_true (c j (List.mem_range.mp hj))
/-- r is the text T: a written one, or one made after lo and before N -/
def txR (h : PH) (lo N : Nat) (r : VR) (T : List Int) : Prop := (∃ k, r = (43, 0, k) ∧ T = txC k) ∨ (∃ a v, r = (14, 0, a) ∧ (lo < a ∧ a < N ∧ lo < v ∧ v < N) ∧ h.2.2.1 a 0 = (22, T.length, v) ∧ h.1 a 1 = iZ 0 ∧ ∀ j, j < T.length → h.1 v j = iZ (T.getD j 0))
theorem txR_Kp {N M lo : Nat} {A : Nat → Prop} {h h1 : PH} {r : VR} {T : List Int} (t : txR h lo N r T) (f : Kp M A h h1) (hN1 : N ≤ M) (hA : ∀ a, lo < a → ¬ A a) : txR h1 lo N r T := by
  rcases t with t | ⟨a, v, e, ⟨l1, l2, l3, l4⟩, e0, e1, e2⟩
  · exact .inl t
  · have fa := f.2.1 a (by omega) (hA a l1)
    have fv := f.2.1 v (by omega) (hA v l3)
    exact .inr ⟨a, v, e, ⟨l1, l2, l3, l4⟩, by rw [fa.2]; exact e0, by rw [fa.1]; exact e1, fun j hj => by rw [fv.1]; exact e2 j hj⟩
theorem txR_up {N M lo : Nat} {h : PH} {r : VR} {T : List Int} (t : txR h lo N r T) (hN1 : N ≤ M) : txR h lo M r T := by
  rcases t with t | ⟨a, v, e, ⟨l1, l2, l3, l4⟩, e0, e1, e2⟩
  · exact .inl t
  · exact .inr ⟨a, v, e, ⟨l1, by omega, l3, by omega⟩, e0, e1, e2⟩
theorem txR_lo {N lo l2 : Nat} {h : PH} {r : VR} {T : List Int} (t : txR h lo N r T) (hl : l2 ≤ lo) : txR h l2 N r T := by
  rcases t with t | ⟨a, v, e, ⟨l1, l2, l3, l4⟩, e0, e1, e2⟩
  · exact .inl t
  · exact .inr ⟨a, v, e, ⟨by omega, l2, by omega, l4⟩, e0, e1, e2⟩
theorem txR_c (h : PH) (lo N k : Nat) : txR h lo N (43, 0, k) (txC k) := .inl ⟨k, rfl, rfl⟩
/-- a builder at a, its bytes at b, cap of them, T written; both made after N -/
def sbR (h : PH) (N a cap b : Nat) (T : List Int) : Prop := (N ≤ a ∧ a < hN h ∧ N ≤ b ∧ b < hN h ∧ a ≠ b) ∧ h.2.2.1 a 0 = (22, cap, b) ∧ h.1 a 1 = iZ 0 ∧ h.1 a 3 = iZ T.length ∧ T.length ≤ cap ∧ (∀ j, j < T.length → h.1 b j = iZ (T.getD j 0)) ∧ ∀ j, j < cap → byt (h.1 b j)
theorem t1_coder_c {d k : Nat} {h : PH} : Rv d 186 [.inr (.inr (.inr (43, 0, k)))] h (some (.inl (iZ 0))) h := Rv.of fun Q q => by
  refine Ev.sts 1 (c' := (3, [some (.inr (.inr (.inr (43, 0, k))))], [.inl (iZ (1))], h)) rfl ?_
  refine Ev.brF (p := (iZ (1)) = (iZ (0))) (c1 := (13, [some (.inr (.inr (.inr (43, 0, k))))], [], h)) (c2 := (6, [some (.inr (.inr (.inr (43, 0, k))))], [], h)) (by decide) rfl ?_
  refine Ev.sts 3 (c' := (14, [some (.inr (.inr (.inr (43, 0, k))))], [.inl (iZ (0))], h)) rfl ?_
  exact Ev.retB rfl (by decide) (q)

theorem t1_length_c {d k : Nat} {h : PH} : Rv (d + 1) 185 [.inr (.inr (.inr (43, 0, k)))] h (some (.inl (iZ (slen k)))) h := Rv.of fun Q q => by
  refine Ev.sts 2 (c' := (4, [some (.inr (.inr (.inr (43, 0, k))))], [.inr (.inr (.inr (44, (slen k), k)))], h)) rfl ?_
  refine Ev.gv (w := (iZ ((slen k)))) rfl (iZ_nat _) ?_
  refine Ev.sts 1 (c' := (6, [some (.inr (.inr (.inr (43, 0, k))))], [.inr (.inr (.inr (43, 0, k))), .inl (iZ ((slen k)))], h)) rfl ?_
  refine Ev.callv (a := [.inr (.inr (.inr (43, 0, k)))]) rfl (t1_coder_c) ?_
  refine Ev.gv (w := (iZ ((slen k)))) rfl (shr0 _) ?_
  exact Ev.ret rfl (q)

theorem t1_isL_c {d k : Nat} {h : PH} : Rv d 192 [.inr (.inr (.inr (43, 0, k)))] h (some (.inl (iZ 1))) h := Rv.of fun Q q => by
  refine Ev.sts 1 (c' := (3, [some (.inr (.inr (.inr (43, 0, k))))], [.inl (iZ (1))], h)) rfl ?_
  refine Ev.brF (p := (iZ (1)) = (iZ (0))) (c1 := (17, [some (.inr (.inr (.inr (43, 0, k))))], [], h)) (c2 := (6, [some (.inr (.inr (.inr (43, 0, k))))], [], h)) (by decide) rfl ?_
  refine Ev.sts 2 (c' := (10, [some (.inr (.inr (.inr (43, 0, k))))], [.inl (iZ (0))], h)) rfl ?_
  refine Ev.brF (p := ¬ (iZ (0)) = (iZ (0))) (c1 := (17, [some (.inr (.inr (.inr (43, 0, k))))], [], h)) (c2 := (13, [some (.inr (.inr (.inr (43, 0, k))))], [], h)) (by decide) rfl ?_
  refine Ev.sts 2 (c' := (18, [some (.inr (.inr (.inr (43, 0, k))))], [.inl (iZ (1))], h)) rfl ?_
  exact Ev.ret rfl (q)

theorem t1_coder_o {d a n v : Nat} {h : PH} (e0 : h.2.2.1 a 0 = (22, n, v)) (e1 : h.1 a 1 = iZ 0) : Rv d 186 [.inr (.inr (.inr (14, 0, a)))] h (some (.inl (iZ 0))) h := Rv.of fun Q q => by
  refine Ev.sts 1 (c' := (3, [some (.inr (.inr (.inr (14, 0, a))))], [.inl (iZ (1))], h)) rfl ?_
  refine Ev.brF (p := (iZ (1)) = (iZ (0))) (c1 := (13, [some (.inr (.inr (.inr (14, 0, a))))], [], h)) (c2 := (6, [some (.inr (.inr (.inr (14, 0, a))))], [], h)) (by decide) rfl ?_
  refine Ev.sts 1 (c' := (7, [some (.inr (.inr (.inr (14, 0, a))))], [.inr (.inr (.inr (14, 0, a)))], h)) rfl ?_
  refine Ev.gv (w := (iZ (0))) rfl e1 ?_
  refine Ev.sts 1 (c' := (14, [some (.inr (.inr (.inr (14, 0, a))))], [.inl (iZ (0))], h)) rfl ?_
  exact Ev.retB rfl (by decide) (q)

theorem t1_length_o {d a n v : Nat} {h : PH} (e0 : h.2.2.1 a 0 = (22, n, v)) (e1 : h.1 a 1 = iZ 0) : Rv (d + 1) 185 [.inr (.inr (.inr (14, 0, a)))] h (some (.inl (iZ (n)))) h := Rv.of fun Q q => by
  refine Ev.sts 1 (c' := (1, [some (.inr (.inr (.inr (14, 0, a))))], [.inr (.inr (.inr (14, 0, a)))], h)) rfl ?_
  refine Ev.gfr (r := (22, n, v)) rfl e0 ?_
  refine Ev.gv (w := (iZ (n))) rfl (iZ_nat _) ?_
  refine Ev.sts 1 (c' := (6, [some (.inr (.inr (.inr (14, 0, a))))], [.inr (.inr (.inr (14, 0, a))), .inl (iZ (n))], h)) rfl ?_
  refine Ev.callv (a := [.inr (.inr (.inr (14, 0, a)))]) rfl (t1_coder_o e0 e1) ?_
  refine Ev.gv (w := (iZ (n))) rfl (shr0 _) ?_
  exact Ev.ret rfl (q)

theorem t1_isL_o {d a n v : Nat} {h : PH} (e0 : h.2.2.1 a 0 = (22, n, v)) (e1 : h.1 a 1 = iZ 0) : Rv d 192 [.inr (.inr (.inr (14, 0, a)))] h (some (.inl (iZ 1))) h := Rv.of fun Q q => by
  refine Ev.sts 1 (c' := (3, [some (.inr (.inr (.inr (14, 0, a))))], [.inl (iZ (1))], h)) rfl ?_
  refine Ev.brF (p := (iZ (1)) = (iZ (0))) (c1 := (17, [some (.inr (.inr (.inr (14, 0, a))))], [], h)) (c2 := (6, [some (.inr (.inr (.inr (14, 0, a))))], [], h)) (by decide) rfl ?_
  refine Ev.sts 1 (c' := (7, [some (.inr (.inr (.inr (14, 0, a))))], [.inr (.inr (.inr (14, 0, a)))], h)) rfl ?_
  refine Ev.gv (w := (iZ (0))) rfl e1 ?_
  refine Ev.brF (p := ¬ (iZ (0)) = (iZ (0))) (c1 := (17, [some (.inr (.inr (.inr (14, 0, a))))], [], h)) (c2 := (13, [some (.inr (.inr (.inr (14, 0, a))))], [], h)) (by decide) rfl ?_
  refine Ev.sts 2 (c' := (18, [some (.inr (.inr (.inr (14, 0, a))))], [.inl (iZ (1))], h)) rfl ?_
  exact Ev.ret rfl (q)

theorem t1_gb_c {d k cap b at_ : Nat} {h : PH} (hl : slen k ≤ 2000) (hc : at_ + slen k ≤ cap) (hc2 : cap ≤ 100000) : Rv (d + 1) 187 [.inr (.inr (.inr (43, 0, k))), .inr (.inr (.inr (22, cap, b))), .inl (iZ ((at_ : Int))), .inl (iZ (0))] h (none) (cpyS h k 0 b at_ (slen k)) := Rv.of fun Q q => by
  refine Ev.sts 1 (c' := (1, [some (.inr (.inr (.inr (43, 0, k)))), some (.inr (.inr (.inr (22, cap, b)))), some (.inl (iZ ((at_ : Int)))), some (.inl (iZ (0)))], [.inr (.inr (.inr (43, 0, k)))], h)) rfl ?_
  refine Ev.callv (a := [.inr (.inr (.inr (43, 0, k)))]) rfl t1_coder_c ?_
  refine Ev.sts 1 (c' := (5, [some (.inr (.inr (.inr (43, 0, k)))), some (.inr (.inr (.inr (22, cap, b)))), some (.inl (iZ ((at_ : Int)))), some (.inl (iZ (0)))], [.inl (iZ (0)), .inl (iZ (0))], h)) rfl ?_
  refine Ev.brF (p := ¬ (iZ (0)) = (iZ (0))) (c1 := (28, [some (.inr (.inr (.inr (43, 0, k)))), some (.inr (.inr (.inr (22, cap, b)))), some (.inl (iZ ((at_ : Int)))), some (.inl (iZ (0)))], [], h)) (c2 := (8, [some (.inr (.inr (.inr (43, 0, k)))), some (.inr (.inr (.inr (22, cap, b)))), some (.inl (iZ ((at_ : Int)))), some (.inl (iZ (0)))], [], h)) (by decide) rfl ?_
  refine Ev.sts 6 (c' := (16, [some (.inr (.inr (.inr (43, 0, k)))), some (.inr (.inr (.inr (22, cap, b)))), some (.inl (iZ ((at_ : Int)))), some (.inl (iZ (0)))], [.inl (iZ (0)), .inl (iZ ((at_ : Int))), .inr (.inr (.inr (22, cap, b))), .inl (iZ (0)), .inr (.inr (.inr (44, (slen k), k)))], h)) rfl ?_
  refine Ev.gv (w := (iZ ((at_ : Int)))) rfl (shl0 _) ?_
  refine Ev.sts 2 (c' := (21, [some (.inr (.inr (.inr (43, 0, k)))), some (.inr (.inr (.inr (22, cap, b)))), some (.inl (iZ ((at_ : Int)))), some (.inl (iZ (0)))], [.inr (.inr (.inr (44, (slen k), k))), .inl (iZ ((at_ : Int))), .inr (.inr (.inr (22, cap, b))), .inl (iZ (0)), .inr (.inr (.inr (44, (slen k), k)))], h)) rfl ?_
  refine Ev.gv (w := (iZ ((slen k)))) rfl (iZ_nat _) ?_
  refine Ev.pcb (p := (iZ (0)) < 0 ∨ (iZ ((at_ : Int))) < 0 ∨ (iZ ((slen k))) < 0 ∨ (slen k) < ((iZ (0))).toNatClampNeg + ((iZ ((slen k)))).toNatClampNeg ∨ cap < ((iZ ((at_ : Int)))).toNatClampNeg + ((iZ ((slen k)))).toNatClampNeg) (f := fitb (sbyt k) ((iZ (0))).toNatClampNeg ((iZ ((slen k)))).toNatClampNeg) (c1 := (25, [some (.inr (.inr (.inr (43, 0, k)))), some (.inr (.inr (.inr (22, cap, b)))), some (.inl (iZ ((at_ : Int)))), some (.inl (iZ (0)))], [], (cpyS h k ((iZ (0))).toNatClampNeg b ((iZ ((at_ : Int)))).toNatClampNeg ((iZ ((slen k)))).toNatClampNeg))) (c2 := (25, [some (.inr (.inr (.inr (43, 0, k)))), some (.inr (.inr (.inr (22, cap, b)))), some (.inl (iZ ((at_ : Int)))), some (.inl (iZ (0)))], [], (cpyS h k 0 b at_ ((slen k))))) (cpy_in (s := 0) (d := at_) (k := (slen k)) (by omega) (by omega) (by omega) (by omega) (by omega) (by omega) (by omega)) (by rw [iZ_ix (n := 0) (by omega) (by omega), iZ_ix (n := (slen k)) (by omega) (by omega)]; exact (fit_ok (fun j hj => by rw [Nat.zero_add, txC_get]; exact byt_i _ (asT_get (txC_as k) j)))) rfl (by rw [cpyS_c (s := 0) (d := at_) (k := (slen k)) (by omega) (by omega) (by omega) (by omega) (by omega) (by omega)]) ?_
  refine Ev.sts 1 (c' := (43, [some (.inr (.inr (.inr (43, 0, k)))), some (.inr (.inr (.inr (22, cap, b)))), some (.inl (iZ ((at_ : Int)))), some (.inl (iZ (0)))], [], (cpyS h k 0 b at_ ((slen k))))) rfl ?_
  exact Ev.ret rfl (q)

theorem t1_gb_o {d cap b at_ a n v : Nat} {h : PH} (e0 : h.2.2.1 a 0 = (22, n, v)) (e1 : h.1 a 1 = iZ 0) (hl : n ≤ 2000) (hc : at_ + n ≤ cap) (hc2 : cap ≤ 100000) (bt : ∀ j, j < n → byt (h.1 v j)) : Rv (d + 1) 187 [.inr (.inr (.inr (14, 0, a))), .inr (.inr (.inr (22, cap, b))), .inl (iZ ((at_ : Int))), .inl (iZ (0))] h (none) (cpyI h v 0 b at_ n) := Rv.of fun Q q => by
  refine Ev.sts 1 (c' := (1, [some (.inr (.inr (.inr (14, 0, a)))), some (.inr (.inr (.inr (22, cap, b)))), some (.inl (iZ ((at_ : Int)))), some (.inl (iZ (0)))], [.inr (.inr (.inr (14, 0, a)))], h)) rfl ?_
  refine Ev.callv (a := [.inr (.inr (.inr (14, 0, a)))]) rfl (t1_coder_o e0 e1) ?_
  refine Ev.sts 1 (c' := (5, [some (.inr (.inr (.inr (14, 0, a)))), some (.inr (.inr (.inr (22, cap, b)))), some (.inl (iZ ((at_ : Int)))), some (.inl (iZ (0)))], [.inl (iZ (0)), .inl (iZ (0))], h)) rfl ?_
  refine Ev.brF (p := ¬ (iZ (0)) = (iZ (0))) (c1 := (28, [some (.inr (.inr (.inr (14, 0, a)))), some (.inr (.inr (.inr (22, cap, b)))), some (.inl (iZ ((at_ : Int)))), some (.inl (iZ (0)))], [], h)) (c2 := (8, [some (.inr (.inr (.inr (14, 0, a)))), some (.inr (.inr (.inr (22, cap, b)))), some (.inl (iZ ((at_ : Int)))), some (.inl (iZ (0)))], [], h)) (by decide) rfl ?_
  refine Ev.sts 1 (c' := (9, [some (.inr (.inr (.inr (14, 0, a)))), some (.inr (.inr (.inr (22, cap, b)))), some (.inl (iZ ((at_ : Int)))), some (.inl (iZ (0)))], [.inr (.inr (.inr (14, 0, a)))], h)) rfl ?_
  refine Ev.gfr (r := (22, n, v)) rfl e0 ?_
  refine Ev.sts 4 (c' := (16, [some (.inr (.inr (.inr (14, 0, a)))), some (.inr (.inr (.inr (22, cap, b)))), some (.inl (iZ ((at_ : Int)))), some (.inl (iZ (0)))], [.inl (iZ (0)), .inl (iZ ((at_ : Int))), .inr (.inr (.inr (22, cap, b))), .inl (iZ (0)), .inr (.inr (.inr (22, n, v)))], h)) rfl ?_
  refine Ev.gv (w := (iZ ((at_ : Int)))) rfl (shl0 _) ?_
  refine Ev.sts 1 (c' := (18, [some (.inr (.inr (.inr (14, 0, a)))), some (.inr (.inr (.inr (22, cap, b)))), some (.inl (iZ ((at_ : Int)))), some (.inl (iZ (0)))], [.inr (.inr (.inr (14, 0, a))), .inl (iZ ((at_ : Int))), .inr (.inr (.inr (22, cap, b))), .inl (iZ (0)), .inr (.inr (.inr (22, n, v)))], h)) rfl ?_
  refine Ev.gfr (r := (22, n, v)) rfl e0 ?_
  refine Ev.gv (w := (iZ (n))) rfl (iZ_nat _) ?_
  refine Ev.pcb (p := (iZ (0)) < 0 ∨ (iZ ((at_ : Int))) < 0 ∨ (iZ (n)) < 0 ∨ n < ((iZ (0))).toNatClampNeg + ((iZ (n))).toNatClampNeg ∨ cap < ((iZ ((at_ : Int)))).toNatClampNeg + ((iZ (n))).toNatClampNeg) (f := fitb (h.1 v) ((iZ (0))).toNatClampNeg ((iZ (n))).toNatClampNeg) (c1 := (25, [some (.inr (.inr (.inr (14, 0, a)))), some (.inr (.inr (.inr (22, cap, b)))), some (.inl (iZ ((at_ : Int)))), some (.inl (iZ (0)))], [], (cpyI h v ((iZ (0))).toNatClampNeg b ((iZ ((at_ : Int)))).toNatClampNeg ((iZ (n))).toNatClampNeg))) (c2 := (25, [some (.inr (.inr (.inr (14, 0, a)))), some (.inr (.inr (.inr (22, cap, b)))), some (.inl (iZ ((at_ : Int)))), some (.inl (iZ (0)))], [], (cpyI h v 0 b at_ n))) (cpy_in (s := 0) (d := at_) (k := n) (by omega) (by omega) (by omega) (by omega) (by omega) (by omega) (by omega)) (by rw [iZ_ix (n := 0) (by omega) (by omega), iZ_ix (n := n) (by omega) (by omega)]; exact (fit_ok (fun j hj => by rw [Nat.zero_add]; exact bt j hj))) rfl (by rw [cpy_c (s := 0) (d := at_) (k := n) (by omega) (by omega) (by omega) (by omega) (by omega) (by omega)]) ?_
  refine Ev.sts 1 (c' := (43, [some (.inr (.inr (.inr (14, 0, a)))), some (.inr (.inr (.inr (22, cap, b)))), some (.inl (iZ ((at_ : Int)))), some (.inl (iZ (0)))], [], (cpyI h v 0 b at_ n))) rfl ?_
  exact Ev.ret rfl (q)

/-! A text's methods, whatever text it is. -/
theorem tx_coder {d lo N : Nat} {r : VR} {T : List Int} {h : PH} (t : txR h lo N r T) : Rv d 186 [.inr (.inr (.inr r))] h (some (.inl (iZ 0))) h := by
  rcases t with ⟨k, rfl, -⟩ | ⟨a, v, rfl, -, e0, e1, -⟩
  · exact t1_coder_c
  · exact t1_coder_o e0 e1
theorem tx_length {d lo N : Nat} {r : VR} {T : List Int} {h : PH} (t : txR h lo N r T) : Rv (d + 1) 185 [.inr (.inr (.inr r))] h (some (.inl (iZ T.length))) h := by
  rcases t with ⟨k, rfl, rfl⟩ | ⟨a, v, rfl, -, e0, e1, -⟩
  · rw [txC_len]; exact t1_length_c
  · exact t1_length_o e0 e1
/-- T is written into the row b from at_ on -/
def wrB (h h1 : PH) (b at_ : Nat) (T : List Int) : Prop := h1.2 = h.2 ∧ (∀ x, x ≠ b → h1.1 x = h.1 x) ∧ (∀ j, j < T.length → h1.1 b (at_ + j) = iZ (T.getD j 0)) ∧ ∀ j, ¬ (at_ ≤ j ∧ j < at_ + T.length) → h1.1 b j = h.1 b j
theorem tx_getBytes {d lo N cap b at_ : Nat} {r : VR} {T : List Int} {h : PH} {Q : Rs → PH → Prop} (t : txR h lo N r T) (as : asT T) (hb : N ≤ b) (hl : T.length ≤ 2000) (hc : at_ + T.length ≤ cap) (hc2 : cap ≤ 100000) (q : ∀ h1, wrB h h1 b at_ T → Q (.inl none) h1) : Rn (d + 1) 187 [.inr (.inr (.inr r)), .inr (.inr (.inr (22, cap, b))), .inl (iZ (at_ : Int)), .inl (iZ (0))] h Q := by
  rcases t with ⟨k, rfl, rfl⟩ | ⟨a, v, rfl, ⟨-, -, -, l4⟩, e0, e1, e2⟩
  · have e := txC_len k
    refine Rn.of (t1_gb_c (by omega) (by omega) hc2) (q _ ⟨rfl, fun x hx => ?_, fun j hj => ?_, fun j hj => ?_⟩)
    · funext j; exact if_neg (fun z => hx z.1)
    · show (if b = b ∧ at_ ≤ at_ + j ∧ at_ + j < at_ + slen k then sbyt k (0 + (at_ + j - at_)) else h.1 b (at_ + j)) = _
      rw [if_pos ⟨rfl, by omega, by omega⟩, Nat.zero_add, Nat.add_sub_cancel_left, txC_get]
    · exact if_neg (fun z => hj ⟨z.2.1, by have := z.2.2; omega⟩)
  · refine Rn.of (t1_gb_o e0 e1 hl hc hc2 (fun j hj => by rw [e2 j hj]; exact byt_i _ (asT_get as j))) (q _ ⟨rfl, fun x hx => ?_, fun j hj => ?_, fun j hj => ?_⟩)
    · funext j; exact if_neg (fun z => hx z.1)
    · show (if b = b ∧ at_ ≤ at_ + j ∧ at_ + j < at_ + T.length then h.1 v (0 + (at_ + j - at_)) else h.1 b (at_ + j)) = _
      rw [if_pos ⟨rfl, by omega, by omega⟩, Nat.zero_add, Nat.add_sub_cancel_left, e2 j hj]
    · exact if_neg (fun z => hj ⟨z.2.1, z.2.2⟩)
