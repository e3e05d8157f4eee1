/-! Tests are written, at every depth. -/
theorem PT_K {mn dd E1 E2 E : Nat} (hdd : dd ≤ 3) (hv : PVs 169 tG (cV dd) tZ dd (9 - 2 * dd) (8 - 2 * dd) (4 - dd) 7 1990 E1) (ht : dd < 3 → PVs 163 (gM mn) (cT mn (dd + 1)) b01 (dd + 1) (12 - 2 * (dd + 1)) (19 - 4 * (dd + 1)) (14 - 3 * (dd + 1)) 16 1980 E2) (h1 : E1 ≤ E) (h2 : E2 ≤ E) : PVs 167 (gM mn) (cK mn dd) b01 dd (10 - 2 * dd) (15 - 4 * dd) (12 - 3 * dd) 20 1985 (E + 7) := by
  intro e he h L dr tk ln tp ks Q g b l en t1 t2 hd q
  obtain ⟨d, rfl⟩ : ∃ d, e = d + 7 := ⟨e - 7, by omega⟩
  exact kp_go hdd hv (by omega) ht (by omega) g b l en t1 t2 hd q
theorem PT_S {mn dd E : Nat} (hdd : dd ≤ 3) (hk : PVs 167 (gM mn) (cK mn dd) b01 dd (10 - 2 * dd) (15 - 4 * dd) (12 - 3 * dd) 20 1985 E) : PVs 165 (gM mn) (cS mn dd) b01 dd (10 - 2 * dd) (17 - 4 * dd) (14 - 3 * dd) 18 1980 (E + 7) := by
  intro e he h L dr tk ln tp ks Q g b l en t1 t2 hd q
  obtain ⟨d, rfl⟩ : ∃ d, e = d + 7 := ⟨e - 7, by omega⟩
  exact sg_go (E2 := 0) hdd hk (by omega) g b l en t1 t2 hd q
theorem PT_B {mn dd E : Nat} (hdd : dd ≤ 3) (hk : PVs 165 (gM mn) (cS mn dd) b01 dd (10 - 2 * dd) (17 - 4 * dd) (14 - 3 * dd) 18 1980 E) : PVs 164 (gM mn) (cB mn dd) b01 dd (11 - 2 * dd) (18 - 4 * dd) (14 - 3 * dd) 17 1980 (E + 7) := by
  intro e he h L dr tk ln tp ks Q g b l en t1 t2 hd q
  obtain ⟨d, rfl⟩ : ∃ d, e = d + 7 := ⟨e - 7, by omega⟩
  exact bo_go (E2 := 0) hdd hk (by omega) g b l en t1 t2 hd q
theorem PT_T {mn dd E : Nat} (hdd : dd ≤ 3) (hk : PVs 164 (gM mn) (cB mn dd) b01 dd (11 - 2 * dd) (18 - 4 * dd) (14 - 3 * dd) 17 1980 E) : PVs 163 (gM mn) (cT mn dd) b01 dd (12 - 2 * dd) (19 - 4 * dd) (14 - 3 * dd) 16 1980 (E + 7) := by
  intro e he h L dr tk ln tp ks Q g b l en t1 t2 hd q
  obtain ⟨d, rfl⟩ : ∃ d, e = d + 7 := ⟨e - 7, by omega⟩
  exact te_go (E2 := 0) hdd hk (by omega) g b l en t1 t2 hd q
/-- frames for a test at depth dd -/
def eTs (dd : Nat) : Nat := eV 0 + 28 * (4 - dd)
theorem eV_le (dd : Nat) : eV dd ≤ eV 0 := by unfold eV; omega
theorem PT_all (mn : Nat) : ∀ k dd : Nat, dd + k = 3 → PVs 163 (gM mn) (cT mn dd) b01 dd (12 - 2 * dd) (19 - 4 * dd) (14 - 3 * dd) 16 1980 (eTs dd) := by
  intro k
  induction k with
  | zero =>
    intro dd h
    have p := PT_T (by omega) (PT_B (by omega) (PT_S (by omega) (PT_K (mn := mn) (E := eV 0) (E2 := 0) (by omega) (PV_all 0 dd h) (fun z => absurd z (by omega)) (eV_le dd) (Nat.zero_le _))))
    rw [show eTs dd = eV 0 + 7 + 7 + 7 + 7 by unfold eTs; rw [show 4 - dd = 1 by omega]]
    exact p
  | succ k ih =>
    intro dd h
    have p := PT_T (by omega) (PT_B (by omega) (PT_S (by omega) (PT_K (mn := mn) (E := eTs (dd + 1)) (by omega) (PV_all (k + 1) dd h) (fun _ => ih (dd + 1) (by omega)) (by have := eV_le dd; unfold eTs; omega) (Nat.le_refl _))))
    rw [show eTs dd = eTs (dd + 1) + 7 + 7 + 7 + 7 by unfold eTs; rw [show 4 - dd = (4 - (dd + 1)) + 1 by omega]; omega]
    exact p
theorem val_0 : PVs 169 tG (cV 0) tZ 0 9 8 4 7 1990 (eV 0) := PV_all 3 0 rfl
theorem test_0 (mn : Nat) : PVs 163 (gM mn) (cT mn 0) b01 0 12 19 14 16 1980 (eTs 0) := PT_all mn 3 0 rfl
