/-! A method's contract out of one run of the pure machine. -/
noncomputable def exn (x : Nat) : String := match x with
  | 0 => "java/lang/IllegalStateException"
  | 1 => "java/lang/IllegalArgumentException"
  | _ => "java/lang/IndexOutOfBoundsException"
def pm_A (ρ : Nat → Nat) (al : List VR) (sz : Nat) : Nat → Prop := fun q => (∃ r ∈ al, q = ρ r.2.2) ∨ sz ≤ q
def RM (d mc ms : Nat) : Room := { frames := d + 10, cells := mc, slots := ms, locals := 60 * d + 300 }
noncomputable def wsm (m : Nat) : List Cond := mhd m :: TBL
/-- the stores at an end -/
def pm_End (K : KT) (A : Nat → Prop) (ρ : Nat → Nat) (al : List VR) (ρ' : Nat → Nat) (al' : List VR) (h' : PH) (st t : State) : Prop := inH K A ρ' al' h' t.heap ∧ okH K al' h' ∧ pm_x ρ al ρ' al' ∧ va_F A st t
def pm_Pc (K : KT) (ρ : Nat → Nat) (al : List VR) (h : PH) (sz : Nat) (a : List VV) : Array Value → State → Prop := fun v U => v = (a.map (pm_v K ρ)).toArray ∧ U.heap.size = sz ∧ inH K (pm_A ρ al sz) ρ al h U.heap ∧ pm_C K (pm_A ρ al sz) U U.heap
def pm_Qc (K : KT) (ρ : Nat → Nat) (al : List VR) (sz : Nat) (rr : Rs × PH) : Array Value → State → Outcome → State → Prop := fun _ st o t => ∃ v, rr.1 = .inl v ∧ ∃ ρ' al', o = .returned (v.map (pm_v K ρ')) ∧ (∀ x, v = some x → okV K al' (hN rr.2) x) ∧ pm_End K (pm_A ρ al sz) ρ al ρ' al' rr.2 st t
def pm_XC (K : KT) (ρ : Nat → Nat) (al : List VR) (sz : Nat) (rr : Rs × PH) : String → State → State → Prop := fun E st t => ∃ x, rr.1 = .inr x ∧ E = exn x ∧ ∃ ρ' al', okA al' (hN rr.2 - 1) ∧ pm_End K (pm_A ρ al sz) ρ al ρ' al' rr.2 st t
def pm_ko (K : KT) : Prop := ko K = .null ∨ ∃ a, ko K = .ref a
def CT (l : Launch) (d m : Nat) (a : List VV) (h : PH) (rr : Rs × PH) : Prop := ∀ (K : KT) (ρ : Nat → Nat) (al : List VR) (sz : Nat), pm_ko K → okH K al h → (∀ v ∈ a, okV K al (hN h) v) →
  vx_Met l (mn m) (wsm m) (RM d (hN rr.2 - hN h) (hS rr.2 - hS h)) (pm_Pc K ρ al h sz a) (pm_Qc K ρ al sz rr) (pm_XC K ρ al sz rr) (hN rr.2 - hN h) (hS rr.2 - hS h) (pm_A ρ al sz)
theorem met_of {l : Launch} {y : MethodName} {ws : List Cond} {rm : Room} {Pc : Array Value → State → Prop} {Qc : Array Value → State → Outcome → State → Prop} {XC : String → State → State → Prop} {mc ms : Nat} {free : Addr → Prop} (h : vx_Met l y ws rm Pc Qc XC mc ms free) (hx : ∀ E st t, ¬ XC E st t) : Met l y ws rm Pc Qc mc ms free := by
  intro p e ha hc hk s m args below hf happ hP hK
  obtain ⟨n, o, h1, h2, h3, h4⟩ := h p e ha hc hk s m args below hf happ hP hK
  refine ⟨n, o, h1, h2, h3, ?_⟩
  rcases h4 with h4 | ⟨q, -, E, ce, L, hX, -⟩
  · exact h4
  · exact absurd hX (hx _ _ _)
/-- methods that may be called: all of the tables but the law and the two of Math -/
def okM (m : Nat) : Prop := m < 225 ∧ 25 < m ∧ m ≠ 218 ∧ m ≠ 217
theorem mchk_at {m : Nat} (h25 : 25 ≤ m) (hm : m < 225) : mchk m = true := by
  have go : ∀ a n, ((List.range n).all fun k => mchk (a + k)) = true → a ≤ m → m < a + n → mchk m = true := by
    intro a n ha h1 h2
    have h3 := all_at ha (show m - a < n by omega)
    rw [show a + (m - a) = m by omega] at h3
    exact h3
  by_cases q0 : m < 45
  · exact go 25 20 mchk_0 (by omega) (by omega)
  by_cases q1 : m < 65
  · exact go 45 20 mchk_1 (by omega) (by omega)
  by_cases q2 : m < 85
  · exact go 65 20 mchk_2 (by omega) (by omega)
  by_cases q3 : m < 105
  · exact go 85 20 mchk_3 (by omega) (by omega)
  by_cases q4 : m < 125
  · exact go 105 20 mchk_4 (by omega) (by omega)
  by_cases q5 : m < 145
  · exact go 125 20 mchk_5 (by omega) (by omega)
  by_cases q6 : m < 165
  · exact go 145 20 mchk_6 (by omega) (by omega)
  by_cases q7 : m < 185
  · exact go 165 20 mchk_7 (by omega) (by omega)
  by_cases q8 : m < 205
  · exact go 185 20 mchk_8 (by omega) (by omega)
  exact go 205 20 mchk_9 (by omega) (by omega)
theorem mhd_in {m : Nat} (hm : okM m) : mhd m ∈ lw_tb2 := by
  obtain ⟨h1, h2, h3, h4⟩ := hm
  rcases Nat.lt_or_ge m 125 with q125 | q125
  · rcases Nat.lt_or_ge m 75 with q75 | q75
    · rcases Nat.lt_or_ge m 50 with q50 | q50
      · rcases Nat.lt_or_ge m 38 with q38 | q38
        · rcases Nat.lt_or_ge m 32 with q32 | q32
          · rcases Nat.lt_or_ge m 29 with q29 | q29
            · rcases Nat.lt_or_ge m 27 with q27 | q27
              · (obtain rfl : m = 26 := by omega); exact sub_lw _ _ (List.mem_of_getElem? mc_26)
              · rcases Nat.lt_or_ge m 28 with q28 | q28
                · (obtain rfl : m = 27 := by omega); exact sub_lw _ _ (List.mem_of_getElem? mc_27)
                · (obtain rfl : m = 28 := by omega); exact sub_lw _ _ (List.mem_of_getElem? mc_28)
            · rcases Nat.lt_or_ge m 30 with q30 | q30
              · (obtain rfl : m = 29 := by omega); exact sub_lw _ _ (List.mem_of_getElem? mc_29)
              · rcases Nat.lt_or_ge m 31 with q31 | q31
                · (obtain rfl : m = 30 := by omega); exact sub_lw _ _ (List.mem_of_getElem? mc_30)
                · (obtain rfl : m = 31 := by omega); exact sub_lw _ _ (List.mem_of_getElem? mc_31)
          · rcases Nat.lt_or_ge m 35 with q35 | q35
            · rcases Nat.lt_or_ge m 33 with q33 | q33
              · (obtain rfl : m = 32 := by omega); exact sub_lw _ _ (List.mem_of_getElem? mc_32)
              · rcases Nat.lt_or_ge m 34 with q34 | q34
                · (obtain rfl : m = 33 := by omega); exact sub_lw _ _ (List.mem_of_getElem? mc_33)
                · (obtain rfl : m = 34 := by omega); exact sub_lw _ _ (List.mem_of_getElem? mc_34)
            · rcases Nat.lt_or_ge m 36 with q36 | q36
              · (obtain rfl : m = 35 := by omega); exact sub_lw _ _ (List.mem_of_getElem? mc_35)
              · rcases Nat.lt_or_ge m 37 with q37 | q37
                · (obtain rfl : m = 36 := by omega); exact sub_lw _ _ (List.mem_of_getElem? mc_36)
                · (obtain rfl : m = 37 := by omega); exact sub_lw _ _ (List.mem_of_getElem? mc_37)
        · rcases Nat.lt_or_ge m 44 with q44 | q44
          · rcases Nat.lt_or_ge m 41 with q41 | q41
            · rcases Nat.lt_or_ge m 39 with q39 | q39
              · (obtain rfl : m = 38 := by omega); exact sub_lw _ _ (List.mem_of_getElem? mc_38)
              · rcases Nat.lt_or_ge m 40 with q40 | q40
                · (obtain rfl : m = 39 := by omega); exact sub_lw _ _ (List.mem_of_getElem? mc_39)
                · (obtain rfl : m = 40 := by omega); exact sub_lw _ _ (List.mem_of_getElem? mc_40)
            · rcases Nat.lt_or_ge m 42 with q42 | q42
              · (obtain rfl : m = 41 := by omega); exact sub_lw _ _ (List.mem_of_getElem? mc_41)
              · rcases Nat.lt_or_ge m 43 with q43 | q43
                · (obtain rfl : m = 42 := by omega); exact sub_lw _ _ (List.mem_of_getElem? mc_42)
                · (obtain rfl : m = 43 := by omega); exact sub_lw _ _ (List.mem_of_getElem? mc_43)
          · rcases Nat.lt_or_ge m 47 with q47 | q47
            · rcases Nat.lt_or_ge m 45 with q45 | q45
              · (obtain rfl : m = 44 := by omega); exact sub_lw _ _ (List.mem_of_getElem? mc_44)
              · rcases Nat.lt_or_ge m 46 with q46 | q46
                · (obtain rfl : m = 45 := by omega); exact sub_lw _ _ (List.mem_of_getElem? mc_45)
                · (obtain rfl : m = 46 := by omega); exact sub_lw _ _ (List.mem_of_getElem? mc_46)
            · rcases Nat.lt_or_ge m 48 with q48 | q48
              · (obtain rfl : m = 47 := by omega); exact sub_lw _ _ (List.mem_of_getElem? mc_47)
              · rcases Nat.lt_or_ge m 49 with q49 | q49
                · (obtain rfl : m = 48 := by omega); exact sub_lw _ _ (List.mem_of_getElem? mc_48)
                · (obtain rfl : m = 49 := by omega); exact sub_lw _ _ (List.mem_of_getElem? mc_49)
      · rcases Nat.lt_or_ge m 62 with q62 | q62
        · rcases Nat.lt_or_ge m 56 with q56 | q56
          · rcases Nat.lt_or_ge m 53 with q53 | q53
            · rcases Nat.lt_or_ge m 51 with q51 | q51
              · (obtain rfl : m = 50 := by omega); exact sub_lw _ _ (List.mem_of_getElem? mc_50)
              · rcases Nat.lt_or_ge m 52 with q52 | q52
                · (obtain rfl : m = 51 := by omega); exact sub_lw _ _ (List.mem_of_getElem? mc_51)
                · (obtain rfl : m = 52 := by omega); exact sub_lw _ _ (List.mem_of_getElem? mc_52)
            · rcases Nat.lt_or_ge m 54 with q54 | q54
              · (obtain rfl : m = 53 := by omega); exact sub_lw _ _ (List.mem_of_getElem? mc_53)
              · rcases Nat.lt_or_ge m 55 with q55 | q55
                · (obtain rfl : m = 54 := by omega); exact sub_lw _ _ (List.mem_of_getElem? mc_54)
                · (obtain rfl : m = 55 := by omega); exact sub_lw _ _ (List.mem_of_getElem? mc_55)
          · rcases Nat.lt_or_ge m 59 with q59 | q59
            · rcases Nat.lt_or_ge m 57 with q57 | q57
              · (obtain rfl : m = 56 := by omega); exact sub_lw _ _ (List.mem_of_getElem? mc_56)
              · rcases Nat.lt_or_ge m 58 with q58 | q58
                · (obtain rfl : m = 57 := by omega); exact sub_lw _ _ (List.mem_of_getElem? mc_57)
                · (obtain rfl : m = 58 := by omega); exact sub_lw _ _ (List.mem_of_getElem? mc_58)
            · rcases Nat.lt_or_ge m 60 with q60 | q60
              · (obtain rfl : m = 59 := by omega); exact sub_lw _ _ (List.mem_of_getElem? mc_59)
              · rcases Nat.lt_or_ge m 61 with q61 | q61
                · (obtain rfl : m = 60 := by omega); exact sub_lw _ _ (List.mem_of_getElem? mc_60)
                · (obtain rfl : m = 61 := by omega); exact sub_lw _ _ (List.mem_of_getElem? mc_61)
        · rcases Nat.lt_or_ge m 68 with q68 | q68
          · rcases Nat.lt_or_ge m 65 with q65 | q65
            · rcases Nat.lt_or_ge m 63 with q63 | q63
              · (obtain rfl : m = 62 := by omega); exact sub_lw _ _ (List.mem_of_getElem? mc_62)
              · rcases Nat.lt_or_ge m 64 with q64 | q64
                · (obtain rfl : m = 63 := by omega); exact sub_lw _ _ (List.mem_of_getElem? mc_63)
                · (obtain rfl : m = 64 := by omega); exact sub_lw _ _ (List.mem_of_getElem? mc_64)
            · rcases Nat.lt_or_ge m 66 with q66 | q66
              · (obtain rfl : m = 65 := by omega); exact sub_lw _ _ (List.mem_of_getElem? mc_65)
              · rcases Nat.lt_or_ge m 67 with q67 | q67
                · (obtain rfl : m = 66 := by omega); exact sub_lw _ _ (List.mem_of_getElem? mc_66)
                · (obtain rfl : m = 67 := by omega); exact sub_lw _ _ (List.mem_of_getElem? mc_67)
          · rcases Nat.lt_or_ge m 71 with q71 | q71
            · rcases Nat.lt_or_ge m 69 with q69 | q69
              · (obtain rfl : m = 68 := by omega); exact sub_lw _ _ (List.mem_of_getElem? mc_68)
              · rcases Nat.lt_or_ge m 70 with q70 | q70
                · (obtain rfl : m = 69 := by omega); exact sub_lw _ _ (List.mem_of_getElem? mc_69)
                · (obtain rfl : m = 70 := by omega); exact sub_lw _ _ (List.mem_of_getElem? mc_70)
            · rcases Nat.lt_or_ge m 73 with q73 | q73
              · rcases Nat.lt_or_ge m 72 with q72 | q72
                · (obtain rfl : m = 71 := by omega); exact sub_lw _ _ (List.mem_of_getElem? mc_71)
                · (obtain rfl : m = 72 := by omega); exact sub_lw _ _ (List.mem_of_getElem? mc_72)
              · rcases Nat.lt_or_ge m 74 with q74 | q74
                · (obtain rfl : m = 73 := by omega); exact sub_lw _ _ (List.mem_of_getElem? mc_73)
                · (obtain rfl : m = 74 := by omega); exact sub_lw _ _ (List.mem_of_getElem? mc_74)
    · rcases Nat.lt_or_ge m 100 with q100 | q100
      · rcases Nat.lt_or_ge m 87 with q87 | q87
        · rcases Nat.lt_or_ge m 81 with q81 | q81
          · rcases Nat.lt_or_ge m 78 with q78 | q78
            · rcases Nat.lt_or_ge m 76 with q76 | q76
              · (obtain rfl : m = 75 := by omega); exact sub_lw _ _ (List.mem_of_getElem? mc_75)
              · rcases Nat.lt_or_ge m 77 with q77 | q77
                · (obtain rfl : m = 76 := by omega); exact sub_lw _ _ (List.mem_of_getElem? mc_76)
                · (obtain rfl : m = 77 := by omega); exact sub_lw _ _ (List.mem_of_getElem? mc_77)
            · rcases Nat.lt_or_ge m 79 with q79 | q79
              · (obtain rfl : m = 78 := by omega); exact sub_lw _ _ (List.mem_of_getElem? mc_78)
              · rcases Nat.lt_or_ge m 80 with q80 | q80
                · (obtain rfl : m = 79 := by omega); exact sub_lw _ _ (List.mem_of_getElem? mc_79)
                · (obtain rfl : m = 80 := by omega); exact sub_lw _ _ (List.mem_of_getElem? mc_80)
          · rcases Nat.lt_or_ge m 84 with q84 | q84
            · rcases Nat.lt_or_ge m 82 with q82 | q82
              · (obtain rfl : m = 81 := by omega); exact sub_lw _ _ (List.mem_of_getElem? mc_81)
              · rcases Nat.lt_or_ge m 83 with q83 | q83
                · (obtain rfl : m = 82 := by omega); exact sub_lw _ _ (List.mem_of_getElem? mc_82)
                · (obtain rfl : m = 83 := by omega); exact sub_lw _ _ (List.mem_of_getElem? mc_83)
            · rcases Nat.lt_or_ge m 85 with q85 | q85
              · (obtain rfl : m = 84 := by omega); exact sub_lw _ _ (List.mem_of_getElem? mc_84)
              · rcases Nat.lt_or_ge m 86 with q86 | q86
                · (obtain rfl : m = 85 := by omega); exact sub_lw _ _ (List.mem_of_getElem? mc_85)
                · (obtain rfl : m = 86 := by omega); exact sub_lw _ _ (List.mem_of_getElem? mc_86)
        · rcases Nat.lt_or_ge m 93 with q93 | q93
          · rcases Nat.lt_or_ge m 90 with q90 | q90
            · rcases Nat.lt_or_ge m 88 with q88 | q88
              · (obtain rfl : m = 87 := by omega); exact sub_lw _ _ (List.mem_of_getElem? mc_87)
              · rcases Nat.lt_or_ge m 89 with q89 | q89
                · (obtain rfl : m = 88 := by omega); exact sub_lw _ _ (List.mem_of_getElem? mc_88)
                · (obtain rfl : m = 89 := by omega); exact sub_lw _ _ (List.mem_of_getElem? mc_89)
            · rcases Nat.lt_or_ge m 91 with q91 | q91
              · (obtain rfl : m = 90 := by omega); exact sub_lw _ _ (List.mem_of_getElem? mc_90)
              · rcases Nat.lt_or_ge m 92 with q92 | q92
                · (obtain rfl : m = 91 := by omega); exact sub_lw _ _ (List.mem_of_getElem? mc_91)
                · (obtain rfl : m = 92 := by omega); exact sub_lw _ _ (List.mem_of_getElem? mc_92)
          · rcases Nat.lt_or_ge m 96 with q96 | q96
            · rcases Nat.lt_or_ge m 94 with q94 | q94
              · (obtain rfl : m = 93 := by omega); exact sub_lw _ _ (List.mem_of_getElem? mc_93)
              · rcases Nat.lt_or_ge m 95 with q95 | q95
                · (obtain rfl : m = 94 := by omega); exact sub_lw _ _ (List.mem_of_getElem? mc_94)
                · (obtain rfl : m = 95 := by omega); exact sub_lw _ _ (List.mem_of_getElem? mc_95)
            · rcases Nat.lt_or_ge m 98 with q98 | q98
              · rcases Nat.lt_or_ge m 97 with q97 | q97
                · (obtain rfl : m = 96 := by omega); exact sub_lw _ _ (List.mem_of_getElem? mc_96)
                · (obtain rfl : m = 97 := by omega); exact sub_lw _ _ (List.mem_of_getElem? mc_97)
              · rcases Nat.lt_or_ge m 99 with q99 | q99
                · (obtain rfl : m = 98 := by omega); exact sub_lw _ _ (List.mem_of_getElem? mc_98)
                · (obtain rfl : m = 99 := by omega); exact sub_lw _ _ (List.mem_of_getElem? mc_99)
      · rcases Nat.lt_or_ge m 112 with q112 | q112
        · rcases Nat.lt_or_ge m 106 with q106 | q106
          · rcases Nat.lt_or_ge m 103 with q103 | q103
            · rcases Nat.lt_or_ge m 101 with q101 | q101
              · (obtain rfl : m = 100 := by omega); exact sub_lw _ _ (List.mem_of_getElem? mc_100)
              · rcases Nat.lt_or_ge m 102 with q102 | q102
                · (obtain rfl : m = 101 := by omega); exact sub_lw _ _ (List.mem_of_getElem? mc_101)
                · (obtain rfl : m = 102 := by omega); exact sub_lw _ _ (List.mem_of_getElem? mc_102)
            · rcases Nat.lt_or_ge m 104 with q104 | q104
              · (obtain rfl : m = 103 := by omega); exact sub_lw _ _ (List.mem_of_getElem? mc_103)
              · rcases Nat.lt_or_ge m 105 with q105 | q105
                · (obtain rfl : m = 104 := by omega); exact sub_lw _ _ (List.mem_of_getElem? mc_104)
                · (obtain rfl : m = 105 := by omega); exact sub_lw _ _ (List.mem_of_getElem? mc_105)
          · rcases Nat.lt_or_ge m 109 with q109 | q109
            · rcases Nat.lt_or_ge m 107 with q107 | q107
              · (obtain rfl : m = 106 := by omega); exact sub_lw _ _ (List.mem_of_getElem? mc_106)
              · rcases Nat.lt_or_ge m 108 with q108 | q108
                · (obtain rfl : m = 107 := by omega); exact sub_lw _ _ (List.mem_of_getElem? mc_107)
                · (obtain rfl : m = 108 := by omega); exact sub_lw _ _ (List.mem_of_getElem? mc_108)
            · rcases Nat.lt_or_ge m 110 with q110 | q110
              · (obtain rfl : m = 109 := by omega); exact sub_lw _ _ (List.mem_of_getElem? mc_109)
              · rcases Nat.lt_or_ge m 111 with q111 | q111
                · (obtain rfl : m = 110 := by omega); exact sub_lw _ _ (List.mem_of_getElem? mc_110)
                · (obtain rfl : m = 111 := by omega); exact sub_lw _ _ (List.mem_of_getElem? mc_111)
        · rcases Nat.lt_or_ge m 118 with q118 | q118
          · rcases Nat.lt_or_ge m 115 with q115 | q115
            · rcases Nat.lt_or_ge m 113 with q113 | q113
              · (obtain rfl : m = 112 := by omega); exact sub_lw _ _ (List.mem_of_getElem? mc_112)
              · rcases Nat.lt_or_ge m 114 with q114 | q114
                · (obtain rfl : m = 113 := by omega); exact sub_lw _ _ (List.mem_of_getElem? mc_113)
                · (obtain rfl : m = 114 := by omega); exact sub_lw _ _ (List.mem_of_getElem? mc_114)
            · rcases Nat.lt_or_ge m 116 with q116 | q116
              · (obtain rfl : m = 115 := by omega); exact sub_lw _ _ (List.mem_of_getElem? mc_115)
              · rcases Nat.lt_or_ge m 117 with q117 | q117
                · (obtain rfl : m = 116 := by omega); exact sub_lw _ _ (List.mem_of_getElem? mc_116)
                · (obtain rfl : m = 117 := by omega); exact sub_lw _ _ (List.mem_of_getElem? mc_117)
          · rcases Nat.lt_or_ge m 121 with q121 | q121
            · rcases Nat.lt_or_ge m 119 with q119 | q119
              · (obtain rfl : m = 118 := by omega); exact sub_lw _ _ (List.mem_of_getElem? mc_118)
              · rcases Nat.lt_or_ge m 120 with q120 | q120
                · (obtain rfl : m = 119 := by omega); exact sub_lw _ _ (List.mem_of_getElem? mc_119)
                · (obtain rfl : m = 120 := by omega); exact sub_lw _ _ (List.mem_of_getElem? mc_120)
            · rcases Nat.lt_or_ge m 123 with q123 | q123
              · rcases Nat.lt_or_ge m 122 with q122 | q122
                · (obtain rfl : m = 121 := by omega); exact sub_lw _ _ (List.mem_of_getElem? mc_121)
                · (obtain rfl : m = 122 := by omega); exact sub_lw _ _ (List.mem_of_getElem? mc_122)
              · rcases Nat.lt_or_ge m 124 with q124 | q124
                · (obtain rfl : m = 123 := by omega); exact sub_lw _ _ (List.mem_of_getElem? mc_123)
                · (obtain rfl : m = 124 := by omega); exact sub_lw _ _ (List.mem_of_getElem? mc_124)
  · rcases Nat.lt_or_ge m 175 with q175 | q175
    · rcases Nat.lt_or_ge m 150 with q150 | q150
      · rcases Nat.lt_or_ge m 137 with q137 | q137
        · rcases Nat.lt_or_ge m 131 with q131 | q131
          · rcases Nat.lt_or_ge m 128 with q128 | q128
            · rcases Nat.lt_or_ge m 126 with q126 | q126
              · (obtain rfl : m = 125 := by omega); exact sub_lw _ _ (List.mem_of_getElem? mc_125)
              · rcases Nat.lt_or_ge m 127 with q127 | q127
                · (obtain rfl : m = 126 := by omega); exact sub_lw _ _ (List.mem_of_getElem? mc_126)
                · (obtain rfl : m = 127 := by omega); exact sub_lw _ _ (List.mem_of_getElem? mc_127)
            · rcases Nat.lt_or_ge m 129 with q129 | q129
              · (obtain rfl : m = 128 := by omega); exact sub_lw _ _ (List.mem_of_getElem? mc_128)
              · rcases Nat.lt_or_ge m 130 with q130 | q130
                · (obtain rfl : m = 129 := by omega); exact sub_lw _ _ (List.mem_of_getElem? mc_129)
                · (obtain rfl : m = 130 := by omega); exact sub_lw _ _ (List.mem_of_getElem? mc_130)
          · rcases Nat.lt_or_ge m 134 with q134 | q134
            · rcases Nat.lt_or_ge m 132 with q132 | q132
              · (obtain rfl : m = 131 := by omega); exact sub_lw _ _ (List.mem_of_getElem? mc_131)
              · rcases Nat.lt_or_ge m 133 with q133 | q133
                · (obtain rfl : m = 132 := by omega); exact sub_lw _ _ (List.mem_of_getElem? mc_132)
                · (obtain rfl : m = 133 := by omega); exact sub_lw _ _ (List.mem_of_getElem? mc_133)
            · rcases Nat.lt_or_ge m 135 with q135 | q135
              · (obtain rfl : m = 134 := by omega); exact sub_lw _ _ (List.mem_of_getElem? mc_134)
              · rcases Nat.lt_or_ge m 136 with q136 | q136
                · (obtain rfl : m = 135 := by omega); exact sub_lw _ _ (List.mem_of_getElem? mc_135)
                · (obtain rfl : m = 136 := by omega); exact sub_lw _ _ (List.mem_of_getElem? mc_136)
        · rcases Nat.lt_or_ge m 143 with q143 | q143
          · rcases Nat.lt_or_ge m 140 with q140 | q140
            · rcases Nat.lt_or_ge m 138 with q138 | q138
              · (obtain rfl : m = 137 := by omega); exact sub_lw _ _ (List.mem_of_getElem? mc_137)
              · rcases Nat.lt_or_ge m 139 with q139 | q139
                · (obtain rfl : m = 138 := by omega); exact sub_lw _ _ (List.mem_of_getElem? mc_138)
                · (obtain rfl : m = 139 := by omega); exact sub_lw _ _ (List.mem_of_getElem? mc_139)
            · rcases Nat.lt_or_ge m 141 with q141 | q141
              · (obtain rfl : m = 140 := by omega); exact sub_lw _ _ (List.mem_of_getElem? mc_140)
              · rcases Nat.lt_or_ge m 142 with q142 | q142
                · (obtain rfl : m = 141 := by omega); exact sub_lw _ _ (List.mem_of_getElem? mc_141)
                · (obtain rfl : m = 142 := by omega); exact sub_lw _ _ (List.mem_of_getElem? mc_142)
          · rcases Nat.lt_or_ge m 146 with q146 | q146
            · rcases Nat.lt_or_ge m 144 with q144 | q144
              · (obtain rfl : m = 143 := by omega); exact sub_lw _ _ (List.mem_of_getElem? mc_143)
              · rcases Nat.lt_or_ge m 145 with q145 | q145
                · (obtain rfl : m = 144 := by omega); exact sub_lw _ _ (List.mem_of_getElem? mc_144)
                · (obtain rfl : m = 145 := by omega); exact sub_lw _ _ (List.mem_of_getElem? mc_145)
            · rcases Nat.lt_or_ge m 148 with q148 | q148
              · rcases Nat.lt_or_ge m 147 with q147 | q147
                · (obtain rfl : m = 146 := by omega); exact sub_lw _ _ (List.mem_of_getElem? mc_146)
                · (obtain rfl : m = 147 := by omega); exact sub_lw _ _ (List.mem_of_getElem? mc_147)
              · rcases Nat.lt_or_ge m 149 with q149 | q149
                · (obtain rfl : m = 148 := by omega); exact sub_lw _ _ (List.mem_of_getElem? mc_148)
                · (obtain rfl : m = 149 := by omega); exact sub_lw _ _ (List.mem_of_getElem? mc_149)
      · rcases Nat.lt_or_ge m 162 with q162 | q162
        · rcases Nat.lt_or_ge m 156 with q156 | q156
          · rcases Nat.lt_or_ge m 153 with q153 | q153
            · rcases Nat.lt_or_ge m 151 with q151 | q151
              · (obtain rfl : m = 150 := by omega); exact sub_lw _ _ (List.mem_of_getElem? mc_150)
              · rcases Nat.lt_or_ge m 152 with q152 | q152
                · (obtain rfl : m = 151 := by omega); exact sub_lw _ _ (List.mem_of_getElem? mc_151)
                · (obtain rfl : m = 152 := by omega); exact sub_lw _ _ (List.mem_of_getElem? mc_152)
            · rcases Nat.lt_or_ge m 154 with q154 | q154
              · (obtain rfl : m = 153 := by omega); exact sub_lw _ _ (List.mem_of_getElem? mc_153)
              · rcases Nat.lt_or_ge m 155 with q155 | q155
                · (obtain rfl : m = 154 := by omega); exact sub_lw _ _ (List.mem_of_getElem? mc_154)
                · (obtain rfl : m = 155 := by omega); exact sub_lw _ _ (List.mem_of_getElem? mc_155)
          · rcases Nat.lt_or_ge m 159 with q159 | q159
            · rcases Nat.lt_or_ge m 157 with q157 | q157
              · (obtain rfl : m = 156 := by omega); exact sub_lw _ _ (List.mem_of_getElem? mc_156)
              · rcases Nat.lt_or_ge m 158 with q158 | q158
                · (obtain rfl : m = 157 := by omega); exact sub_lw _ _ (List.mem_of_getElem? mc_157)
                · (obtain rfl : m = 158 := by omega); exact sub_lw _ _ (List.mem_of_getElem? mc_158)
            · rcases Nat.lt_or_ge m 160 with q160 | q160
              · (obtain rfl : m = 159 := by omega); exact sub_lw _ _ (List.mem_of_getElem? mc_159)
              · rcases Nat.lt_or_ge m 161 with q161 | q161
                · (obtain rfl : m = 160 := by omega); exact sub_lw _ _ (List.mem_of_getElem? mc_160)
                · (obtain rfl : m = 161 := by omega); exact sub_lw _ _ (List.mem_of_getElem? mc_161)
        · rcases Nat.lt_or_ge m 168 with q168 | q168
          · rcases Nat.lt_or_ge m 165 with q165 | q165
            · rcases Nat.lt_or_ge m 163 with q163 | q163
              · (obtain rfl : m = 162 := by omega); exact sub_lw _ _ (List.mem_of_getElem? mc_162)
              · rcases Nat.lt_or_ge m 164 with q164 | q164
                · (obtain rfl : m = 163 := by omega); exact sub_lw _ _ (List.mem_of_getElem? mc_163)
                · (obtain rfl : m = 164 := by omega); exact sub_lw _ _ (List.mem_of_getElem? mc_164)
            · rcases Nat.lt_or_ge m 166 with q166 | q166
              · (obtain rfl : m = 165 := by omega); exact sub_lw _ _ (List.mem_of_getElem? mc_165)
              · rcases Nat.lt_or_ge m 167 with q167 | q167
                · (obtain rfl : m = 166 := by omega); exact sub_lw _ _ (List.mem_of_getElem? mc_166)
                · (obtain rfl : m = 167 := by omega); exact sub_lw _ _ (List.mem_of_getElem? mc_167)
          · rcases Nat.lt_or_ge m 171 with q171 | q171
            · rcases Nat.lt_or_ge m 169 with q169 | q169
              · (obtain rfl : m = 168 := by omega); exact sub_lw _ _ (List.mem_of_getElem? mc_168)
              · rcases Nat.lt_or_ge m 170 with q170 | q170
                · (obtain rfl : m = 169 := by omega); exact sub_lw _ _ (List.mem_of_getElem? mc_169)
                · (obtain rfl : m = 170 := by omega); exact sub_lw _ _ (List.mem_of_getElem? mc_170)
            · rcases Nat.lt_or_ge m 173 with q173 | q173
              · rcases Nat.lt_or_ge m 172 with q172 | q172
                · (obtain rfl : m = 171 := by omega); exact sub_lw _ _ (List.mem_of_getElem? mc_171)
                · (obtain rfl : m = 172 := by omega); exact sub_lw _ _ (List.mem_of_getElem? mc_172)
              · rcases Nat.lt_or_ge m 174 with q174 | q174
                · (obtain rfl : m = 173 := by omega); exact sub_lw _ _ (List.mem_of_getElem? mc_173)
                · (obtain rfl : m = 174 := by omega); exact sub_lw _ _ (List.mem_of_getElem? mc_174)
    · rcases Nat.lt_or_ge m 200 with q200 | q200
      · rcases Nat.lt_or_ge m 187 with q187 | q187
        · rcases Nat.lt_or_ge m 181 with q181 | q181
          · rcases Nat.lt_or_ge m 178 with q178 | q178
            · rcases Nat.lt_or_ge m 176 with q176 | q176
              · (obtain rfl : m = 175 := by omega); exact sub_lw _ _ (List.mem_of_getElem? mc_175)
              · rcases Nat.lt_or_ge m 177 with q177 | q177
                · (obtain rfl : m = 176 := by omega); exact sub_lw _ _ (List.mem_of_getElem? mc_176)
                · (obtain rfl : m = 177 := by omega); exact sub_lw _ _ (List.mem_of_getElem? mc_177)
            · rcases Nat.lt_or_ge m 179 with q179 | q179
              · (obtain rfl : m = 178 := by omega); exact sub_lw _ _ (List.mem_of_getElem? mc_178)
              · rcases Nat.lt_or_ge m 180 with q180 | q180
                · (obtain rfl : m = 179 := by omega); exact sub_lw _ _ (List.mem_of_getElem? mc_179)
                · (obtain rfl : m = 180 := by omega); exact sub_lw _ _ (List.mem_of_getElem? mc_180)
          · rcases Nat.lt_or_ge m 184 with q184 | q184
            · rcases Nat.lt_or_ge m 182 with q182 | q182
              · (obtain rfl : m = 181 := by omega); exact sub_lw _ _ (List.mem_of_getElem? mc_181)
              · rcases Nat.lt_or_ge m 183 with q183 | q183
                · (obtain rfl : m = 182 := by omega); exact sub_lw _ _ (List.mem_of_getElem? mc_182)
                · (obtain rfl : m = 183 := by omega); exact sub_lw _ _ (List.mem_of_getElem? mc_183)
            · rcases Nat.lt_or_ge m 185 with q185 | q185
              · (obtain rfl : m = 184 := by omega); exact sub_lw _ _ (List.mem_of_getElem? mc_184)
              · rcases Nat.lt_or_ge m 186 with q186 | q186
                · (obtain rfl : m = 185 := by omega); exact sub_lw _ _ (List.mem_of_getElem? mc_185)
                · (obtain rfl : m = 186 := by omega); exact sub_lw _ _ (List.mem_of_getElem? mc_186)
        · rcases Nat.lt_or_ge m 193 with q193 | q193
          · rcases Nat.lt_or_ge m 190 with q190 | q190
            · rcases Nat.lt_or_ge m 188 with q188 | q188
              · (obtain rfl : m = 187 := by omega); exact sub_lw _ _ (List.mem_of_getElem? mc_187)
              · rcases Nat.lt_or_ge m 189 with q189 | q189
                · (obtain rfl : m = 188 := by omega); exact sub_lw _ _ (List.mem_of_getElem? mc_188)
                · (obtain rfl : m = 189 := by omega); exact sub_lw _ _ (List.mem_of_getElem? mc_189)
            · rcases Nat.lt_or_ge m 191 with q191 | q191
              · (obtain rfl : m = 190 := by omega); exact sub_lw _ _ (List.mem_of_getElem? mc_190)
              · rcases Nat.lt_or_ge m 192 with q192 | q192
                · (obtain rfl : m = 191 := by omega); exact sub_lw _ _ (List.mem_of_getElem? mc_191)
                · (obtain rfl : m = 192 := by omega); exact sub_lw _ _ (List.mem_of_getElem? mc_192)
          · rcases Nat.lt_or_ge m 196 with q196 | q196
            · rcases Nat.lt_or_ge m 194 with q194 | q194
              · (obtain rfl : m = 193 := by omega); exact sub_lw _ _ (List.mem_of_getElem? mc_193)
              · rcases Nat.lt_or_ge m 195 with q195 | q195
                · (obtain rfl : m = 194 := by omega); exact sub_lw _ _ (List.mem_of_getElem? mc_194)
                · (obtain rfl : m = 195 := by omega); exact sub_lw _ _ (List.mem_of_getElem? mc_195)
            · rcases Nat.lt_or_ge m 198 with q198 | q198
              · rcases Nat.lt_or_ge m 197 with q197 | q197
                · (obtain rfl : m = 196 := by omega); exact sub_lw _ _ (List.mem_of_getElem? mc_196)
                · (obtain rfl : m = 197 := by omega); exact sub_lw _ _ (List.mem_of_getElem? mc_197)
              · rcases Nat.lt_or_ge m 199 with q199 | q199
                · (obtain rfl : m = 198 := by omega); exact sub_lw _ _ (List.mem_of_getElem? mc_198)
                · (obtain rfl : m = 199 := by omega); exact sub_lw _ _ (List.mem_of_getElem? mc_199)
      · rcases Nat.lt_or_ge m 212 with q212 | q212
        · rcases Nat.lt_or_ge m 206 with q206 | q206
          · rcases Nat.lt_or_ge m 203 with q203 | q203
            · rcases Nat.lt_or_ge m 201 with q201 | q201
              · (obtain rfl : m = 200 := by omega); exact sub_lw _ _ (List.mem_of_getElem? mc_200)
              · rcases Nat.lt_or_ge m 202 with q202 | q202
                · (obtain rfl : m = 201 := by omega); exact sub_lw _ _ (List.mem_of_getElem? mc_201)
                · (obtain rfl : m = 202 := by omega); exact sub_lw _ _ (List.mem_of_getElem? mc_202)
            · rcases Nat.lt_or_ge m 204 with q204 | q204
              · (obtain rfl : m = 203 := by omega); exact sub_lw _ _ (List.mem_of_getElem? mc_203)
              · rcases Nat.lt_or_ge m 205 with q205 | q205
                · (obtain rfl : m = 204 := by omega); exact sub_lw _ _ (List.mem_of_getElem? mc_204)
                · (obtain rfl : m = 205 := by omega); exact sub_lw _ _ (List.mem_of_getElem? mc_205)
          · rcases Nat.lt_or_ge m 209 with q209 | q209
            · rcases Nat.lt_or_ge m 207 with q207 | q207
              · (obtain rfl : m = 206 := by omega); exact sub_lw _ _ (List.mem_of_getElem? mc_206)
              · rcases Nat.lt_or_ge m 208 with q208 | q208
                · (obtain rfl : m = 207 := by omega); exact sub_lw _ _ (List.mem_of_getElem? mc_207)
                · (obtain rfl : m = 208 := by omega); exact sub_lw _ _ (List.mem_of_getElem? mc_208)
            · rcases Nat.lt_or_ge m 210 with q210 | q210
              · (obtain rfl : m = 209 := by omega); exact sub_lw _ _ (List.mem_of_getElem? mc_209)
              · rcases Nat.lt_or_ge m 211 with q211 | q211
                · (obtain rfl : m = 210 := by omega); exact sub_lw _ _ (List.mem_of_getElem? mc_210)
                · (obtain rfl : m = 211 := by omega); exact sub_lw _ _ (List.mem_of_getElem? mc_211)
        · rcases Nat.lt_or_ge m 218 with q218 | q218
          · rcases Nat.lt_or_ge m 215 with q215 | q215
            · rcases Nat.lt_or_ge m 213 with q213 | q213
              · (obtain rfl : m = 212 := by omega); exact sub_lw _ _ (List.mem_of_getElem? mc_212)
              · rcases Nat.lt_or_ge m 214 with q214 | q214
                · (obtain rfl : m = 213 := by omega); exact sub_lw _ _ (List.mem_of_getElem? mc_213)
                · (obtain rfl : m = 214 := by omega); exact sub_lw _ _ (List.mem_of_getElem? mc_214)
            · rcases Nat.lt_or_ge m 216 with q216 | q216
              · (obtain rfl : m = 215 := by omega); exact sub_lw _ _ (List.mem_of_getElem? mc_215)
              · rcases Nat.lt_or_ge m 217 with q217 | q217
                · (obtain rfl : m = 216 := by omega); exact sub_lw _ _ (List.mem_of_getElem? mc_216)
                · (obtain rfl : m = 217 := by omega); exact sub_lw _ _ (List.mem_of_getElem? mc_217)
          · rcases Nat.lt_or_ge m 221 with q221 | q221
            · rcases Nat.lt_or_ge m 219 with q219 | q219
              · (obtain rfl : m = 218 := by omega); exact sub_lw _ _ (List.mem_of_getElem? mc_218)
              · rcases Nat.lt_or_ge m 220 with q220 | q220
                · (obtain rfl : m = 219 := by omega); exact sub_lw _ _ (List.mem_of_getElem? mc_219)
                · (obtain rfl : m = 220 := by omega); exact sub_lw _ _ (List.mem_of_getElem? mc_220)
            · rcases Nat.lt_or_ge m 223 with q223 | q223
              · rcases Nat.lt_or_ge m 222 with q222 | q222
                · (obtain rfl : m = 221 := by omega); exact sub_lw _ _ (List.mem_of_getElem? mc_221)
                · (obtain rfl : m = 222 := by omega); exact sub_lw _ _ (List.mem_of_getElem? mc_222)
              · rcases Nat.lt_or_ge m 224 with q224 | q224
                · (obtain rfl : m = 223 := by omega); exact sub_lw _ _ (List.mem_of_getElem? mc_223)
                · (obtain rfl : m = 224 := by omega); exact sub_lw _ _ (List.mem_of_getElem? mc_224)
/-- all that a method's tables say -/
theorem m_facts {m : Nat} (hm : okM m) : mhd m ∈ TBL ∧ (if mst m = true then Cond.static (mn m) ∈ TBL else Cond.instanceMethod (mn m) ∈ TBL) ∧ (mst m = false → mini m = false → m ≠ 213 → suq m = false → m ≠ 196 → Cond.selects (rcn m) (mn m) (mn m) ∈ TBL) ∧ Cond.initialized (mn m).cls ∈ TBL ∧ plainName (mn m).cls = true ∧ ((mn m).cls ≠ "java/lang/invoke/MethodHandle" ∧ (mn m).cls ≠ "java/lang/invoke/VarHandle") ∧ (parseMethodDescriptor (mn m).desc).map (fun d => d.parameters.length) = some (mna m) ∧ cnm (mow m) = (mn m).cls ∧ (mini m = decide ((mn m).name = "<init>")) ∧ 24 < m := by
  have h := mchk_at (Nat.le_of_lt hm.2.1) hm.1
  unfold mchk at h
  obtain ⟨h1, h2, h3, h4⟩ := hm
  have h25 : ¬ m = 25 := by omega
  simp only [Bool.or_eq_true, Nat.beq_eq, h25, h3, h4, false_or] at h
  simp only [Bool.and_eq_true, decide_eq_true_eq, Bool.or_eq_true, beq_iff_eq, mhok] at h
  obtain ⟨⟨⟨⟨⟨⟨⟨⟨a1, a2⟩, a3⟩, a4⟩, a5⟩, a6⟩, a7⟩, a8⟩, a9⟩ := h
  refine ⟨mem_T (mhd_in ⟨h1, h2, h3, h4⟩) a1, ?_, ?_, wt_ok a4, a5.1, a5.2, a6, a7, a8, Nat.blt_eq.mp a9⟩
  · cases hs : mst m with
    | true => rw [hs] at a2; rw [if_pos rfl]; exact wt_ok a2
    | false => rw [hs] at a2; rw [if_neg (by decide)]; exact wt_ok a2
  · intro z1 z2 z3 z4 z5
    rcases a3 with ((((q | q) | q) | q) | q) | q
    · rw [z1] at q; cases q
    · rw [z2] at q; cases q
    · exact absurd (by first | exact Nat.eq_of_beq_eq_true q | exact q) z3
    · rw [z4] at q; cases q
    · exact absurd (by first | exact Nat.eq_of_beq_eq_true q | exact q) z5
    · exact wt_ok q
/-! the locals at a method's entry -/
theorem layA_get {K : KT} {ρ : Nat → Nat} (ho : (ko K).category = 1) : ∀ (a : List VV) (j i : Nat) (v : VV), (layA a).getD i none = some v → (j + i, pm_v K ρ v) ∈ lv_args j (a.map (pm_v K ρ)) := by
  intro a
  induction a with
  | nil => intro j i v h; rw [show layA [] = [] from rfl, List.getD_nil] at h; cases h
  | cons x a ih =>
    intro j i v h
    have hcat := pm_cat K ρ ho x
    show _ ∈ (j, pm_v K ρ x) :: lv_args (if (pm_v K ρ x).category = 2 then j + 2 else j + 1) (a.map (pm_v K ρ))
    unfold layA at h
    cases hb : Nat.beq (vcat x) 2 with
    | true =>
      rw [hb] at h
      have hc : vcat x = 2 := Nat.eq_of_beq_eq_true hb
      rw [if_pos (by rw [hcat]; exact hc)]
      match i, h with
      | 0, h => cases h; exact List.mem_cons_self
      | 1, h => cases h
      | i + 2, h =>
        have := ih (j + 2) i v h
        rw [show j + 2 + i = j + (i + 2) by omega] at this
        exact List.mem_cons_of_mem _ this
    | false =>
      rw [hb] at h
      have hc : vcat x ≠ 2 := fun e => by rw [e] at hb; cases hb
      rw [if_neg (by rw [hcat]; exact hc)]
      match i, h with
      | 0, h => cases h; exact List.mem_cons_self
      | i + 1, h =>
        have := ih (j + 1) i v h
        rw [show j + 1 + i = j + (i + 1) by omega] at this
        exact List.mem_cons_of_mem _ this
theorem layA_len {K : KT} {ρ : Nat → Nat} (ho : (ko K).category = 1) : ∀ (a : List VV), (lg_sl (a.map (pm_v K ρ))).length = (layA a).length := by
  intro a
  induction a with
  | nil => rfl
  | cons x a ih =>
    have hcat := pm_cat K ρ ho x
    show (List.flatMap _ (pm_v K ρ x :: a.map (pm_v K ρ))).length = _
    rw [List.flatMap_cons, List.length_append]
    have ih2 : (List.flatMap (fun v => if Value.category v = 2 then [Slot.val v, Slot.second] else [Slot.val v]) (a.map (pm_v K ρ))).length = (layA a).length := ih
    rw [ih2]
    show _ = (bif Nat.beq (vcat x) 2 then some x :: none :: layA a else some x :: layA a).length
    cases hb : Nat.beq (vcat x) 2 with
    | true =>
      have hc : vcat x = 2 := Nat.eq_of_beq_eq_true hb
      rw [if_pos (by rw [hcat]; exact hc)]
      show 2 + _ = (layA a).length + 1 + 1
      omega
    | false =>
      have hc : vcat x ≠ 2 := fun e => by rw [e] at hb; cases hb
      rw [if_neg (by rw [hcat]; exact hc)]
      show 1 + _ = (layA a).length + 1
      omega
theorem layA_mem : ∀ (a : List VV) (i : Nat) (v : VV), (layA a).getD i none = some v → v ∈ a := by
  intro a
  induction a with
  | nil => intro i v h; rw [show layA [] = [] from rfl, List.getD_nil] at h; cases h
  | cons x a ih =>
    intro i v h
    unfold layA at h
    cases hb : Nat.beq (vcat x) 2 with
    | true =>
      rw [hb] at h
      match i, h with
      | 0, h => cases h; exact List.mem_cons_self
      | 1, h => cases h
      | i + 2, h => exact List.mem_cons_of_mem _ (ih i v h)
    | false =>
      rw [hb] at h
      match i, h with
      | 0, h => cases h; exact List.mem_cons_self
      | i + 1, h => exact List.mem_cons_of_mem _ (ih i v h)
theorem entL_rel {K : KT} {ρ : Nat → Nat} {al : List VR} {n m : Nat} {a : List VV} (ho : (ko K).category = 1) (hl : (layA a).length ≤ mxl m) (hv : ∀ v ∈ a, okV K al n v) :
    lrel K ρ al n ((lg_sl (a.map (pm_v K ρ)) ++ List.replicate (mxl m - (lg_sl (a.map (pm_v K ρ))).length) Slot.unset).toArray) (mxl m) (entL m a) := by
  obtain ⟨h1, h2, h3⟩ := lv_entry (a.map (pm_v K ρ)) (n := mxl m) (by rw [layA_len ho]; exact hl)
  refine ⟨h1, h2, ?_, fun i v h => ?_⟩
  · unfold entL
    rw [List.length_append, List.length_replicate]
    omega
  · unfold entL at h
    have hg : (layA a).getD i none = some v := by
      rw [List.getD_eq_getElem?_getD] at h ⊢
      rcases Nat.lt_or_ge i (layA a).length with z | z
      · rw [List.getElem?_append_left z] at h
        exact h
      · rw [List.getElem?_append_right z, List.getElem?_replicate] at h
        split at h <;> cases h
    have := h3 _ (layA_get ho a 0 i v hg)
    rw [Nat.zero_add] at this
    exact ⟨this, hv v (layA_mem a i v hg)⟩
