/-! The start: the constants' record at the law's entry, out of what the tables and the Statement say. -/
noncomputable def nar : List Cond := flatC (Jvm.Cond.and given_1 narrow_1)
noncomputable def np (p : Nat) (w : Cond) : Bool := decide (nar[p]? = some w)
noncomputable def wq (i : Nat) (w : Cond) : Bool := decide ((sub (i / 1000))[i % 1000]? = some w)
theorem np_ok {p : Nat} {w : Cond} (h : np p w = true) : w ∈ nar := List.mem_of_getElem? (of_decide_eq_true h)
noncomputable def stO : List (String × Nat) := [("CommaStream$Kind", 142), ("CommaStream$Kind", 151), ("CommaStream$Kind", 154), ("CommaStream$Kind", 157), ("CommaStream$Kind", 160), ("CommaStream$Kind", 163), ("CommaStream$Kind", 166), ("CommaStream$Kind", 169), ("CommaStream$Kind", 172), ("CommaStream$Kind", 175), ("CommaStream$Kind", 178), ("CommaStream$Kind", 181), ("CommaStream$Kind", 184), ("CommaStream$Kind", 187), ("CommaStream$Kind", 190), ("CommaStream$Kind", 193), ("CommaStream$Kind", 196), ("CommaStream$Kind", 199), ("CommaStream$Kind", 202), ("CommaStream$Kind", 205), ("CommaStream$Kind", 208), ("CommaStream$Kind", 211), ("CommaStream$Kind", 214), ("CommaStream$Kind", 217), ("CommaStream$Kind", 220), ("CommaStream$Kind", 223), ("CommaStream$Kind", 226), ("CommaStream$Kind", 229), ("CommaStream$Kind", 232), ("CommaStream$Kind", 235), ("CommaStream$Kind", 238), ("CommaStream$Kind", 241), ("CommaStream$Kind", 244), ("CommaStream$Kind", 247), ("CommaStream$Kind", 250), ("CommaStreamLaw$Book", 7), ("CommaStreamLaw$Book", 75), ("CommaStreamLaw$Book", 85), ("CommaStreamLaw$Book", 100), ("CommaStreamLaw$Book", 105), ("CommaStreamLaw$Book", 107), ("CommaStreamLaw$Book", 109), ("CommaStreamLaw$Book", 114), ("CommaStreamLaw$Book", 119), ("CommaStreamLaw$Book", 121), ("CommaStreamLaw$Book", 126), ("CommaStreamLaw$Book", 128), ("CommaStreamLaw$Book", 130), ("CommaStreamLaw$Book", 132), ("CommaStreamLaw$Book", 140), ("CommaStreamLaw$Book", 145), ("CommaStreamLaw$Book", 147), ("CommaStreamLaw$Book", 149), ("CommaStreamLaw$Book", 151), ("CommaStreamLaw$Book", 153), ("CommaStreamLaw$Book", 155), ("CommaStreamLaw$Book", 160), ("CommaStreamLaw$Book", 162), ("CommaStreamLaw$Book", 164), ("CommaStreamLaw$Book", 166), ("CommaStreamLaw$Book", 168), ("CommaStreamLaw$Book", 170), ("CommaStreamLaw$Book", 177), ("CommaStreamLaw$Book", 179), ("CommaStreamLaw$Book", 181), ("CommaStreamLaw$Book", 183), ("CommaStreamLaw$Book", 185), ("CommaStreamLaw$Book", 187), ("CommaStreamLaw$Book", 189), ("CommaStreamLaw$Book", 191)]
noncomputable def sT (k : Nat) : Term := .string (stO.getD k ("", 0)).1 (stO.getD k ("", 0)).2
noncomputable def sV (k : Nat) : Term := .field (sT k) "java/lang/String" "value" "[B"
noncomputable def sP : List (Nat × Nat × Nat × Nat × List Nat) := [(1080, 1082, 1083, 1081, []), (1085, 1087, 1088, 1086, [1089, 1090, 1091, 1092]), (1099, 1101, 1102, 1100, [1103, 1104, 1105, 1106, 1107]), (1108, 1110, 1111, 1109, [1112, 1113, 1114, 1115, 1116]), (1136, 1138, 1139, 1137, [1140, 1141]), (1117, 1119, 1120, 1118, [1121, 1122, 1123]), (1226, 1228, 1229, 1227, [1230, 1231, 1232]), (1233, 1235, 1236, 1234, [1237, 1238]), (1154, 1156, 1157, 1155, [1158, 1159, 1160, 1161]), (1163, 1165, 1166, 1164, [1167, 1168, 1169, 1170]), (1172, 1174, 1175, 1173, [1176, 1177, 1178, 1179, 1180, 1181]), (1183, 1185, 1186, 1184, [1187, 1188, 1189, 1190]), (1239, 1241, 1242, 1240, [1243, 1244, 1245, 1246, 1247]), (1248, 1250, 1251, 1249, [1252, 1253]), (1261, 1263, 1264, 1262, [1265, 1266, 1267, 1268, 1269]), (1270, 1272, 1273, 1271, [1274, 1275, 1276, 1277]), (1254, 1256, 1257, 1255, [1258, 1259, 1260]), (1278, 1280, 1281, 1279, [1282, 1283, 1284, 1285, 1286]), (969, 971, 972, 970, [973, 974, 975, 976, 977]), (1287, 1289, 1290, 1288, [1291, 1292, 1293]), (978, 980, 981, 979, [982, 983, 984, 985]), (986, 988, 989, 987, [990, 991, 992, 993, 994]), (1294, 1296, 1297, 1295, [1298, 1299]), (1142, 1144, 1145, 1143, [1146]), (1148, 1150, 1151, 1149, [1152]), (1124, 1126, 1127, 1125, [1128]), (1130, 1132, 1133, 1131, [1134]), (1075, 1077, 1078, 1076, [1079]), (1093, 1095, 1096, 1094, [1097]), (1209, 1211, 1212, 1210, [1213]), (1215, 1217, 1218, 1216, [1219]), (1220, 1222, 1223, 1221, [1224]), (1198, 1200, 1201, 1199, [1202]), (1203, 1205, 1206, 1204, [1207]), (1192, 1194, 1195, 1193, [1196]), (701, 703, 704, 702, []), (777, 779, 780, 778, [781]), (782, 784, 785, 783, [786]), (787, 789, 790, 788, [791]), (792, 794, 795, 793, [796, 797, 798]), (799, 801, 802, 800, [803]), (755, 757, 758, 756, [759]), (760, 762, 763, 761, [764]), (765, 767, 768, 766, [769, 770, 771]), (772, 774, 775, 773, [776]), (804, 806, 807, 805, [808]), (809, 811, 812, 810, [813, 814, 815]), (816, 818, 819, 817, [820]), (747, 749, 750, 748, [751, 752, 753, 754]), (821, 823, 824, 822, [825, 826, 827, 828, 829]), (830, 832, 833, 831, [834, 835, 836, 837]), (705, 707, 708, 706, [709, 710, 711, 712, 713]), (714, 716, 717, 715, [718]), (719, 721, 722, 720, [723, 724]), (725, 727, 728, 726, [729, 730, 731, 732, 733, 734, 735]), (736, 738, 739, 737, [740, 741, 742, 743, 744, 745, 746]), (838, 840, 841, 839, [842, 843, 844, 845, 846, 847, 848]), (849, 851, 852, 850, [853, 854, 855, 856, 857]), (858, 860, 861, 859, [862, 863, 864, 865, 866]), (867, 869, 870, 868, [871, 872, 873, 874, 875, 876, 877]), (878, 880, 881, 879, [882, 883, 884, 885, 886, 887]), (888, 890, 891, 889, [892, 893, 894, 895, 896, 897, 898]), (995, 997, 998, 996, [999, 1000, 1001, 1002]), (1003, 1005, 1006, 1004, [1007, 1008, 1009, 1010]), (1011, 1013, 1014, 1012, [1015, 1016, 1017, 1018, 1019, 1020]), (1021, 1023, 1024, 1022, [1025, 1026, 1027, 1028]), (1029, 1031, 1032, 1030, [1033, 1034, 1035, 1036, 1037]), (1039, 1041, 1042, 1040, [1043, 1044, 1045, 1046, 1047, 1048, 1049]), (1050, 1052, 1053, 1051, [1054, 1055, 1056, 1057, 1058, 1059, 1060, 1061]), (1062, 1064, 1065, 1063, [1066, 1067, 1068, 1069, 1070, 1071, 1072, 1073, 1074])]
noncomputable def eP : List (Nat × Nat × Nat × Nat × Nat × Nat) := [(284, 285, 286, 298, 12, 6121), (287, 288, 289, 299, 13, 6123), (336, 337, 338, 300, 14, 6162), (290, 291, 292, 301, 15, 6151), (339, 340, 341, 302, 16, 6180), (345, 346, 347, 303, 17, 6215), (348, 349, 350, 304, 18, 6237), (360, 361, 362, 305, 19, 7021), (351, 352, 353, 306, 20, 7011), (399, 400, 401, 307, 21, 7077), (402, 403, 404, 308, 22, 7079), (369, 370, 371, 309, 23, 7054), (372, 373, 374, 310, 24, 7056), (375, 376, 377, 311, 25, 7058), (378, 379, 380, 312, 26, 7060), (405, 406, 407, 313, 27, 7085), (408, 409, 410, 314, 28, 7091), (414, 415, 416, 315, 29, 7099), (417, 418, 419, 316, 30, 7101), (411, 412, 413, 317, 31, 7097), (420, 421, 422, 318, 32, 7107), (4, 5, 6, 319, 33, 1107), (423, 424, 425, 320, 34, 7114), (50, 51, 52, 321, 35, 4112), (53, 54, 55, 322, 36, 4115), (426, 427, 428, 323, 37, 7118), (363, 364, 365, 324, 38, 7047), (366, 367, 368, 325, 39, 7049), (354, 355, 356, 326, 40, 7017), (357, 358, 359, 327, 41, 7019), (281, 282, 283, 328, 42, 6119), (342, 343, 344, 329, 43, 6203), (390, 391, 392, 330, 44, 7071), (393, 394, 395, 331, 45, 7073), (396, 397, 398, 332, 46, 7075), (384, 385, 386, 333, 47, 7064), (387, 388, 389, 334, 48, 7066), (381, 382, 383, 335, 49, 7062)]
noncomputable def fP : List (Nat × Nat × Nat × List Nat) := [(268, 269, 6052, [270, 271, 272, 273]), (275, 276, 6068, [277, 278, 279, 280])]
noncomputable def dP : List (Nat × Nat × Nat × List Nat) := [(62, 63, 5194, [64, 65, 66, 67, 68, 69, 70, 71, 72, 73, 74, 75, 76, 77, 78, 79, 80, 81, 82, 83, 84, 85, 86, 87, 88, 89, 90, 91, 92, 93, 94, 95, 96, 97, 98, 99, 100, 101, 102, 103, 104, 105, 106, 107, 108, 109, 110, 111, 112, 113, 114, 115, 116, 117, 118, 119, 120, 121, 122, 123, 124, 125, 126, 127, 128, 129, 130, 131, 132, 133, 134, 135, 136, 137, 138, 139, 140, 141, 142, 143, 144, 145, 146, 147, 148, 149, 150, 151, 152, 153, 154, 155, 156, 157, 158, 159, 160, 161, 162, 163]), (165, 166, 5196, [167, 168, 169, 170, 171, 172, 173, 174, 175, 176, 177, 178, 179, 180, 181, 182, 183, 184, 185, 186, 187, 188, 189, 190, 191, 192, 193, 194, 195, 196, 197, 198, 199, 200, 201, 202, 203, 204, 205, 206, 207, 208, 209, 210, 211, 212, 213, 214, 215, 216, 217, 218, 219, 220, 221, 222, 223, 224, 225, 226, 227, 228, 229, 230, 231, 232, 233, 234, 235, 236, 237, 238, 239, 240, 241, 242, 243, 244, 245, 246, 247, 248, 249, 250, 251, 252, 253, 254, 255, 256, 257, 258, 259, 260, 261, 262, 263, 264, 265, 266])]
noncomputable def fT (i : Nat) : Term := .static "CommaStreamLaw$Book" (if i = 0 then "FIELDS" else "TELLS") "[Ljava/lang/String;"
noncomputable def dT (i : Nat) : Term := .static "java/lang/Integer" (if i = 0 then "DigitOnes" else "DigitTens") "[B"
noncomputable def mP : List (Nat × Nat) := [(505, 2217), (531, 3007), (557, 3035), (583, 3052), (615, 3073), (643, 3191), (674, 4040), (899, 6092), (929, 6101)]
noncomputable def lP : List Nat := [4158, 6049, 6050, 6053, 6054, 6055, 6015, 6016, 6017, 6018, 6056, 6057, 6058, 6002, 6059, 6060, 5118, 5179, 5205, 5206, 5229, 6061, 6062, 6063, 6064, 6065, 6066, 7187, 7188, 7189, 7190, 7192, 7193, 7194, 7195]
noncomputable def eT (k : Nat) : Term := .static "CommaStream$Kind" (enL.getD k "") "LCommaStream$Kind;"
noncomputable def aT : Term := .static "CommaStream" "KINDS" "[LCommaStream$Kind;"
noncomputable def wT : Term := .static "CommaStream$1" "$SwitchMap$CommaStream$Kind" "[I"
theorem ns_all : ((List.range 70).all fun k => let q := sP.getD k (0, 0, 0, 0, []); np q.1 (.exactly (sT k) "java/lang/String") && np q.2.1 (.arrayOf (sV k) .byte) && np q.2.2.1 (.eq (.length (sV k)) (.int (Int32.ofNat (slen k)))) && np q.2.2.2.1 (.eq (.field (sT k) "java/lang/String" "coder" "B") (.int 0)) && Nat.blt (slen k) 1000 && (List.range (slen k)).all fun j => np (q.2.2.2.2.getD j 0) (.eq (.elem (sV k) (.int (Int32.ofNat j))) (.int (sbyt k j)))) = true := by decide +kernel
theorem ne_all : ((List.range 38).all fun k => let q := eP.getD k (0, 0, 0, 0, 0, 0); np q.1 (.exactly (eT k) "CommaStream$Kind") && np q.2.1 (.eq (.field (eT k) "java/lang/Enum" "ordinal" "I") (.int (Int32.ofNat k))) && np q.2.2.1 (.eq (.field (eT k) "CommaStream$Kind" "text" "Ljava/lang/String;") (sT (tid k))) && np q.2.2.2.1 (.eq (.elem aT (.int (Int32.ofNat k))) (eT k)) && np q.2.2.2.2.1 (.eq (.elem wT (.int (Int32.ofNat k))) (.int (swmL.getD k 0))) && wq q.2.2.2.2.2 (.laysStatic "CommaStream$Kind" (enL.getD k "") "LCommaStream$Kind;")) = true := by decide +kernel
theorem nk_all : ((List.range 2).all fun i => let q := fP.getD i (0, 0, 0, []); np q.1 (.arrayOf (fT i) (.object "java/lang/String")) && np q.2.1 (.eq (.length (fT i)) (.int 4)) && wq q.2.2.1 (.laysStatic "CommaStreamLaw$Book" (if i = 0 then "FIELDS" else "TELLS") "[Ljava/lang/String;") && (List.range 4).all fun j => np (q.2.2.2.getD j 0) (.eq (.elem (fT i) (.int (Int32.ofNat j))) (sT (fid i j)))) = true := by decide +kernel
theorem nd_all : ((List.range 2).all fun i => let q := dP.getD i (0, 0, 0, []); np q.1 (.arrayOf (dT i) .byte) && np q.2.1 (.eq (.length (dT i)) (.int 100)) && wq q.2.2.1 (.laysStatic "java/lang/Integer" (if i = 0 then "DigitOnes" else "DigitTens") "[B") && (List.range 100).all fun j => np (q.2.2.2.getD j 0) (.eq (.elem (dT i) (.int (Int32.ofNat j))) (.int (dgt i j)))) = true := by decide +kernel
theorem nm_all2 : ((List.range 9).all fun k => let q := msL.getD k (0, ""); np (mP.getD k (0, 0)).1 (.exactly (.string "CommaStream" q.1) "java/lang/String") && wq (mP.getD k (0, 0)).2 (.stringRef "CommaStream" q.1 q.2)) = true := by decide +kernel
theorem nl_all : ((List.range 35).all fun k => let q := lsL.getD k (0, "", 0); Nat.blt q.2.2 70 && decide (sT q.2.2 = .string "CommaStreamLaw$Book" q.1) && wq (lP.getD k 0) (.stringRef "CommaStreamLaw$Book" q.1 q.2.1)) = true := by decide +kernel
theorem nz_all : (np 295 (.arrayOf aT (.object "CommaStream$Kind")) && np 296 (.eq (.length aT) (.int 38)) && wq 6153 (.laysStatic "CommaStream" "KINDS" "[LCommaStream$Kind;") && np 10 (.arrayOf wT .int) && np 11 (.eq (.length wT) (.int 38)) && wq 4065 (.laysStatic "CommaStream$1" "$SwitchMap$CommaStream$Kind" "[I") && np 56 (.eq (.static "java/lang/String" "COMPACT_STRINGS" "Z") (.int 1)) && wq 4227 (.laysStatic "java/lang/String" "COMPACT_STRINGS" "Z") && np 57 (.isRef (.static "jdk/internal/util/Preconditions" "SIOOBE_FORMATTER" "Ljava/util/function/BiFunction;")) && wq 5062 (.laysStatic "jdk/internal/util/Preconditions" "SIOOBE_FORMATTER" "Ljava/util/function/BiFunction;") && np 7 (.isRef (.static Bundle.tN "UNASSIGNED_STACK" Bundle.steD)) && wq 2203 (.laysStatic Bundle.tN "UNASSIGNED_STACK" Bundle.steD) && np 8 (.isRef (.static Bundle.tN "SUPPRESSED_SENTINEL" Bundle.listD)) && wq 2205 (.laysStatic Bundle.tN "SUPPRESSED_SENTINEL" Bundle.listD)) = true := by decide +kernel
theorem nj_all : (wq 1007 (.initialized "CommaStream$Kind") && wq 1001 (.initialized "CommaStream") && wq 1033 (.initialized "CommaStream$1") && wq 1013 (.initialized "CommaStreamLaw$Book") && wq 1016 (.initialized "java/lang/String") && wq 1022 (.initialized "jdk/internal/util/Preconditions") && wq 1027 (.initialized Bundle.tN) && wq 1072 (.arrayOver (.object "CommaStream$Kind")) && wq 1147 (.arrayOver (.object "CommaStream$Goose")) && wq 2027 (.arrayOver (.object "CommaStream$Windows")) && wq 1098 (.arrayClass .int) && wq 1099 (.arrayClass .long) && wq 1070 (.arrayClass .byte) && wq 4148 (.arrayClass .boolean) && wq 4160 (.arrayOver (.object "CommaStreamLaw$Tree")) && wq 4015 (.arrayOver (.array .int)) && wq 4143 (.arrayOver (.array .boolean)) && wq 1025 (.initialized "java/lang/Integer")) = true := by decide +kernel
noncomputable def kpQ : Bool := true
theorem nn_all : enL.length = 38 ∧ msL.length = 9 ∧ lsL.length = 35 ∧ kpQ = true ∧ ((List.range 38).all fun k => decide (((List.range 38).map Int32.ofNat).getD k 0 = Int32.ofNat k)) = true := by decide +kernel
section START
variable {args : Array Value} {s : State} {A : Nat → Prop}
theorem arr_prim {ty : FieldType} (h : (Cond.arrayClass ty).before args s = true) (hp : ty = .int ∨ ty = .long ∨ ty = .byte ∨ ty = .boolean) : ∃ cA, ArrOfT s cA ty ∧ va_RA s cA ty := by
  obtain ⟨cA, k, comp, h1, h2, h3⟩ := Cond.arrayClass_spec h
  refine ⟨cA, fun n z => ⟨(fun k h => by cases h), k, h2, comp, h3⟩, ?_⟩
  rcases hp with rfl | rfl | rfl | rfl <;> exact h1
theorem arr_obj {C : String} (h : (Cond.arrayOver (.object C)).before args s = true) : ∃ cA, ArrOfT s cA (.object C) ∧ va_RA s cA (.object C) := by
  obtain ⟨comp, cA, k, f1, -, f2, f3, f4⟩ := Cond.arrayOver_spec h
  exact ⟨cA, fun n z => ⟨(fun k h => by cases h), k, f2, comp, f3⟩, k, comp, f2, f3, f1, f4⟩
theorem arr_arr {t : FieldType} (h : (Cond.arrayOver (.array t)).before args s = true) : ∃ cA, ArrOfT s cA (.array t) ∧ va_RA s cA (.array t) := by
  obtain ⟨comp, cA, k, f1, -, f2, f3, f4⟩ := arrayOverA_spec h
  exact ⟨cA, fun n z => ⟨(fun k h => by cases h), k, f2, comp, f3⟩, f4⟩
theorem OF_eval {t : Term} {a : Nat} {o n d : String} {v : Value} (ht : t.eval args s none [] s = some (.ref a)) (hv : (Term.field t o n d).eval args s none [] s = some v) (hA : ∀ a : Nat, a < s.heap.size → ¬ A a) : va_OF o n d v a A s s.heap := by
  cases hfo : s.fieldFound? o n d with
  | none =>
    rw [va_fe ht] at hv
    simp [State.fieldOf?, State.fieldNamed?, hfo] at hv
  | some x =>
    obtain ⟨cf, k, fi, f⟩ := x
    obtain ⟨g1, cB, g2, g3, -, -, g6⟩ := Term.field_spec hfo ht hv
    exact ⟨cf, k, fi, f, cB, hfo, g1, g2, g3, g6, hA _ (Array.getElem?_eq_some_iff.mp g2).1⟩
theorem OF_ne {o n d : String} {v w : Value} {a : Nat} {H : Heap} (h1 : va_OF o n d v a A s H) (h2 : va_OF o n d w a A s H) : v = w := by
  obtain ⟨cf, k, fi, f, cB, a1, a2, a3, a4, a5, -⟩ := h1
  obtain ⟨cf', k', fi', f', cB', b1, b2, b3, b4, b5, -⟩ := h2
  cases a1.symm.trans b1
  cases a3.symm.trans b3
  exact Option.some.inj (a5.symm.trans b5)
theorem ref_ex {t : Term} {E : String} (h : (Cond.exactly t E).before args s = true) : ∃ a : Nat, t.eval args s none [] s = some (.ref a) := by
  obtain ⟨a, c, cB, k, q1, -⟩ := Cond.exactly_spec (args := args) (first := s) (o := none) (s := s) (idx := []) (t := t) (cls := E) h
  exact ⟨a, q1⟩
theorem ex_sel (wl : ∀ w ∈ lw_tbl, w.before args s = true) : ∀ w ∈ lw_tb2, w.before args s = true := by
  intro w hw
  unfold lw_tb2 at hw
  rcases List.mem_append.mp hw with hw | hw
  · unfold exSel at hw
    obtain ⟨m, hm, rfl⟩ := List.mem_map.mp hw
    have wb : ∀ w ∈ tables_1, w.before args s = true := fun w h => wl w (by unfold lw_tbl; exact List.mem_append_right _ h)
    have key : ∀ (y : MethodName) (n : Nat), y.cls ≠ "java/lang/invoke/MethodHandle" ∧ y.cls ≠ "java/lang/invoke/VarHandle" → (Cond.instantiable "java/lang/StringBuilder" n).before args s = true → (Cond.privateMethod y).before args s = true → (Cond.instanceMethod y).before args s = true → (Cond.superclass "java/lang/StringBuilder" y.cls).before args s = true → (∃ z : MethodName, z.cls = y.cls ∧ (Cond.selects "java/lang/StringBuilder" z z).before args s = true) → (Cond.selects "java/lang/StringBuilder" y y).before args s = true := by
      intro y n hy hins hpriv hinst hsup ⟨z, hz, hsz⟩
      obtain ⟨c, k, hc, hk, -, hniab, -, -⟩ := Cond.instantiable_spec hins
      obtain ⟨mk, methM, hnamed, hmethM, -, -⟩ := Cond.instanceMethod_spec hinst
      have hfound : s.methodFound? y.cls y.name y.desc = some mk := State.methodFound?_of_named hnamed hy
      have hsel : selectMethod {} s.vm c mk = .method mk := selectMethod_private hmethM (Cond.privateMethod_at hpriv mk methM hnamed hmethM)
      have hni : (s.vm.classes[mk.cls]?).any (!·.isInterface) = true := by
        have h1 := hsz
        simp only [Cond.before, Cond.holds, Cond.value] at h1
        have hcz := findClass_of_methodNamed hnamed
        cases hf : s.vm.findClass "java/lang/StringBuilder" with
        | none => rw [hf] at h1; simp at h1
        | some c2 =>
          cases hr : s.methodFound? z.cls z.name z.desc with
          | none => rw [hf, hr] at h1; simp at h1
          | some r2 =>
            cases hm2 : s.methodNamed? z with
            | none => rw [hf, hr, hm2] at h1; simp at h1
            | some m2 =>
              rw [hf, hr, hm2] at h1
              have hcm := findClass_of_methodNamed hm2
              rw [hz] at hcm
              have e2 : mk.cls = m2.cls := Option.some.inj (hcz.symm.trans hcm)
              rw [e2]
              simp only [beq_iff_eq, Option.some.injEq] at h1
              split at h1
              · rw [Bool.and_eq_true] at h1
                exact h1.2
              · exact absurd h1 (by simp)
      simp only [Cond.before, Cond.holds, Cond.value, hc, hfound, hnamed, hsel]
      simp only [beq_iff_eq, Option.some.injEq, Bool.and_eq_true, decide_true, true_and]
      exact hni
    have hin := wb _ (List.mem_of_getElem? (i := 938) (by decide +kernel) : Cond.instantiable "java/lang/StringBuilder" 4 ∈ tables_1)
    have hsu := wb _ (List.mem_of_getElem? (i := 967) (by decide +kernel) : Cond.superclass "java/lang/StringBuilder" "java/lang/AbstractStringBuilder" ∈ tables_1)
    have hse := wb _ (List.mem_of_getElem? (i := 1007) (by decide +kernel) : Cond.selects "java/lang/StringBuilder" ⟨"java/lang/AbstractStringBuilder", "isLatin1", "()Z"⟩ ⟨"java/lang/AbstractStringBuilder", "isLatin1", "()Z"⟩ ∈ tables_1)
    simp only [List.mem_cons, List.not_mem_nil, or_false] at hm
    rcases hm with rfl | rfl | rfl | rfl
    · have e : mn 201 = ⟨"java/lang/AbstractStringBuilder", "ensureCapacityInternal", "(I)V"⟩ := by decide +kernel
      rw [e]
      exact key ⟨"java/lang/AbstractStringBuilder", "ensureCapacityInternal", "(I)V"⟩ 4 ⟨by decide +kernel, by decide +kernel⟩ hin (wb _ (List.mem_of_getElem? (i := 980) (by decide +kernel))) (wb _ (List.mem_of_getElem? (i := 981) (by decide +kernel))) hsu ⟨⟨"java/lang/AbstractStringBuilder", "isLatin1", "()Z"⟩, rfl, hse⟩
    · have e : mn 202 = ⟨"java/lang/AbstractStringBuilder", "newCapacity", "(I)I"⟩ := by decide +kernel
      rw [e]
      exact key ⟨"java/lang/AbstractStringBuilder", "newCapacity", "(I)I"⟩ 4 ⟨by decide +kernel, by decide +kernel⟩ hin (wb _ (List.mem_of_getElem? (i := 984) (by decide +kernel))) (wb _ (List.mem_of_getElem? (i := 985) (by decide +kernel))) hsu ⟨⟨"java/lang/AbstractStringBuilder", "isLatin1", "()Z"⟩, rfl, hse⟩
    · have e : mn 204 = ⟨"java/lang/AbstractStringBuilder", "putStringAt", "(ILjava/lang/String;)V"⟩ := by decide +kernel
      rw [e]
      exact key ⟨"java/lang/AbstractStringBuilder", "putStringAt", "(ILjava/lang/String;)V"⟩ 4 ⟨by decide +kernel, by decide +kernel⟩ hin (wb _ (List.mem_of_getElem? (i := 1045) (by decide +kernel))) (wb _ (List.mem_of_getElem? (i := 1046) (by decide +kernel))) hsu ⟨⟨"java/lang/AbstractStringBuilder", "isLatin1", "()Z"⟩, rfl, hse⟩
    · have e : mn 205 = ⟨"java/lang/AbstractStringBuilder", "inflateIfNeededFor", "(Ljava/lang/String;)V"⟩ := by decide +kernel
      rw [e]
      exact key ⟨"java/lang/AbstractStringBuilder", "inflateIfNeededFor", "(Ljava/lang/String;)V"⟩ 4 ⟨by decide +kernel, by decide +kernel⟩ hin (wb _ (List.mem_of_getElem? (i := 1049) (by decide +kernel))) (wb _ (List.mem_of_getElem? (i := 1050) (by decide +kernel))) hsu ⟨⟨"java/lang/AbstractStringBuilder", "isLatin1", "()Z"⟩, rfl, hse⟩
  · exact wl w hw
theorem start_K (wl : ∀ w ∈ lw_tbl, w.before args s = true) (hg : (Jvm.Cond.and given_1 narrow_1).before args s = true) {b L : Nat} {xs : Nat → Int32} (hX : va_X b L xs s s.heap) (hb : b < s.heap.size) (hA : ∀ a : Nat, a < s.heap.size → ¬ A a) : ∃ K : KT, pm_ko K ∧ kx K = b ∧ kl K = L ∧ ks K = xs ∧ pm_C K A s s.heap := by
  have hn : ∀ {p : Nat} {w : Cond}, np p w = true → w.before args s = true := fun h => flat_of_before _ hg _ (np_ok h)
  have wl2 := ex_sel wl
  have w2 : ∀ {p : Nat} {w : Cond}, wt p w = true → w.before args s = true := fun h => wl2 _ (List.mem_filter.mp (wt_ok h)).1
  have ww : ∀ {p : Nat} {w : Cond}, wq p w = true → w.before args s = true := fun h => wl2 _ (sub_lw _ _ (List.mem_of_getElem? (of_decide_eq_true h)))
  have hz := nz_all
  have hj := nj_all
  simp only [Bool.and_eq_true] at hz hj
  obtain ⟨⟨⟨⟨⟨⟨⟨⟨⟨⟨⟨⟨⟨z1, z2⟩, z3⟩, z4⟩, z5⟩, z6⟩, z7⟩, z8⟩, z9⟩, z10⟩, z11⟩, z12⟩, z13⟩, z14⟩ := hz
  obtain ⟨⟨⟨⟨⟨⟨⟨⟨⟨⟨⟨⟨⟨⟨⟨⟨⟨j1, j2⟩, j3⟩, j4⟩, j5⟩, j6⟩, j7⟩, j8⟩, j9⟩, j10⟩, j11⟩, j12⟩, j13⟩, j14⟩, j15⟩, j16⟩, j17⟩, j18⟩ := hj
  obtain ⟨l1, l2, l3, l4, l5⟩ := nn_all
  -- the classes
  have hD : ∃ D : va_G, ∀ (c : Nat) (q : vw_C), pm_cl[c]? = some q → u_Kn s q.1 q.2.1 q.2.2 (D.1 c) (D.2 c) := by
    have h0 : ∀ c : Nat, ∃ x : ClassId × (Nat → Nat), ∀ q : vw_C, pm_cl[c]? = some q → u_Kn s q.1 q.2.1 q.2.2 x.1 x.2 := by
      intro c
      by_cases hc : c < 15
      · have h1 := cl_at (ty := c + 1) (by omega) (by omega)
        rw [Nat.add_sub_cancel] at h1
        have h2 := all_at ni_all hc
        rw [Bool.and_eq_true] at h2
        obtain ⟨cC, iS, h3⟩ := u_known (ws := TBL) (fun w hw => wl2 w (List.mem_filter.mp hw).1) (uw_ok (ty := c + 1) (by omega) (by omega)) (w2 h2.2)
        refine ⟨(cC, iS), fun q hq => ?_⟩
        rw [h1] at hq
        cases hq
        exact h3
      · refine ⟨(0, fun _ => 0), fun q hq => ?_⟩
        have := (List.getElem?_eq_some_iff.mp hq).1
        unfold pm_cl at this
        rw [List.length_map, List.length_range] at this
        omega
    obtain ⟨f, hf⟩ := Classical.axiomOfChoice h0
    exact ⟨(fun c => (f c).1, fun c => (f c).2), hf⟩
  obtain ⟨D, hD⟩ := hD
  obtain ⟨a20, r20⟩ := arr_prim (ww j11) (Or.inl rfl)
  obtain ⟨a21, r21⟩ := arr_prim (ww j12) (Or.inr (Or.inl rfl))
  obtain ⟨a22, r22⟩ := arr_prim (ww j13) (Or.inr (Or.inr (Or.inl rfl)))
  obtain ⟨a23, r23⟩ := arr_obj (ww j8)
  obtain ⟨a24, r24⟩ := arr_obj (ww j9)
  obtain ⟨a25, r25⟩ := arr_obj (ww j10)
  obtain ⟨a26, r26⟩ := arr_prim (ww j14) (Or.inr (Or.inr (Or.inr rfl)))
  obtain ⟨a27, r27⟩ := arr_obj (ww j15)
  obtain ⟨a28, r28⟩ := arr_arr (ww j16)
  obtain ⟨a29, r29⟩ := arr_arr (ww j17)
  -- the texts
  have hS0 : ∀ k : Nat, ∃ a : Nat, k < 70 → (sT k).eval args s none [] s = some (.ref a) := by
    intro k
    by_cases hk : k < 70
    · have h1 := all_at ns_all hk
      dsimp only at h1
      simp only [Bool.and_eq_true] at h1
      obtain ⟨a, ha⟩ := ref_ex (hn h1.1.1.1.1.1)
      exact ⟨a, fun _ => ha⟩
    · exact ⟨0, fun h => absurd h hk⟩
  obtain ⟨fS, hS⟩ := Classical.axiomOfChoice hS0
  have hB0 : ∀ k : Nat, ∃ a : Nat, k < 70 → (sV k).eval args s none [] s = some (.ref a) ∧ va_T .byte a (slen k) (fun j => .int (sbyt k j)) A s s.heap := by
    intro k
    by_cases hk : k < 70
    · have h1 := all_at ns_all hk
      dsimp only at h1
      simp only [Bool.and_eq_true] at h1
      obtain ⟨⟨⟨⟨⟨s1, s2⟩, s3⟩, s4⟩, s5⟩, s6⟩ := h1
      have h5 := Nat.blt_eq.mp s5
      obtain ⟨t, ht1, ht2⟩ := va_Tof (N := slen k) (f := fun j => .int (sbyt k j)) (by omega) (hn s2) (va_eqt (hn s3)) (fun j hj => va_eqt (hn (all_at s6 hj))) hA
      exact ⟨t, fun _ => ⟨ht1, ht2⟩⟩
    · exact ⟨0, fun h => absurd h hk⟩
  obtain ⟨fB, hB⟩ := Classical.axiomOfChoice hB0
  -- the enum's constants
  have hE0 : ∀ k : Nat, ∃ a : Nat, k < 38 → (eT k).eval args s none [] s = some (.ref a) := by
    intro k
    by_cases hk : k < 38
    · have h1 := all_at ne_all hk
      dsimp only at h1
      simp only [Bool.and_eq_true] at h1
      obtain ⟨a, ha⟩ := ref_ex (hn h1.1.1.1.1.1)
      exact ⟨a, fun _ => ha⟩
    · exact ⟨0, fun h => absurd h hk⟩
  obtain ⟨fE, hE⟩ := Classical.axiomOfChoice hE0
  have eall : ∀ k, k < 38 → np (eP.getD k (0, 0, 0, 0, 0, 0)).1 (.exactly (eT k) "CommaStream$Kind") = true ∧ np (eP.getD k (0, 0, 0, 0, 0, 0)).2.1 (.eq (.field (eT k) "java/lang/Enum" "ordinal" "I") (.int (Int32.ofNat k))) = true ∧ np (eP.getD k (0, 0, 0, 0, 0, 0)).2.2.1 (.eq (.field (eT k) "CommaStream$Kind" "text" "Ljava/lang/String;") (sT (tid k))) = true ∧ np (eP.getD k (0, 0, 0, 0, 0, 0)).2.2.2.1 (.eq (.elem aT (.int (Int32.ofNat k))) (eT k)) = true ∧ np (eP.getD k (0, 0, 0, 0, 0, 0)).2.2.2.2.1 (.eq (.elem wT (.int (Int32.ofNat k))) (.int (swmL.getD k 0))) = true ∧ wq (eP.getD k (0, 0, 0, 0, 0, 0)).2.2.2.2.2 (.laysStatic "CommaStream$Kind" (enL.getD k "") "LCommaStream$Kind;") = true := by
    intro k hk
    have h1 := all_at ne_all hk
    dsimp only at h1
    simp only [Bool.and_eq_true] at h1
    obtain ⟨⟨⟨⟨⟨e1, e2⟩, e3⟩, e4⟩, e5⟩, e6⟩ := h1
    exact ⟨e1, e2, e3, e4, e5, e6⟩
  have hord : ∀ k, k < 38 → va_OF "java/lang/Enum" "ordinal" "I" (.int (Int32.ofNat k)) (fE k) A s s.heap := fun k hk => OF_eval (hE k hk) (va_eqt (hn (eall k hk).2.1)) hA
  obtain ⟨tk, hk1, hk2⟩ := va_Tof (N := 38) (f := fun j => .ref (fE j)) (by omega) (hn z1) (va_eqt (hn z2)) (fun j hj => va_eqv (hn (eall j hj).2.2.2.1) (hE j hj)) hA
  obtain ⟨tw, hw1, hw2⟩ := va_Tof (N := 38) (f := fun j => .int (swmL.getD j 0)) (by omega) (hn z4) (va_eqt (hn z5)) (fun j hj => va_eqt (hn (eall j hj).2.2.2.2.1)) hA
  have hFi : ∀ i : Nat, ∃ a : Nat, i < 2 → (fT i).eval args s none [] s = some (.ref a) ∧ va_T (.object "java/lang/String") a 4 (fun j => .ref (fS (fid i j))) A s s.heap := by
    intro i
    by_cases hi : i < 2
    · have h1 := all_at nk_all hi
      dsimp only at h1
      simp only [Bool.and_eq_true] at h1
      obtain ⟨⟨⟨s1, s2⟩, s3⟩, s4⟩ := h1
      obtain ⟨t, ht1, ht2⟩ := va_Tof (N := 4) (f := fun j => .ref (fS (fid i j))) (by omega) (hn s1) (va_eqt (hn s2)) (fun j hj => va_eqv (hn (all_at s4 hj)) (hS _ (fid_lt i j hi hj))) hA
      exact ⟨t, fun _ => ⟨ht1, ht2⟩⟩
    · exact ⟨0, fun h => absurd h hi⟩
  obtain ⟨fF, hFF⟩ := Classical.axiomOfChoice hFi
  have hDi : ∀ i : Nat, ∃ a : Nat, i < 2 → (dT i).eval args s none [] s = some (.ref a) ∧ va_T .byte a 100 (fun j => .int (dgt i j)) A s s.heap := by
    intro i
    by_cases hi : i < 2
    · have h1 := all_at nd_all hi
      dsimp only at h1
      simp only [Bool.and_eq_true] at h1
      obtain ⟨⟨⟨s1, s2⟩, s3⟩, s4⟩ := h1
      obtain ⟨t, ht1, ht2⟩ := va_Tof (N := 100) (f := fun j => .int (dgt i j)) (by omega) (hn s1) (va_eqt (hn s2)) (fun j hj => va_eqt (hn (all_at s4 hj))) hA
      exact ⟨t, fun _ => ⟨ht1, ht2⟩⟩
    · exact ⟨0, fun h => absurd h hi⟩
  obtain ⟨fG, hGG⟩ := Classical.axiomOfChoice hDi
  have hF := hn z9
  have hF2 : ∃ v : Value, (v = .null ∨ ∃ a, v = .ref a) ∧ va_Z "jdk/internal/util/Preconditions" "SIOOBE_FORMATTER" "Ljava/util/function/BiFunction;" v A s s.heap := by
    rcases va_Zqof (ww z10) (ww j6) hF hA with h | ⟨t, h⟩
    · exact ⟨_, Or.inl rfl, h⟩
    · exact ⟨_, Or.inr ⟨t, rfl⟩, h⟩
  obtain ⟨vo, ho1, ho2⟩ := hF2
  refine ⟨(D, fun k => if k = 20 then a20 else if k = 21 then a21 else if k = 22 then a22 else if k = 23 then a23 else if k = 24 then a24 else if k = 25 then a25 else if k = 26 then a26 else if k = 27 then a27 else if k = 28 then a28 else a29, fE, fS, fB, tk, tw, b, vo, L, xs, fun i => if i < 2 then fF i else fG (i - 2)), ho1, rfl, rfl, rfl, ?_⟩
  refine ⟨⟨hD, ?_⟩, ⟨fun i hi => ?_, fun i j hi hj hij => ?_⟩, fun i hi => ?_, fun i hi => ?_, va_Zof (ww z3) (ww j2) hk1 hA, hk2, va_Zof (ww z6) (ww j3) hw1 hA, hw2, fun i hi => ?_, va_Zof (ww z8) (ww j5) (va_eqt (hn z7)) hA, ho2, vx_Zqof (ww z12) (ww j7) (hn z11) hA, vx_Zqof (ww z14) (ww j7) (hn z13) hA, ⟨hX, hb, hA b hb⟩, fun q hq => ?_, fun q hq => ?_, fun w hw => ?_, va_AO.of (ww j8), va_AO.of (ww j9), ⟨va_AO.of (ww j10), va_AO.of (ww j15), ww j16, ww j17⟩, trivial, trivial⟩
  · intro k q hq
    unfold pm_tys at hq
    match k, hq with
    | 0, hq => cases hq; exact r20
    | 1, hq => cases hq; exact r21
    | 2, hq => cases hq; exact r22
    | 3, hq => cases hq; exact r23
    | 4, hq => cases hq; exact r24
    | 5, hq => cases hq; exact r25
    | 6, hq => cases hq; exact r26
    | 7, hq => cases hq; exact r27
    | 8, hq => cases hq; exact r28
    | 9, hq => cases hq; exact r29
  · have hi : i < 38 := by rw [l1] at hi; exact hi
    obtain ⟨e1, e2, e3, e4, e5, e6⟩ := eall i hi
    refine ⟨va_Zref (ww e6) (ww j1) (hE i hi) hA, va_Oof (hn e1) (hE i hi) hA, fun q hq => ?_⟩
    unfold ordF at hq
    rw [List.mem_singleton] at hq
    subst hq
    dsimp only
    rw [of_decide_eq_true (all_at l5 hi)]
    exact hord i hi
  · have hi : i < 38 := by rw [l1] at hi; exact hi
    have hj : j < 38 := by rw [l1] at hj; exact hj
    have hij : fE i = fE j := hij
    have h1 := hord i hi
    rw [hij] at h1
    have h2 := OF_ne h1 (hord j hj)
    injection h2 with h2
    have h3 := congrArg Int32.toInt h2
    rw [Int32.toInt_ofNat_of_lt (by omega), Int32.toInt_ofNat_of_lt (by omega)] at h3
    omega
  · exact OF_eval (hE i hi) (va_eqv (hn (eall i hi).2.2.1) (hS _ (tid_lt i hi))) hA
  · have h1 := all_at ns_all hi
    dsimp only at h1
    simp only [Bool.and_eq_true] at h1
    obtain ⟨⟨⟨⟨⟨s1, s2⟩, s3⟩, s4⟩, s5⟩, s6⟩ := h1
    exact ⟨va_Oof (hn s1) (hS i hi) hA, OF_eval (hS i hi) (va_eqt (hn s4)) hA, OF_eval (hS i hi) (hB i hi).1 hA, (hB i hi).2⟩
  · have h1 := all_at nk_all hi
    have h2 := all_at nd_all hi
    dsimp only at h1 h2
    simp only [Bool.and_eq_true] at h1 h2
    obtain ⟨⟨⟨-, -⟩, s3⟩, -⟩ := h1
    obtain ⟨⟨⟨-, -⟩, d3⟩, -⟩ := h2
    have e1 : (if i < 2 then fF i else fG (i - 2)) = fF i := if_pos hi
    have e2 : (if 2 + i < 2 then fF (2 + i) else fG (2 + i - 2)) = fG i := by
      rw [if_neg (by omega), show 2 + i - 2 = i by omega]
    refine ⟨⟨?_, ?_⟩, ⟨?_, ?_⟩⟩
    · show va_Z _ _ _ (.ref (if i < 2 then fF i else fG (i - 2))) A s s.heap
      rw [e1]
      exact va_Zof (ww s3) (ww j4) (hFF i hi).1 hA
    · show va_T _ (if i < 2 then fF i else fG (i - 2)) 4 _ A s s.heap
      rw [e1]
      exact (hFF i hi).2
    · show va_Z _ _ _ (.ref (if 2 + i < 2 then fF (2 + i) else fG (2 + i - 2))) A s s.heap
      rw [e2]
      exact va_Zof (ww d3) (ww j18) (hGG i hi).1 hA
    · show va_T _ (if 2 + i < 2 then fF (2 + i) else fG (2 + i - 2)) 100 _ A s s.heap
      rw [e2]
      exact (hGG i hi).2
  · obtain ⟨i, hi⟩ := List.getElem?_of_mem hq
    have hlt := (List.getElem?_eq_some_iff.mp hi).1
    rw [l2] at hlt
    have h1 := all_at nm_all2 hlt
    dsimp only at h1
    have h9 : msL.getD i (0, "") = q := by rw [List.getD_eq_getElem?_getD, hi]; rfl
    rw [h9, Bool.and_eq_true] at h1
    obtain ⟨a, ha⟩ := ref_ex (hn h1.1)
    exact ⟨a, vk_R.of (ww h1.2) ha⟩
  · obtain ⟨i, hi⟩ := List.getElem?_of_mem hq
    have hlt := (List.getElem?_eq_some_iff.mp hi).1
    rw [l3] at hlt
    have h1 := all_at nl_all hlt
    dsimp only at h1
    have h9 : lsL.getD i (0, "", 0) = q := by rw [List.getD_eq_getElem?_getD, hi]; rfl
    rw [h9, Bool.and_eq_true, Bool.and_eq_true] at h1
    have h2 := hS q.2.2 (Nat.blt_eq.mp h1.1.1)
    rw [of_decide_eq_true h1.1.2] at h2
    exact vk_R.of (ww h1.2) h2
  · obtain ⟨h1, h2⟩ := List.mem_filter.mp hw
    have h3 : w.before args s = true := wl w (by unfold lw_tbl; exact List.mem_append_right _ h1)
    cases w <;> first | exact va_Nw.of rfl h3 | exact absurd h2 (by simp [pm_nest])
end START
