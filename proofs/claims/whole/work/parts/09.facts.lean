/-! ===== facts of the tables, by program ===== -/
def xm_fn (c j : Nat) : String × String × String × Bool := match xm_cl[c]? with | some q => q.2.1 j | none => ("", "", "", true)
/-- the words that a callee may take along -/
def xm_tb : List Cond := lw_tbl.filter goodWord
theorem xm_tb_of {w : Cond} (h : w ∈ xm_tb) : w ∈ lw_tbl := (List.mem_filter.mp h).1
theorem xm_tb_good : GoodIn xm_tb xm_tb := fun _ h => ⟨h, good_of_word (List.mem_filter.mp h).2⟩
theorem xm_tbl_in {i : Nat} {w : Cond} (h : tables_1[i]? = some w) (hg : goodWord w = true) : w ∈ xm_tb := List.mem_filter.mpr ⟨List.mem_append_right _ (List.mem_of_getElem? h), hg⟩
def xm_fword (q : Nat × Nat × Nat) : Cond := .fieldLink (xm_cn q.1) q.2.1 (xm_cn (q.2.2 / 8192)) (xm_fn (q.2.2 / 8192) (q.2.2 / 32 % 256)).2.1 (xm_fn (q.2.2 / 8192) (q.2.2 / 32 % 256)).2.2.1
theorem xm_all_pos {β : Type} {l : List β} {ps : List Nat} {f : β → Cond} (h : (l.zip ps).all (fun q => decide (tables_1[q.2]? = some (f q.1)) && goodWord (f q.1)) = true) (hl : l.length = ps.length) : ∀ q ∈ l, f q ∈ xm_tb := by
  intro q hq
  obtain ⟨i, hi⟩ := List.getElem?_of_mem hq
  have hlt : i < ps.length := by rw [← hl]; exact (List.getElem?_eq_some_iff.mp hi).1
  have hz : (l.zip ps)[i]? = some (q, ps[i]) := by rw [List.getElem?_zip_eq_some]; exact ⟨hi, List.getElem?_eq_getElem hlt⟩
  have h9 := Bool.and_eq_true_iff.mp (List.all_eq_true.mp h _ (List.mem_of_getElem? hz))
  exact xm_tbl_in (of_decide_eq_true h9.1) h9.2
def xm_flp : List Nat := [69, 70, 71, 72, 73, 74, 75, 76, 77, 78, 79, 80, 81, 82, 83, 84, 301, 65, 395, 452, 397, 399, 407, 481, 483, 479, 142, 448, 401, 251, 458, 471, 303, 311, 315, 317, 463, 469, 460, 450, 475, 454, 319, 305, 313, 556, 309, 465, 467, 473, 307, 566, 485, 564, 323, 321, 325, 477, 144, 405, 784, 403, 140, 782, 780, 856, 846, 840, 834, 842, 844, 854, 852, 848, 832, 836, 838, 850, 923, 925, 927, 919, 917, 921, 456, 554, 558, 560, 297, 562, 138, 446, 786, 922, 924, 926, 916, 918, 920, 457, 459, 461, 464, 466, 468, 470, 472, 474, 476, 478, 480, 482, 484, 445, 447, 449, 451, 453, 455, 299, 779, 781, 783, 785, 563, 565, 553, 555, 557, 559, 561, 310, 312, 314, 316, 318, 320, 322, 326, 296, 298, 302, 304, 306, 308, 324, 137, 406, 394, 396, 398, 400, 402, 404, 462, 845, 847, 849, 851, 853, 855, 831, 833, 835, 837, 839, 841, 843, 246, 247, 248, 249, 250, 136, 143, 139, 141, 64, 300, 1030, 1031, 1032, 1033, 1034, 1035, 1036, 1037, 1038, 1039, 1040, 1041, 1042, 1043, 1044, 1045, 1046, 1047, 1048, 1049, 1050, 1051, 1052, 1053, 1054, 1055, 1056, 1057, 1058, 1059, 1060, 1061, 1062, 1063, 1064, 1065, 1066, 1067, 1068, 1069, 1070, 1071, 1072, 1073, 1074, 1075, 1076, 1077, 1078, 1079, 1080, 1081, 1082, 1083, 1084, 1085, 1086, 1087, 1088, 1089, 1090, 1091, 1092, 1093, 1094, 1095, 1096, 1097, 1098, 1099, 1100, 1101, 1102, 1103, 1104, 1105, 1106, 1107, 1108, 1109, 1110, 1111, 1112, 1113, 1114, 1115, 1116, 1117, 1118, 1119, 1120, 1121, 1122, 1123, 1124, 1125, 1126, 1127, 1128, 1129, 1130, 1131, 1132, 1133, 1134, 1135, 1136, 1137, 1138, 1139]
set_option maxRecDepth 100000 in
theorem xm_fl_in : ∀ q ∈ xm_fl, xm_fword q ∈ xm_tb := xm_all_pos (ps := xm_flp) (by decide +kernel) (by decide +kernel)
def xm_slp : List Nat := [274, 276, 278, 280, 282, 284, 604]
def xm_sname (k : Nat) : String := ["LOWEST_A", "HIGHEST_A", "LOWEST_B", "HIGHEST_B", "HIGHEST_C", "HIGHEST_NAMED", "RIGHT_ABOVE"].getD k ""
def xm_sword (q : Nat × Nat × Nat) : Cond := .fieldLink (xm_cn q.1) q.2.1 "WaterWorks" (xm_sname q.2.2) "[I"
set_option maxRecDepth 100000 in
theorem xm_sl_in : ∀ q ∈ xm_sl_, xm_sword q ∈ xm_tb := xm_all_pos (ps := xm_slp) (by decide +kernel) (by decide +kernel)
def xm_klp : List Nat := [30, 56, 130, 240, 286, 388, 439, 547, 804, 809, 770, 292, 294, 62, 372, 22, 1024]
def xm_kword (q : Nat × Nat × Nat) : Cond := .classLink (xm_cn q.1) q.2.1 (xm_cn q.2.2)
set_option maxRecDepth 100000 in
theorem xm_kl_in : ∀ q ∈ xm_kl, xm_kword q ∈ xm_tb := xm_all_pos (ps := xm_klp) (by decide +kernel) (by decide +kernel)
def xm_kcp : List Nat := [122, 1367]
def xm_cword (q : Nat × Nat × Int) : Cond := .constant (xm_cn q.1) q.2.1 (Int32.ofInt q.2.2)
set_option maxRecDepth 100000 in
theorem xm_kc_in : ∀ q ∈ xm_kc, xm_cword q ∈ xm_tb := xm_all_pos (ps := xm_kcp) (by decide +kernel) (by decide +kernel)
theorem xm_has_in {l : List (Nat × Nat × Nat)} {o j f : Nat} (h : xm_has l o j f = true) : (o, j, f) ∈ l := by
  obtain ⟨q, hq, e⟩ := List.any_eq_true.mp h
  simp only [Bool.and_eq_true, beq_iff_eq] at e
  obtain ⟨a, b, c⟩ := q
  obtain ⟨rfl, rfl, rfl⟩ := e
  exact hq
def xm_lword (q : Nat × Nat) : Cond := u_lay (xm_cn q.1) (fun k => xm_fn q.1 k) q.2
def xm_cj : List (Nat × Nat) := (List.range 13).flatMap fun c => (List.range (xm_nf c)).map fun j => (c, j)
def xm_cjp : List Nat := [85, 87, 89, 91, 93, 95, 97, 99, 101, 103, 105, 107, 109, 111, 113, 115, 928, 930, 932, 934, 936, 938, 486, 488, 490, 492, 494, 496, 498, 500, 502, 504, 506, 508, 510, 512, 514, 516, 518, 520, 522, 524, 787, 789, 791, 793, 567, 569, 571, 573, 575, 577, 579, 327, 329, 331, 333, 335, 337, 339, 341, 343, 345, 347, 349, 351, 353, 355, 408, 410, 412, 414, 416, 418, 420, 857, 859, 861, 863, 865, 867, 869, 871, 873, 875, 877, 879, 881, 252, 254, 256, 258, 260, 145, 147, 149, 151, 66, 1140, 1142, 1144, 1146, 1148, 1150, 1152, 1154, 1156, 1158, 1160, 1162, 1164, 1166, 1168, 1170, 1172, 1174, 1176, 1178, 1180, 1182, 1184, 1186, 1188, 1190, 1192, 1194, 1196, 1198, 1200, 1202, 1204, 1206, 1208, 1210, 1212, 1214, 1216, 1218, 1220, 1222, 1224, 1226, 1228, 1230, 1232, 1234, 1236, 1238, 1240, 1242, 1244, 1246, 1248, 1250, 1252, 1254, 1256, 1258, 1260, 1262, 1264, 1266, 1268, 1270, 1272, 1274, 1276, 1278, 1280, 1282, 1284, 1286, 1288, 1290, 1292, 1294, 1296, 1298, 1300, 1302, 1304, 1306, 1308, 1310, 1312, 1314, 1316, 1318, 1320, 1322, 1324, 1326, 1328, 1330, 1332, 1334, 1336, 1338, 1340, 1342, 1344, 1346, 1348, 1350, 1352, 1354, 1356, 1358, 49, 51, 53]
set_option maxRecDepth 100000 in
theorem xm_cj_in : ∀ q ∈ xm_cj, xm_lword q ∈ xm_tb := xm_all_pos (ps := xm_cjp) (by decide +kernel) (by decide +kernel)
def xm_instp : List Nat := [23, 911, 440, 774, 548, 287, 389, 826, 241, 131, 57, 1025, 31]
def xm_initp : List Nat := [1, 21, 17, 19, 18, 15, 16, 20, 14, 7, 5, 6, 4, 0]
set_option maxRecDepth 100000 in
theorem xm_inst_in : ∀ c ∈ List.range 13, Cond.instantiable (xm_cn c) (xm_nf c) ∈ xm_tb := xm_all_pos (ps := xm_instp) (f := fun c => Cond.instantiable (xm_cn c) (xm_nf c)) (by decide +kernel) (by decide +kernel)
set_option maxRecDepth 100000 in
theorem xm_init_in : ∀ c ∈ List.range 14, Cond.initialized (xm_cn c) ∈ xm_tb := xm_all_pos (ps := xm_initp) (f := fun c => Cond.initialized (xm_cn c)) (by decide +kernel) (by decide +kernel)
theorem xm_cl_at : ∀ c, c < 13 → xm_cl[c]? = some (xm_cn c, (fun k => xm_fn c k), xm_nf c) := by
  intro c hc
  have h : c = 0 ∨ c = 1 ∨ c = 2 ∨ c = 3 ∨ c = 4 ∨ c = 5 ∨ c = 6 ∨ c = 7 ∨ c = 8 ∨ c = 9 ∨ c = 10 ∨ c = 11 ∨ c = 12 := by omega
  rcases h with rfl | rfl | rfl | rfl | rfl | rfl | rfl | rfl | rfl | rfl | rfl | rfl | rfl <;> rfl
theorem xm_ws_in {c : Nat} (hc : c < 13) : ∀ w ∈ u_ws (xm_cn c) (fun k => xm_fn c k) (xm_nf c), w ∈ xm_tb := by
  intro w hw
  obtain ⟨j, hj, rfl⟩ := List.mem_map.mp hw
  exact xm_cj_in (c, j) (List.mem_flatMap.mpr ⟨c, List.mem_range.mpr hc, List.mem_map.mpr ⟨j, hj, rfl⟩⟩)
/-- a field's type, by its descriptor -/
def xm_tyok (c j : Nat) : Bool := match parseFieldDescriptor (xm_fn c j).2.2.1 with
  | some .int => decide (xm_ty c j = 0)
  | some .boolean => decide (xm_ty c j = 1)
  | some (.object _) => decide (2 ≤ xm_ty c j)
  | some (.array _) => decide (2 ≤ xm_ty c j)
  | _ => false
set_option maxRecDepth 100000 in
theorem xm_ty_all : ((List.range 13).all fun c => (List.range (xm_nf c)).all fun j => xm_tyok c j) = true := by decide +kernel
theorem xm_ty_ok {c j : Nat} (hc : c < 13) (hj : j < xm_nf c) : xm_tyok c j = true := List.all_eq_true.mp (List.all_eq_true.mp xm_ty_all c (List.mem_range.mpr hc)) j (List.mem_range.mpr hj)
def xm_fty (c j : Nat) : FieldType := (parseFieldDescriptor (xm_fn c j).2.2.1).getD .int
theorem xm_fty_ok {c j : Nat} (hc : c < 13) (hj : j < xm_nf c) : parseFieldDescriptor (xm_fn c j).2.2.1 = some (xm_fty c j) := by
  have h := xm_ty_ok hc hj
  unfold xm_tyok at h
  unfold xm_fty
  cases hp : parseFieldDescriptor (xm_fn c j).2.2.1 with
  | none => rw [hp] at h; cases h
  | some t => rfl
set_option maxRecDepth 100000 in
theorem xm_nm_all : ((List.range 13).all fun c => (List.range (xm_nf c)).all fun a => (List.range (xm_nf c)).all fun b => decide (a = b) || decide (¬ (xm_fn c a).2.1 = (xm_fn c b).2.1)) = true := by decide +kernel
theorem xm_nm {c : Nat} (hc : c < 13) : ∀ a, a < xm_nf c → ∀ b, b < xm_nf c → a ≠ b → (xm_fn c a).2.1 ≠ (xm_fn c b).2.1 := by
  intro a ha b hb hab
  have h := List.all_eq_true.mp (List.all_eq_true.mp (List.all_eq_true.mp xm_nm_all c (List.mem_range.mpr hc)) a (List.mem_range.mpr ha)) b (List.mem_range.mpr hb)
  rcases Bool.or_eq_true_iff.mp h with h | h
  · exact absurd (of_decide_eq_true h) hab
  · exact of_decide_eq_true h
set_option maxRecDepth 100000 in
theorem xm_dc_all : ((List.range 12).all fun c => (List.range (xm_nf c)).all fun j => decide ((xm_fn c j).1 = xm_cn c)) = true := by decide +kernel
theorem xm_dc {c j : Nat} (hc : c < 12) (hj : j < xm_nf c) : (xm_fn c j).1 = xm_cn c := of_decide_eq_true (List.all_eq_true.mp (List.all_eq_true.mp xm_dc_all c (List.mem_range.mpr hc)) j (List.mem_range.mpr hj))
