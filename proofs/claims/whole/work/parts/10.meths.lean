theorem am_w {w : Cond} (i : Nat) (h : tables_1[i]? = some w) (g : goodWord w = true) : w ∈ am_tbl := List.mem_filter.mpr ⟨List.mem_append_right _ (List.mem_of_getElem? h), g⟩
theorem am_wn {w : Cond} (i : Nat) (h : tables_1[i]? = some w) (g : am_isNest w = true) : w ∈ am_nest := List.mem_filter.mpr ⟨List.mem_append_right _ (List.mem_of_getElem? h), g⟩
theorem am_w0 {w : Cond} (i : Nat) (h : (k2_sels lw_privs)[i]? = some w) (g : goodWord w = true) : w ∈ am_tbl := List.mem_filter.mpr ⟨List.mem_append_left _ (List.mem_of_getElem? h), g⟩
theorem am_wc {w : Cond} (i : Nat) (h : tables_1[i]? = some w) : w ∈ lw_tbl := List.mem_append_right _ (List.mem_of_getElem? h)
theorem am_sub {ws : List Cond} (ps : List Nat) (h : ws = ps.filterMap (fun i => tables_1[i]?)) (g : ws.all goodWord = true) : ∀ w ∈ ws, w ∈ am_tbl := fun w hw => List.mem_filter.mpr ⟨List.mem_append_right _ (by rw [h] at hw; obtain ⟨i, -, hi⟩ := List.mem_filterMap.mp hw; exact List.mem_of_getElem? hi), List.all_eq_true.mp g w hw⟩
theorem inX0 : ∀ w ∈ u_ws RX0 TX0 4, w ∈ am_tbl := am_sub [126, 128, 130, 132] (by decide +kernel) (by decide +kernel)
theorem iniX0 : Cond.initialized RX0 ∈ am_tbl := am_w 2 (by decide +kernel) rfl
theorem insX0 : Cond.instantiable RX0 4 ∈ am_tbl := am_w 24 (by decide +kernel) rfl
theorem inX1 : ∀ w ∈ u_ws RX1 TX1 7, w ∈ am_tbl := am_sub [231, 233, 235, 237, 239, 241, 243] (by decide +kernel) (by decide +kernel)
theorem iniX1 : Cond.initialized RX1 ∈ am_tbl := am_w 9 (by decide +kernel) rfl
theorem insX1 : Cond.instantiable RX1 7 ∈ am_tbl := am_w 212 (by decide +kernel) rfl
theorem inX2 : ∀ w ∈ u_ws RX2 TX2 3, w ∈ am_tbl := am_sub [144, 146, 148] (by decide +kernel) (by decide +kernel)
theorem iniX2 : Cond.initialized RX2 ∈ am_tbl := am_w 5 (by decide +kernel) rfl
theorem insX2 : Cond.instantiable RX2 3 ∈ am_tbl := am_w 136 (by decide +kernel) rfl
theorem inX3 : ∀ w ∈ u_ws RX3 TX3 10, w ∈ am_tbl := am_sub [263, 265, 267, 269, 271, 273, 275, 277, 279, 281] (by decide +kernel) (by decide +kernel)
theorem iniX3 : Cond.initialized RX3 ∈ am_tbl := am_w 6 (by decide +kernel) rfl
theorem insX3 : Cond.instantiable RX3 10 ∈ am_tbl := am_w 152 (by decide +kernel) rfl
theorem inX4 : ∀ w ∈ u_ws RX4 TX4 4, w ∈ am_tbl := am_sub [45, 47, 49, 51] (by decide +kernel) (by decide +kernel)
theorem iniX4 : Cond.initialized RX4 ∈ am_tbl := am_w 3 (by decide +kernel) rfl
theorem insX4 : Cond.instantiable RX4 4 ∈ am_tbl := am_w 33 (by decide +kernel) rfl
theorem inX5 : ∀ w ∈ u_ws RX5 TX5 4, w ∈ am_tbl := am_sub [171, 173, 175, 177] (by decide +kernel) (by decide +kernel)
theorem iniX5 : Cond.initialized RX5 ∈ am_tbl := am_w 7 (by decide +kernel) rfl
theorem insX5 : Cond.instantiable RX5 4 ∈ am_tbl := am_w 158 (by decide +kernel) rfl
theorem inX6 : ∀ w ∈ u_ws RX6 TX6 11, w ∈ am_tbl := am_sub [91, 93, 95, 97, 99, 101, 103, 105, 107, 109, 111] (by decide +kernel) (by decide +kernel)
theorem iniX6 : Cond.initialized RX6 ∈ am_tbl := am_w 4 (by decide +kernel) rfl
theorem insX6 : Cond.instantiable RX6 11 ∈ am_tbl := am_w 55 (by decide +kernel) rfl
theorem inX7 : ∀ w ∈ u_ws RX7 TX7 9, w ∈ am_tbl := am_sub [307, 309, 311, 313, 315, 317, 319, 321, 323] (by decide +kernel) (by decide +kernel)
theorem iniX7 : Cond.initialized RX7 ∈ am_tbl := am_w 11 (by decide +kernel) rfl
theorem insX7 : Cond.instantiable RX7 9 ∈ am_tbl := am_w 285 (by decide +kernel) rfl
theorem inX8 : ∀ w ∈ u_ws RX8 TX8 6, w ∈ am_tbl := am_sub [199, 201, 203, 205, 207, 209] (by decide +kernel) (by decide +kernel)
theorem iniX8 : Cond.initialized RX8 ∈ am_tbl := am_w 8 (by decide +kernel) rfl
theorem insX8 : Cond.instantiable RX8 6 ∈ am_tbl := am_w 184 (by decide +kernel) rfl
theorem inX9 : ∀ w ∈ u_ws RX9 TX9 7, w ∈ am_tbl := am_sub [333, 335, 337, 339, 341, 343, 345] (by decide +kernel) (by decide +kernel)
theorem iniX9 : Cond.initialized RX9 ∈ am_tbl := am_w 1 (by decide +kernel) rfl
theorem insX9 : Cond.instantiable RX9 7 ∈ am_tbl := am_w 16 (by decide +kernel) rfl
theorem inX10 : ∀ w ∈ u_ws RX10 TX10 62, w ∈ am_tbl := am_sub [956, 958, 960, 962, 964, 966, 968, 970, 972, 974, 976, 978, 980, 982, 984, 986, 988, 990, 992, 994, 996, 998, 1000, 1002, 1004, 1006, 1008, 1010, 1012, 1014, 1016, 1018, 1020, 1022, 1024, 1026, 1028, 1030, 1032, 1034, 1036, 1038, 1040, 1042, 1044, 1046, 1048, 1050, 1052, 1054, 1056, 1058, 1060, 1062, 1064, 1066, 1068, 1070, 1072, 1074, 1076, 1078] (by decide +kernel) (by decide +kernel)
theorem iniX10 : Cond.initialized RX10 ∈ am_tbl := am_w 12 (by decide +kernel) rfl
theorem insX10 : Cond.instantiable RX10 62 ∈ am_tbl := am_w 887 (by decide +kernel) rfl
theorem iniJ7 : Cond.initialized RJ7 ∈ am_tbl := am_w 10 (by decide +kernel) rfl
theorem iniJ9 : Cond.initialized RJ9 ∈ am_tbl := am_w 14 (by decide +kernel) rfl
theorem iniJ10 : Cond.initialized RJ10 ∈ am_tbl := am_w 13 (by decide +kernel) rfl
theorem wac_int : Cond.arrayClass .int ∈ am_tbl := am_w 54 (by decide +kernel) rfl
theorem wac_long : Cond.arrayClass .long ∈ am_tbl := am_w 180 (by decide +kernel) rfl
theorem wac_boolean : Cond.arrayClass .boolean ∈ am_tbl := am_w 1081 (by decide +kernel) rfl
theorem cl_L_7 : Cond.classLink RL 7 RX9 ∈ am_tbl := am_w 15 (by decide +kernel) rfl
theorem cl_X9_7 : Cond.classLink RX9 7 RX0 ∈ am_tbl := am_w 23 (by decide +kernel) rfl
theorem cl_X0_18 : Cond.classLink RX0 18 RX4 ∈ am_tbl := am_w 29 (by decide +kernel) rfl
theorem cl_X0_24 : Cond.classLink RX0 24 RX6 ∈ am_tbl := am_w 31 (by decide +kernel) rfl
theorem cl_X9_16 : Cond.classLink RX9 16 RX2 ∈ am_tbl := am_w 135 (by decide +kernel) rfl
theorem cl_X9_23 : Cond.classLink RX9 23 RX3 ∈ am_tbl := am_w 151 (by decide +kernel) rfl
theorem cl_X3_22 : Cond.classLink RX3 22 RX5 ∈ am_tbl := am_w 157 (by decide +kernel) rfl
theorem cl_X3_29 : Cond.classLink RX3 29 RX1 ∈ am_tbl := am_w 181 (by decide +kernel) rfl
theorem cl_X3_48 : Cond.classLink RX3 48 RX8 ∈ am_tbl := am_w 183 (by decide +kernel) rfl
theorem cl_X9_30 : Cond.classLink RX9 30 RX7 ∈ am_tbl := am_w 284 (by decide +kernel) rfl
theorem cl_X7_37 : Cond.classLink RX7 37 RX8 ∈ am_tbl := am_w 290 (by decide +kernel) rfl
theorem ct_X5_36 : Cond.constantLong RX5 36 (-7046029254386353131 : Int64) ∈ am_tbl := am_w 614 (by decide +kernel) rfl
theorem ct_X3_70 : Cond.constant RX3 70 (80640 : Int32) ∈ am_tbl := am_w 630 (by decide +kernel) rfl
theorem ct_X9_214 : Cond.constantLong RX9 214 (29 : Int64) ∈ am_tbl := am_w 873 (by decide +kernel) rfl
theorem ct_X4_41 : Cond.constantLong RX4 41 (31 : Int64) ∈ am_tbl := am_w 878 (by decide +kernel) rfl
theorem ct_X6_73 : Cond.constantLong RX6 73 (31 : Int64) ∈ am_tbl := am_w 884 (by decide +kernel) rfl
theorem cl_L_10 : Cond.classLink RL 10 RX10 ∈ am_tbl := am_w 886 (by decide +kernel) rfl
theorem ct_X10_99 : Cond.constant RX10 99 (80000 : Int32) ∈ am_tbl := am_w 892 (by decide +kernel) rfl
theorem ct_X10_107 : Cond.constant RX10 107 (163840 : Int32) ∈ am_tbl := am_w 893 (by decide +kernel) rfl
theorem ct_X10_229 : Cond.constantLong RX10 229 (31 : Int64) ∈ am_tbl := am_w 1232 (by decide +kernel) rfl
theorem ct_X10_231 : Cond.constantLong RX10 231 (-7046029254386353131 : Int64) ∈ am_tbl := am_w 1233 (by decide +kernel) rfl
theorem ct_X10_420 : Cond.constantLong RX10 420 (29 : Int64) ∈ am_tbl := am_w 1421 (by decide +kernel) rfl
theorem ct_L_97 : Cond.constantLong RL 97 (4294967295 : Int64) ∈ am_tbl := am_w 1422 (by decide +kernel) rfl
theorem fw_X4_9 : Cond.fieldLink RX4 9 (TX4 0).1 (TX4 0).2.1 (TX4 0).2.2.1 ∈ am_tbl := am_w 38 (by decide +kernel) rfl
theorem fl_X4_9 : am_fl RX4 9 4 0 := ⟨RX4, TX4, 4, rfl, by decide, inX4, fw_X4_9⟩
theorem fp_X4_9 : am_fp RX4 9 4 0 (tyX4 0) false := ⟨RX4, TX4, 4, tyX4, rfl, by decide, inX4, fw_X4_9, tyX4_ok, nmX4, rfl, rfl, fun h => by cases h⟩
theorem fw_X0_36 : Cond.fieldLink RX0 36 (TX4 0).1 (TX4 0).2.1 (TX4 0).2.2.1 ∈ am_tbl := am_w 39 (by decide +kernel) rfl
theorem fl_X0_36 : am_fl RX0 36 4 0 := ⟨RX4, TX4, 4, rfl, by decide, inX4, fw_X0_36⟩
theorem fp_X0_36 : am_fp RX0 36 4 0 (tyX4 0) false := ⟨RX4, TX4, 4, tyX4, rfl, by decide, inX4, fw_X0_36, tyX4_ok, nmX4, rfl, rfl, fun h => by cases h⟩
theorem fw_X9_70 : Cond.fieldLink RX9 70 (TX4 0).1 (TX4 0).2.1 (TX4 0).2.2.1 ∈ am_tbl := am_w 40 (by decide +kernel) rfl
theorem fl_X9_70 : am_fl RX9 70 4 0 := ⟨RX4, TX4, 4, rfl, by decide, inX4, fw_X9_70⟩
theorem fp_X9_70 : am_fp RX9 70 4 0 (tyX4 0) false := ⟨RX4, TX4, 4, tyX4, rfl, by decide, inX4, fw_X9_70, tyX4_ok, nmX4, rfl, rfl, fun h => by cases h⟩
theorem fw_X4_15 : Cond.fieldLink RX4 15 (TX4 1).1 (TX4 1).2.1 (TX4 1).2.2.1 ∈ am_tbl := am_w 41 (by decide +kernel) rfl
theorem fl_X4_15 : am_fl RX4 15 4 1 := ⟨RX4, TX4, 4, rfl, by decide, inX4, fw_X4_15⟩
theorem fp_X4_15 : am_fp RX4 15 4 1 (tyX4 1) false := ⟨RX4, TX4, 4, tyX4, rfl, by decide, inX4, fw_X4_15, tyX4_ok, nmX4, rfl, rfl, fun h => by cases h⟩
theorem fw_X9_90 : Cond.fieldLink RX9 90 (TX4 1).1 (TX4 1).2.1 (TX4 1).2.2.1 ∈ am_tbl := am_w 42 (by decide +kernel) rfl
theorem fl_X9_90 : am_fl RX9 90 4 1 := ⟨RX4, TX4, 4, rfl, by decide, inX4, fw_X9_90⟩
theorem fp_X9_90 : am_fp RX9 90 4 1 (tyX4 1) false := ⟨RX4, TX4, 4, tyX4, rfl, by decide, inX4, fw_X9_90, tyX4_ok, nmX4, rfl, rfl, fun h => by cases h⟩
theorem fw_X4_18 : Cond.fieldLink RX4 18 (TX4 2).1 (TX4 2).2.1 (TX4 2).2.2.1 ∈ am_tbl := am_w 43 (by decide +kernel) rfl
theorem fl_X4_18 : am_fl RX4 18 4 2 := ⟨RX4, TX4, 4, rfl, by decide, inX4, fw_X4_18⟩
theorem fp_X4_18 : am_fp RX4 18 4 2 (tyX4 2) true := ⟨RX4, TX4, 4, tyX4, rfl, by decide, inX4, fw_X4_18, tyX4_ok, nmX4, rfl, rfl, fun _ => rfl⟩
theorem fw_X4_22 : Cond.fieldLink RX4 22 (TX4 3).1 (TX4 3).2.1 (TX4 3).2.2.1 ∈ am_tbl := am_w 44 (by decide +kernel) rfl
theorem fl_X4_22 : am_fl RX4 22 4 3 := ⟨RX4, TX4, 4, rfl, by decide, inX4, fw_X4_22⟩
theorem fp_X4_22 : am_fp RX4 22 4 3 (tyX4 3) true := ⟨RX4, TX4, 4, tyX4, rfl, by decide, inX4, fw_X4_22, tyX4_ok, nmX4, rfl, rfl, fun _ => rfl⟩
theorem fw_X6_9 : Cond.fieldLink RX6 9 (TX6 0).1 (TX6 0).2.1 (TX6 0).2.2.1 ∈ am_tbl := am_w 60 (by decide +kernel) rfl
theorem fl_X6_9 : am_fl RX6 9 6 0 := ⟨RX6, TX6, 11, rfl, by decide, inX6, fw_X6_9⟩
theorem fp_X6_9 : am_fp RX6 9 6 0 (tyX6 0) false := ⟨RX6, TX6, 11, tyX6, rfl, by decide, inX6, fw_X6_9, tyX6_ok, nmX6, rfl, rfl, fun h => by cases h⟩
theorem fw_X7_73 : Cond.fieldLink RX7 73 (TX6 0).1 (TX6 0).2.1 (TX6 0).2.2.1 ∈ am_tbl := am_w 61 (by decide +kernel) rfl
theorem fl_X7_73 : am_fl RX7 73 6 0 := ⟨RX6, TX6, 11, rfl, by decide, inX6, fw_X7_73⟩
theorem fp_X7_73 : am_fp RX7 73 6 0 (tyX6 0) false := ⟨RX6, TX6, 11, tyX6, rfl, by decide, inX6, fw_X7_73, tyX6_ok, nmX6, rfl, rfl, fun h => by cases h⟩
theorem fw_X0_42 : Cond.fieldLink RX0 42 (TX6 0).1 (TX6 0).2.1 (TX6 0).2.2.1 ∈ am_tbl := am_w 62 (by decide +kernel) rfl
theorem fl_X0_42 : am_fl RX0 42 6 0 := ⟨RX6, TX6, 11, rfl, by decide, inX6, fw_X0_42⟩
theorem fp_X0_42 : am_fp RX0 42 6 0 (tyX6 0) false := ⟨RX6, TX6, 11, tyX6, rfl, by decide, inX6, fw_X0_42, tyX6_ok, nmX6, rfl, rfl, fun h => by cases h⟩
theorem fw_X3_151 : Cond.fieldLink RX3 151 (TX6 0).1 (TX6 0).2.1 (TX6 0).2.2.1 ∈ am_tbl := am_w 63 (by decide +kernel) rfl
theorem fl_X3_151 : am_fl RX3 151 6 0 := ⟨RX6, TX6, 11, rfl, by decide, inX6, fw_X3_151⟩
theorem fp_X3_151 : am_fp RX3 151 6 0 (tyX6 0) false := ⟨RX6, TX6, 11, tyX6, rfl, by decide, inX6, fw_X3_151, tyX6_ok, nmX6, rfl, rfl, fun h => by cases h⟩
theorem fw_X9_122 : Cond.fieldLink RX9 122 (TX6 0).1 (TX6 0).2.1 (TX6 0).2.2.1 ∈ am_tbl := am_w 64 (by decide +kernel) rfl
theorem fl_X9_122 : am_fl RX9 122 6 0 := ⟨RX6, TX6, 11, rfl, by decide, inX6, fw_X9_122⟩
theorem fp_X9_122 : am_fp RX9 122 6 0 (tyX6 0) false := ⟨RX6, TX6, 11, tyX6, rfl, by decide, inX6, fw_X9_122, tyX6_ok, nmX6, rfl, rfl, fun h => by cases h⟩
theorem fw_X8_143 : Cond.fieldLink RX8 143 (TX6 0).1 (TX6 0).2.1 (TX6 0).2.2.1 ∈ am_tbl := am_w 65 (by decide +kernel) rfl
theorem fl_X8_143 : am_fl RX8 143 6 0 := ⟨RX6, TX6, 11, rfl, by decide, inX6, fw_X8_143⟩
theorem fp_X8_143 : am_fp RX8 143 6 0 (tyX6 0) false := ⟨RX6, TX6, 11, tyX6, rfl, by decide, inX6, fw_X8_143, tyX6_ok, nmX6, rfl, rfl, fun h => by cases h⟩
theorem fw_X6_15 : Cond.fieldLink RX6 15 (TX6 1).1 (TX6 1).2.1 (TX6 1).2.2.1 ∈ am_tbl := am_w 66 (by decide +kernel) rfl
theorem fl_X6_15 : am_fl RX6 15 6 1 := ⟨RX6, TX6, 11, rfl, by decide, inX6, fw_X6_15⟩
theorem fp_X6_15 : am_fp RX6 15 6 1 (tyX6 1) false := ⟨RX6, TX6, 11, tyX6, rfl, by decide, inX6, fw_X6_15, tyX6_ok, nmX6, rfl, rfl, fun h => by cases h⟩
theorem fw_X0_45 : Cond.fieldLink RX0 45 (TX6 1).1 (TX6 1).2.1 (TX6 1).2.2.1 ∈ am_tbl := am_w 67 (by decide +kernel) rfl
theorem fl_X0_45 : am_fl RX0 45 6 1 := ⟨RX6, TX6, 11, rfl, by decide, inX6, fw_X0_45⟩
theorem fp_X0_45 : am_fp RX0 45 6 1 (tyX6 1) false := ⟨RX6, TX6, 11, tyX6, rfl, by decide, inX6, fw_X0_45, tyX6_ok, nmX6, rfl, rfl, fun h => by cases h⟩
theorem fw_X9_142 : Cond.fieldLink RX9 142 (TX6 1).1 (TX6 1).2.1 (TX6 1).2.2.1 ∈ am_tbl := am_w 68 (by decide +kernel) rfl
theorem fl_X9_142 : am_fl RX9 142 6 1 := ⟨RX6, TX6, 11, rfl, by decide, inX6, fw_X9_142⟩
theorem fp_X9_142 : am_fp RX9 142 6 1 (tyX6 1) false := ⟨RX6, TX6, 11, tyX6, rfl, by decide, inX6, fw_X9_142, tyX6_ok, nmX6, rfl, rfl, fun h => by cases h⟩
theorem fw_X6_18 : Cond.fieldLink RX6 18 (TX6 2).1 (TX6 2).2.1 (TX6 2).2.2.1 ∈ am_tbl := am_w 69 (by decide +kernel) rfl
theorem fl_X6_18 : am_fl RX6 18 6 2 := ⟨RX6, TX6, 11, rfl, by decide, inX6, fw_X6_18⟩
theorem fp_X6_18 : am_fp RX6 18 6 2 (tyX6 2) true := ⟨RX6, TX6, 11, tyX6, rfl, by decide, inX6, fw_X6_18, tyX6_ok, nmX6, rfl, rfl, fun _ => rfl⟩
theorem fw_X7_89 : Cond.fieldLink RX7 89 (TX6 2).1 (TX6 2).2.1 (TX6 2).2.2.1 ∈ am_tbl := am_w 70 (by decide +kernel) rfl
theorem fl_X7_89 : am_fl RX7 89 6 2 := ⟨RX6, TX6, 11, rfl, by decide, inX6, fw_X7_89⟩
-- final field of another class: X7_89
theorem fw_X3_168 : Cond.fieldLink RX3 168 (TX6 2).1 (TX6 2).2.1 (TX6 2).2.2.1 ∈ am_tbl := am_w 71 (by decide +kernel) rfl
theorem fl_X3_168 : am_fl RX3 168 6 2 := ⟨RX6, TX6, 11, rfl, by decide, inX6, fw_X3_168⟩
-- final field of another class: X3_168
theorem fw_X8_63 : Cond.fieldLink RX8 63 (TX6 2).1 (TX6 2).2.1 (TX6 2).2.2.1 ∈ am_tbl := am_w 72 (by decide +kernel) rfl
theorem fl_X8_63 : am_fl RX8 63 6 2 := ⟨RX6, TX6, 11, rfl, by decide, inX6, fw_X8_63⟩
-- final field of another class: X8_63
theorem fw_X6_22 : Cond.fieldLink RX6 22 (TX6 3).1 (TX6 3).2.1 (TX6 3).2.2.1 ∈ am_tbl := am_w 73 (by decide +kernel) rfl
theorem fl_X6_22 : am_fl RX6 22 6 3 := ⟨RX6, TX6, 11, rfl, by decide, inX6, fw_X6_22⟩
theorem fp_X6_22 : am_fp RX6 22 6 3 (tyX6 3) true := ⟨RX6, TX6, 11, tyX6, rfl, by decide, inX6, fw_X6_22, tyX6_ok, nmX6, rfl, rfl, fun _ => rfl⟩
theorem fw_X7_116 : Cond.fieldLink RX7 116 (TX6 3).1 (TX6 3).2.1 (TX6 3).2.2.1 ∈ am_tbl := am_w 74 (by decide +kernel) rfl
theorem fl_X7_116 : am_fl RX7 116 6 3 := ⟨RX6, TX6, 11, rfl, by decide, inX6, fw_X7_116⟩
-- final field of another class: X7_116
theorem fw_X3_192 : Cond.fieldLink RX3 192 (TX6 3).1 (TX6 3).2.1 (TX6 3).2.2.1 ∈ am_tbl := am_w 75 (by decide +kernel) rfl
theorem fl_X3_192 : am_fl RX3 192 6 3 := ⟨RX6, TX6, 11, rfl, by decide, inX6, fw_X3_192⟩
-- final field of another class: X3_192
theorem fw_X8_55 : Cond.fieldLink RX8 55 (TX6 3).1 (TX6 3).2.1 (TX6 3).2.2.1 ∈ am_tbl := am_w 76 (by decide +kernel) rfl
theorem fl_X8_55 : am_fl RX8 55 6 3 := ⟨RX6, TX6, 11, rfl, by decide, inX6, fw_X8_55⟩
-- final field of another class: X8_55
theorem fw_X6_25 : Cond.fieldLink RX6 25 (TX6 4).1 (TX6 4).2.1 (TX6 4).2.2.1 ∈ am_tbl := am_w 77 (by decide +kernel) rfl
theorem fl_X6_25 : am_fl RX6 25 6 4 := ⟨RX6, TX6, 11, rfl, by decide, inX6, fw_X6_25⟩
theorem fp_X6_25 : am_fp RX6 25 6 4 (tyX6 4) true := ⟨RX6, TX6, 11, tyX6, rfl, by decide, inX6, fw_X6_25, tyX6_ok, nmX6, rfl, rfl, fun _ => rfl⟩
theorem fw_X7_113 : Cond.fieldLink RX7 113 (TX6 4).1 (TX6 4).2.1 (TX6 4).2.2.1 ∈ am_tbl := am_w 78 (by decide +kernel) rfl
theorem fl_X7_113 : am_fl RX7 113 6 4 := ⟨RX6, TX6, 11, rfl, by decide, inX6, fw_X7_113⟩
-- final field of another class: X7_113
theorem fw_X3_189 : Cond.fieldLink RX3 189 (TX6 4).1 (TX6 4).2.1 (TX6 4).2.2.1 ∈ am_tbl := am_w 79 (by decide +kernel) rfl
theorem fl_X3_189 : am_fl RX3 189 6 4 := ⟨RX6, TX6, 11, rfl, by decide, inX6, fw_X3_189⟩
-- final field of another class: X3_189
theorem fw_X8_60 : Cond.fieldLink RX8 60 (TX6 4).1 (TX6 4).2.1 (TX6 4).2.2.1 ∈ am_tbl := am_w 80 (by decide +kernel) rfl
theorem fl_X8_60 : am_fl RX8 60 6 4 := ⟨RX6, TX6, 11, rfl, by decide, inX6, fw_X8_60⟩
-- final field of another class: X8_60
theorem fw_X6_28 : Cond.fieldLink RX6 28 (TX6 5).1 (TX6 5).2.1 (TX6 5).2.2.1 ∈ am_tbl := am_w 81 (by decide +kernel) rfl
theorem fl_X6_28 : am_fl RX6 28 6 5 := ⟨RX6, TX6, 11, rfl, by decide, inX6, fw_X6_28⟩
theorem fp_X6_28 : am_fp RX6 28 6 5 (tyX6 5) true := ⟨RX6, TX6, 11, tyX6, rfl, by decide, inX6, fw_X6_28, tyX6_ok, nmX6, rfl, rfl, fun _ => rfl⟩
theorem fw_X8_114 : Cond.fieldLink RX8 114 (TX6 5).1 (TX6 5).2.1 (TX6 5).2.2.1 ∈ am_tbl := am_w 82 (by decide +kernel) rfl
theorem fl_X8_114 : am_fl RX8 114 6 5 := ⟨RX6, TX6, 11, rfl, by decide, inX6, fw_X8_114⟩
-- final field of another class: X8_114
theorem fw_X6_31 : Cond.fieldLink RX6 31 (TX6 6).1 (TX6 6).2.1 (TX6 6).2.2.1 ∈ am_tbl := am_w 83 (by decide +kernel) rfl
theorem fl_X6_31 : am_fl RX6 31 6 6 := ⟨RX6, TX6, 11, rfl, by decide, inX6, fw_X6_31⟩
theorem fp_X6_31 : am_fp RX6 31 6 6 (tyX6 6) true := ⟨RX6, TX6, 11, tyX6, rfl, by decide, inX6, fw_X6_31, tyX6_ok, nmX6, rfl, rfl, fun _ => rfl⟩
theorem fw_X8_140 : Cond.fieldLink RX8 140 (TX6 6).1 (TX6 6).2.1 (TX6 6).2.2.1 ∈ am_tbl := am_w 84 (by decide +kernel) rfl
theorem fl_X8_140 : am_fl RX8 140 6 6 := ⟨RX6, TX6, 11, rfl, by decide, inX6, fw_X8_140⟩
-- final field of another class: X8_140
theorem fw_X6_34 : Cond.fieldLink RX6 34 (TX6 7).1 (TX6 7).2.1 (TX6 7).2.2.1 ∈ am_tbl := am_w 85 (by decide +kernel) rfl
theorem fl_X6_34 : am_fl RX6 34 6 7 := ⟨RX6, TX6, 11, rfl, by decide, inX6, fw_X6_34⟩
theorem fp_X6_34 : am_fp RX6 34 6 7 (tyX6 7) true := ⟨RX6, TX6, 11, tyX6, rfl, by decide, inX6, fw_X6_34, tyX6_ok, nmX6, rfl, rfl, fun _ => rfl⟩
theorem fw_X8_137 : Cond.fieldLink RX8 137 (TX6 7).1 (TX6 7).2.1 (TX6 7).2.2.1 ∈ am_tbl := am_w 86 (by decide +kernel) rfl
theorem fl_X8_137 : am_fl RX8 137 6 7 := ⟨RX6, TX6, 11, rfl, by decide, inX6, fw_X8_137⟩
-- final field of another class: X8_137
theorem fw_X6_37 : Cond.fieldLink RX6 37 (TX6 8).1 (TX6 8).2.1 (TX6 8).2.2.1 ∈ am_tbl := am_w 87 (by decide +kernel) rfl
theorem fl_X6_37 : am_fl RX6 37 6 8 := ⟨RX6, TX6, 11, rfl, by decide, inX6, fw_X6_37⟩
theorem fp_X6_37 : am_fp RX6 37 6 8 (tyX6 8) true := ⟨RX6, TX6, 11, tyX6, rfl, by decide, inX6, fw_X6_37, tyX6_ok, nmX6, rfl, rfl, fun _ => rfl⟩
theorem fw_X8_146 : Cond.fieldLink RX8 146 (TX6 8).1 (TX6 8).2.1 (TX6 8).2.2.1 ∈ am_tbl := am_w 88 (by decide +kernel) rfl
theorem fl_X8_146 : am_fl RX8 146 6 8 := ⟨RX6, TX6, 11, rfl, by decide, inX6, fw_X8_146⟩
-- final field of another class: X8_146
theorem fw_X6_40 : Cond.fieldLink RX6 40 (TX6 9).1 (TX6 9).2.1 (TX6 9).2.2.1 ∈ am_tbl := am_w 89 (by decide +kernel) rfl
theorem fl_X6_40 : am_fl RX6 40 6 9 := ⟨RX6, TX6, 11, rfl, by decide, inX6, fw_X6_40⟩
theorem fp_X6_40 : am_fp RX6 40 6 9 (tyX6 9) true := ⟨RX6, TX6, 11, tyX6, rfl, by decide, inX6, fw_X6_40, tyX6_ok, nmX6, rfl, rfl, fun _ => rfl⟩
theorem fw_X6_43 : Cond.fieldLink RX6 43 (TX6 10).1 (TX6 10).2.1 (TX6 10).2.2.1 ∈ am_tbl := am_w 90 (by decide +kernel) rfl
theorem fl_X6_43 : am_fl RX6 43 6 10 := ⟨RX6, TX6, 11, rfl, by decide, inX6, fw_X6_43⟩
theorem fp_X6_43 : am_fp RX6 43 6 10 (tyX6 10) true := ⟨RX6, TX6, 11, tyX6, rfl, by decide, inX6, fw_X6_43, tyX6_ok, nmX6, rfl, rfl, fun _ => rfl⟩
theorem fw_X0_9 : Cond.fieldLink RX0 9 (TX0 0).1 (TX0 0).2.1 (TX0 0).2.2.1 ∈ am_tbl := am_w 114 (by decide +kernel) rfl
theorem fl_X0_9 : am_fl RX0 9 0 0 := ⟨RX0, TX0, 4, rfl, by decide, inX0, fw_X0_9⟩
theorem fp_X0_9 : am_fp RX0 9 0 0 (tyX0 0) false := ⟨RX0, TX0, 4, tyX0, rfl, by decide, inX0, fw_X0_9, tyX0_ok, nmX0, rfl, rfl, fun h => by cases h⟩
theorem fw_X9_53 : Cond.fieldLink RX9 53 (TX0 0).1 (TX0 0).2.1 (TX0 0).2.2.1 ∈ am_tbl := am_w 115 (by decide +kernel) rfl
theorem fl_X9_53 : am_fl RX9 53 0 0 := ⟨RX0, TX0, 4, rfl, by decide, inX0, fw_X9_53⟩
theorem fp_X9_53 : am_fp RX9 53 0 0 (tyX0 0) false := ⟨RX0, TX0, 4, tyX0, rfl, by decide, inX0, fw_X9_53, tyX0_ok, nmX0, rfl, rfl, fun h => by cases h⟩
theorem fw_X0_15 : Cond.fieldLink RX0 15 (TX0 1).1 (TX0 1).2.1 (TX0 1).2.2.1 ∈ am_tbl := am_w 116 (by decide +kernel) rfl
theorem fl_X0_15 : am_fl RX0 15 0 1 := ⟨RX0, TX0, 4, rfl, by decide, inX0, fw_X0_15⟩
theorem fp_X0_15 : am_fp RX0 15 0 1 (tyX0 1) false := ⟨RX0, TX0, 4, tyX0, rfl, by decide, inX0, fw_X0_15, tyX0_ok, nmX0, rfl, rfl, fun h => by cases h⟩
theorem fw_X9_101 : Cond.fieldLink RX9 101 (TX0 1).1 (TX0 1).2.1 (TX0 1).2.2.1 ∈ am_tbl := am_w 117 (by decide +kernel) rfl
theorem fl_X9_101 : am_fl RX9 101 0 1 := ⟨RX0, TX0, 4, rfl, by decide, inX0, fw_X9_101⟩
theorem fp_X9_101 : am_fp RX9 101 0 1 (tyX0 1) false := ⟨RX0, TX0, 4, tyX0, rfl, by decide, inX0, fw_X9_101, tyX0_ok, nmX0, rfl, rfl, fun h => by cases h⟩
theorem fw_X0_20 : Cond.fieldLink RX0 20 (TX0 2).1 (TX0 2).2.1 (TX0 2).2.2.1 ∈ am_tbl := am_w 118 (by decide +kernel) rfl
theorem fl_X0_20 : am_fl RX0 20 0 2 := ⟨RX0, TX0, 4, rfl, by decide, inX0, fw_X0_20⟩
theorem fp_X0_20 : am_fp RX0 20 0 2 (tyX0 2) true := ⟨RX0, TX0, 4, tyX0, rfl, by decide, inX0, fw_X0_20, tyX0_ok, nmX0, rfl, rfl, fun _ => rfl⟩
theorem fw_X9_56 : Cond.fieldLink RX9 56 (TX0 2).1 (TX0 2).2.1 (TX0 2).2.2.1 ∈ am_tbl := am_w 119 (by decide +kernel) rfl
theorem fl_X9_56 : am_fl RX9 56 0 2 := ⟨RX0, TX0, 4, rfl, by decide, inX0, fw_X9_56⟩
-- final field of another class: X9_56
theorem fw_X8_85 : Cond.fieldLink RX8 85 (TX0 2).1 (TX0 2).2.1 (TX0 2).2.2.1 ∈ am_tbl := am_w 120 (by decide +kernel) rfl
theorem fl_X8_85 : am_fl RX8 85 0 2 := ⟨RX0, TX0, 4, rfl, by decide, inX0, fw_X8_85⟩
-- final field of another class: X8_85
theorem fw_X0_26 : Cond.fieldLink RX0 26 (TX0 3).1 (TX0 3).2.1 (TX0 3).2.2.1 ∈ am_tbl := am_w 121 (by decide +kernel) rfl
theorem fl_X0_26 : am_fl RX0 26 0 3 := ⟨RX0, TX0, 4, rfl, by decide, inX0, fw_X0_26⟩
theorem fp_X0_26 : am_fp RX0 26 0 3 (tyX0 3) true := ⟨RX0, TX0, 4, tyX0, rfl, by decide, inX0, fw_X0_26, tyX0_ok, nmX0, rfl, rfl, fun _ => rfl⟩
theorem fw_X7_61 : Cond.fieldLink RX7 61 (TX0 3).1 (TX0 3).2.1 (TX0 3).2.2.1 ∈ am_tbl := am_w 122 (by decide +kernel) rfl
theorem fl_X7_61 : am_fl RX7 61 0 3 := ⟨RX0, TX0, 4, rfl, by decide, inX0, fw_X7_61⟩
-- final field of another class: X7_61
theorem fw_X3_141 : Cond.fieldLink RX3 141 (TX0 3).1 (TX0 3).2.1 (TX0 3).2.2.1 ∈ am_tbl := am_w 123 (by decide +kernel) rfl
theorem fl_X3_141 : am_fl RX3 141 0 3 := ⟨RX0, TX0, 4, rfl, by decide, inX0, fw_X3_141⟩
-- final field of another class: X3_141
theorem fw_X9_113 : Cond.fieldLink RX9 113 (TX0 3).1 (TX0 3).2.1 (TX0 3).2.2.1 ∈ am_tbl := am_w 124 (by decide +kernel) rfl
theorem fl_X9_113 : am_fl RX9 113 0 3 := ⟨RX0, TX0, 4, rfl, by decide, inX0, fw_X9_113⟩
-- final field of another class: X9_113
theorem fw_X8_49 : Cond.fieldLink RX8 49 (TX0 3).1 (TX0 3).2.1 (TX0 3).2.2.1 ∈ am_tbl := am_w 125 (by decide +kernel) rfl
theorem fl_X8_49 : am_fl RX8 49 0 3 := ⟨RX0, TX0, 4, rfl, by decide, inX0, fw_X8_49⟩
-- final field of another class: X8_49
theorem fw_X2_9 : Cond.fieldLink RX2 9 (TX2 0).1 (TX2 0).2.1 (TX2 0).2.2.1 ∈ am_tbl := am_w 141 (by decide +kernel) rfl
theorem fl_X2_9 : am_fl RX2 9 2 0 := ⟨RX2, TX2, 3, rfl, by decide, inX2, fw_X2_9⟩
theorem fp_X2_9 : am_fp RX2 9 2 0 (tyX2 0) true := ⟨RX2, TX2, 3, tyX2, rfl, by decide, inX2, fw_X2_9, tyX2_ok, nmX2, rfl, rfl, fun _ => rfl⟩
theorem fw_X2_15 : Cond.fieldLink RX2 15 (TX2 1).1 (TX2 1).2.1 (TX2 1).2.2.1 ∈ am_tbl := am_w 142 (by decide +kernel) rfl
theorem fl_X2_15 : am_fl RX2 15 2 1 := ⟨RX2, TX2, 3, rfl, by decide, inX2, fw_X2_15⟩
theorem fp_X2_15 : am_fp RX2 15 2 1 (tyX2 1) true := ⟨RX2, TX2, 3, tyX2, rfl, by decide, inX2, fw_X2_15, tyX2_ok, nmX2, rfl, rfl, fun _ => rfl⟩
theorem fw_X2_18 : Cond.fieldLink RX2 18 (TX2 2).1 (TX2 2).2.1 (TX2 2).2.2.1 ∈ am_tbl := am_w 143 (by decide +kernel) rfl
theorem fl_X2_18 : am_fl RX2 18 2 2 := ⟨RX2, TX2, 3, rfl, by decide, inX2, fw_X2_18⟩
theorem fp_X2_18 : am_fp RX2 18 2 2 (tyX2 2) false := ⟨RX2, TX2, 3, tyX2, rfl, by decide, inX2, fw_X2_18, tyX2_ok, nmX2, rfl, rfl, fun h => by cases h⟩
theorem fw_X5_9 : Cond.fieldLink RX5 9 (TX5 0).1 (TX5 0).2.1 (TX5 0).2.2.1 ∈ am_tbl := am_w 163 (by decide +kernel) rfl
theorem fl_X5_9 : am_fl RX5 9 5 0 := ⟨RX5, TX5, 4, rfl, by decide, inX5, fw_X5_9⟩
theorem fp_X5_9 : am_fp RX5 9 5 0 (tyX5 0) false := ⟨RX5, TX5, 4, tyX5, rfl, by decide, inX5, fw_X5_9, tyX5_ok, nmX5, rfl, rfl, fun h => by cases h⟩
theorem fw_X3_75 : Cond.fieldLink RX3 75 (TX5 0).1 (TX5 0).2.1 (TX5 0).2.2.1 ∈ am_tbl := am_w 164 (by decide +kernel) rfl
theorem fl_X3_75 : am_fl RX3 75 5 0 := ⟨RX5, TX5, 4, rfl, by decide, inX5, fw_X3_75⟩
theorem fp_X3_75 : am_fp RX3 75 5 0 (tyX5 0) false := ⟨RX5, TX5, 4, tyX5, rfl, by decide, inX5, fw_X3_75, tyX5_ok, nmX5, rfl, rfl, fun h => by cases h⟩
theorem fw_X9_190 : Cond.fieldLink RX9 190 (TX5 0).1 (TX5 0).2.1 (TX5 0).2.2.1 ∈ am_tbl := am_w 165 (by decide +kernel) rfl
theorem fl_X9_190 : am_fl RX9 190 5 0 := ⟨RX5, TX5, 4, rfl, by decide, inX5, fw_X9_190⟩
theorem fp_X9_190 : am_fp RX9 190 5 0 (tyX5 0) false := ⟨RX5, TX5, 4, tyX5, rfl, by decide, inX5, fw_X9_190, tyX5_ok, nmX5, rfl, rfl, fun h => by cases h⟩
theorem fw_X5_15 : Cond.fieldLink RX5 15 (TX5 1).1 (TX5 1).2.1 (TX5 1).2.2.1 ∈ am_tbl := am_w 166 (by decide +kernel) rfl
theorem fl_X5_15 : am_fl RX5 15 5 1 := ⟨RX5, TX5, 4, rfl, by decide, inX5, fw_X5_15⟩
theorem fp_X5_15 : am_fp RX5 15 5 1 (tyX5 1) false := ⟨RX5, TX5, 4, tyX5, rfl, by decide, inX5, fw_X5_15, tyX5_ok, nmX5, rfl, rfl, fun h => by cases h⟩
theorem fw_X3_134 : Cond.fieldLink RX3 134 (TX5 1).1 (TX5 1).2.1 (TX5 1).2.2.1 ∈ am_tbl := am_w 167 (by decide +kernel) rfl
theorem fl_X3_134 : am_fl RX3 134 5 1 := ⟨RX5, TX5, 4, rfl, by decide, inX5, fw_X3_134⟩
theorem fp_X3_134 : am_fp RX3 134 5 1 (tyX5 1) false := ⟨RX5, TX5, 4, tyX5, rfl, by decide, inX5, fw_X3_134, tyX5_ok, nmX5, rfl, rfl, fun h => by cases h⟩
theorem fw_X5_19 : Cond.fieldLink RX5 19 (TX5 2).1 (TX5 2).2.1 (TX5 2).2.2.1 ∈ am_tbl := am_w 168 (by decide +kernel) rfl
theorem fl_X5_19 : am_fl RX5 19 5 2 := ⟨RX5, TX5, 4, rfl, by decide, inX5, fw_X5_19⟩
theorem fp_X5_19 : am_fp RX5 19 5 2 (tyX5 2) false := ⟨RX5, TX5, 4, tyX5, rfl, by decide, inX5, fw_X5_19, tyX5_ok, nmX5, rfl, rfl, fun h => by cases h⟩
theorem fw_X3_202 : Cond.fieldLink RX3 202 (TX5 2).1 (TX5 2).2.1 (TX5 2).2.2.1 ∈ am_tbl := am_w 169 (by decide +kernel) rfl
theorem fl_X3_202 : am_fl RX3 202 5 2 := ⟨RX5, TX5, 4, rfl, by decide, inX5, fw_X3_202⟩
theorem fp_X3_202 : am_fp RX3 202 5 2 (tyX5 2) false := ⟨RX5, TX5, 4, tyX5, rfl, by decide, inX5, fw_X3_202, tyX5_ok, nmX5, rfl, rfl, fun h => by cases h⟩
theorem fw_X5_23 : Cond.fieldLink RX5 23 (TX5 3).1 (TX5 3).2.1 (TX5 3).2.2.1 ∈ am_tbl := am_w 170 (by decide +kernel) rfl
theorem fl_X5_23 : am_fl RX5 23 5 3 := ⟨RX5, TX5, 4, rfl, by decide, inX5, fw_X5_23⟩
theorem fp_X5_23 : am_fp RX5 23 5 3 (tyX5 3) false := ⟨RX5, TX5, 4, tyX5, rfl, by decide, inX5, fw_X5_23, tyX5_ok, nmX5, rfl, rfl, fun h => by cases h⟩
theorem fw_X8_11 : Cond.fieldLink RX8 11 (TX8 0).1 (TX8 0).2.1 (TX8 0).2.2.1 ∈ am_tbl := am_w 189 (by decide +kernel) rfl
theorem fl_X8_11 : am_fl RX8 11 8 0 := ⟨RX8, TX8, 6, rfl, by decide, inX8, fw_X8_11⟩
theorem fp_X8_11 : am_fp RX8 11 8 0 (tyX8 0) false := ⟨RX8, TX8, 6, tyX8, rfl, by decide, inX8, fw_X8_11, tyX8_ok, nmX8, rfl, rfl, fun h => by cases h⟩
theorem fw_X7_67 : Cond.fieldLink RX7 67 (TX8 0).1 (TX8 0).2.1 (TX8 0).2.2.1 ∈ am_tbl := am_w 190 (by decide +kernel) rfl
theorem fl_X7_67 : am_fl RX7 67 8 0 := ⟨RX8, TX8, 6, rfl, by decide, inX8, fw_X7_67⟩
theorem fp_X7_67 : am_fp RX7 67 8 0 (tyX8 0) false := ⟨RX8, TX8, 6, tyX8, rfl, by decide, inX8, fw_X7_67, tyX8_ok, nmX8, rfl, rfl, fun h => by cases h⟩
theorem fw_X3_147 : Cond.fieldLink RX3 147 (TX8 0).1 (TX8 0).2.1 (TX8 0).2.2.1 ∈ am_tbl := am_w 191 (by decide +kernel) rfl
theorem fl_X3_147 : am_fl RX3 147 8 0 := ⟨RX8, TX8, 6, rfl, by decide, inX8, fw_X3_147⟩
theorem fp_X3_147 : am_fp RX3 147 8 0 (tyX8 0) false := ⟨RX8, TX8, 6, tyX8, rfl, by decide, inX8, fw_X3_147, tyX8_ok, nmX8, rfl, rfl, fun h => by cases h⟩
theorem fw_X8_15 : Cond.fieldLink RX8 15 (TX8 1).1 (TX8 1).2.1 (TX8 1).2.2.1 ∈ am_tbl := am_w 192 (by decide +kernel) rfl
theorem fl_X8_15 : am_fl RX8 15 8 1 := ⟨RX8, TX8, 6, rfl, by decide, inX8, fw_X8_15⟩
theorem fp_X8_15 : am_fp RX8 15 8 1 (tyX8 1) false := ⟨RX8, TX8, 6, tyX8, rfl, by decide, inX8, fw_X8_15, tyX8_ok, nmX8, rfl, rfl, fun h => by cases h⟩
theorem fw_X7_70 : Cond.fieldLink RX7 70 (TX8 1).1 (TX8 1).2.1 (TX8 1).2.2.1 ∈ am_tbl := am_w 193 (by decide +kernel) rfl
theorem fl_X7_70 : am_fl RX7 70 8 1 := ⟨RX8, TX8, 6, rfl, by decide, inX8, fw_X7_70⟩
theorem fp_X7_70 : am_fp RX7 70 8 1 (tyX8 1) false := ⟨RX8, TX8, 6, tyX8, rfl, by decide, inX8, fw_X7_70, tyX8_ok, nmX8, rfl, rfl, fun h => by cases h⟩
theorem fw_X3_148 : Cond.fieldLink RX3 148 (TX8 1).1 (TX8 1).2.1 (TX8 1).2.2.1 ∈ am_tbl := am_w 194 (by decide +kernel) rfl
theorem fl_X3_148 : am_fl RX3 148 8 1 := ⟨RX8, TX8, 6, rfl, by decide, inX8, fw_X3_148⟩
theorem fp_X3_148 : am_fp RX3 148 8 1 (tyX8 1) false := ⟨RX8, TX8, 6, tyX8, rfl, by decide, inX8, fw_X3_148, tyX8_ok, nmX8, rfl, rfl, fun h => by cases h⟩
theorem fw_X8_18 : Cond.fieldLink RX8 18 (TX8 2).1 (TX8 2).2.1 (TX8 2).2.2.1 ∈ am_tbl := am_w 195 (by decide +kernel) rfl
theorem fl_X8_18 : am_fl RX8 18 8 2 := ⟨RX8, TX8, 6, rfl, by decide, inX8, fw_X8_18⟩
theorem fp_X8_18 : am_fp RX8 18 8 2 (tyX8 2) false := ⟨RX8, TX8, 6, tyX8, rfl, by decide, inX8, fw_X8_18, tyX8_ok, nmX8, rfl, rfl, fun h => by cases h⟩
theorem fw_X8_21 : Cond.fieldLink RX8 21 (TX8 3).1 (TX8 3).2.1 (TX8 3).2.2.1 ∈ am_tbl := am_w 196 (by decide +kernel) rfl
theorem fl_X8_21 : am_fl RX8 21 8 3 := ⟨RX8, TX8, 6, rfl, by decide, inX8, fw_X8_21⟩
theorem fp_X8_21 : am_fp RX8 21 8 3 (tyX8 3) true := ⟨RX8, TX8, 6, tyX8, rfl, by decide, inX8, fw_X8_21, tyX8_ok, nmX8, rfl, rfl, fun _ => rfl⟩
theorem fw_X8_25 : Cond.fieldLink RX8 25 (TX8 4).1 (TX8 4).2.1 (TX8 4).2.2.1 ∈ am_tbl := am_w 197 (by decide +kernel) rfl
theorem fl_X8_25 : am_fl RX8 25 8 4 := ⟨RX8, TX8, 6, rfl, by decide, inX8, fw_X8_25⟩
theorem fp_X8_25 : am_fp RX8 25 8 4 (tyX8 4) true := ⟨RX8, TX8, 6, tyX8, rfl, by decide, inX8, fw_X8_25, tyX8_ok, nmX8, rfl, rfl, fun _ => rfl⟩
theorem fw_X8_28 : Cond.fieldLink RX8 28 (TX8 5).1 (TX8 5).2.1 (TX8 5).2.2.1 ∈ am_tbl := am_w 198 (by decide +kernel) rfl
theorem fl_X8_28 : am_fl RX8 28 8 5 := ⟨RX8, TX8, 6, rfl, by decide, inX8, fw_X8_28⟩
theorem fp_X8_28 : am_fp RX8 28 8 5 (tyX8 5) true := ⟨RX8, TX8, 6, tyX8, rfl, by decide, inX8, fw_X8_28, tyX8_ok, nmX8, rfl, rfl, fun _ => rfl⟩
theorem fw_X1_9 : Cond.fieldLink RX1 9 (TX1 0).1 (TX1 0).2.1 (TX1 0).2.2.1 ∈ am_tbl := am_w 217 (by decide +kernel) rfl
theorem fl_X1_9 : am_fl RX1 9 1 0 := ⟨RX1, TX1, 7, rfl, by decide, inX1, fw_X1_9⟩
theorem fp_X1_9 : am_fp RX1 9 1 0 (tyX1 0) false := ⟨RX1, TX1, 7, tyX1, rfl, by decide, inX1, fw_X1_9, tyX1_ok, nmX1, rfl, rfl, fun h => by cases h⟩
theorem fw_X3_118 : Cond.fieldLink RX3 118 (TX1 0).1 (TX1 0).2.1 (TX1 0).2.2.1 ∈ am_tbl := am_w 218 (by decide +kernel) rfl
theorem fl_X3_118 : am_fl RX3 118 1 0 := ⟨RX1, TX1, 7, rfl, by decide, inX1, fw_X3_118⟩
theorem fp_X3_118 : am_fp RX3 118 1 0 (tyX1 0) false := ⟨RX1, TX1, 7, tyX1, rfl, by decide, inX1, fw_X3_118, tyX1_ok, nmX1, rfl, rfl, fun h => by cases h⟩
theorem fw_X1_15 : Cond.fieldLink RX1 15 (TX1 1).1 (TX1 1).2.1 (TX1 1).2.2.1 ∈ am_tbl := am_w 219 (by decide +kernel) rfl
theorem fl_X1_15 : am_fl RX1 15 1 1 := ⟨RX1, TX1, 7, rfl, by decide, inX1, fw_X1_15⟩
theorem fp_X1_15 : am_fp RX1 15 1 1 (tyX1 1) false := ⟨RX1, TX1, 7, tyX1, rfl, by decide, inX1, fw_X1_15, tyX1_ok, nmX1, rfl, rfl, fun h => by cases h⟩
theorem fw_X3_121 : Cond.fieldLink RX3 121 (TX1 1).1 (TX1 1).2.1 (TX1 1).2.2.1 ∈ am_tbl := am_w 220 (by decide +kernel) rfl
theorem fl_X3_121 : am_fl RX3 121 1 1 := ⟨RX1, TX1, 7, rfl, by decide, inX1, fw_X3_121⟩
theorem fp_X3_121 : am_fp RX3 121 1 1 (tyX1 1) false := ⟨RX1, TX1, 7, tyX1, rfl, by decide, inX1, fw_X3_121, tyX1_ok, nmX1, rfl, rfl, fun h => by cases h⟩
theorem fw_X1_18 : Cond.fieldLink RX1 18 (TX1 2).1 (TX1 2).2.1 (TX1 2).2.2.1 ∈ am_tbl := am_w 221 (by decide +kernel) rfl
theorem fl_X1_18 : am_fl RX1 18 1 2 := ⟨RX1, TX1, 7, rfl, by decide, inX1, fw_X1_18⟩
theorem fp_X1_18 : am_fp RX1 18 1 2 (tyX1 2) false := ⟨RX1, TX1, 7, tyX1, rfl, by decide, inX1, fw_X1_18, tyX1_ok, nmX1, rfl, rfl, fun h => by cases h⟩
theorem fw_X3_124 : Cond.fieldLink RX3 124 (TX1 2).1 (TX1 2).2.1 (TX1 2).2.2.1 ∈ am_tbl := am_w 222 (by decide +kernel) rfl
theorem fl_X3_124 : am_fl RX3 124 1 2 := ⟨RX1, TX1, 7, rfl, by decide, inX1, fw_X3_124⟩
theorem fp_X3_124 : am_fp RX3 124 1 2 (tyX1 2) false := ⟨RX1, TX1, 7, tyX1, rfl, by decide, inX1, fw_X3_124, tyX1_ok, nmX1, rfl, rfl, fun h => by cases h⟩
theorem fw_X1_21 : Cond.fieldLink RX1 21 (TX1 3).1 (TX1 3).2.1 (TX1 3).2.2.1 ∈ am_tbl := am_w 223 (by decide +kernel) rfl
theorem fl_X1_21 : am_fl RX1 21 1 3 := ⟨RX1, TX1, 7, rfl, by decide, inX1, fw_X1_21⟩
theorem fp_X1_21 : am_fp RX1 21 1 3 (tyX1 3) false := ⟨RX1, TX1, 7, tyX1, rfl, by decide, inX1, fw_X1_21, tyX1_ok, nmX1, rfl, rfl, fun h => by cases h⟩
theorem fw_X3_127 : Cond.fieldLink RX3 127 (TX1 3).1 (TX1 3).2.1 (TX1 3).2.2.1 ∈ am_tbl := am_w 224 (by decide +kernel) rfl
theorem fl_X3_127 : am_fl RX3 127 1 3 := ⟨RX1, TX1, 7, rfl, by decide, inX1, fw_X3_127⟩
theorem fp_X3_127 : am_fp RX3 127 1 3 (tyX1 3) false := ⟨RX1, TX1, 7, tyX1, rfl, by decide, inX1, fw_X3_127, tyX1_ok, nmX1, rfl, rfl, fun h => by cases h⟩
theorem fw_X1_24 : Cond.fieldLink RX1 24 (TX1 4).1 (TX1 4).2.1 (TX1 4).2.2.1 ∈ am_tbl := am_w 225 (by decide +kernel) rfl
theorem fl_X1_24 : am_fl RX1 24 1 4 := ⟨RX1, TX1, 7, rfl, by decide, inX1, fw_X1_24⟩
theorem fp_X1_24 : am_fp RX1 24 1 4 (tyX1 4) false := ⟨RX1, TX1, 7, tyX1, rfl, by decide, inX1, fw_X1_24, tyX1_ok, nmX1, rfl, rfl, fun h => by cases h⟩
theorem fw_X3_208 : Cond.fieldLink RX3 208 (TX1 4).1 (TX1 4).2.1 (TX1 4).2.2.1 ∈ am_tbl := am_w 226 (by decide +kernel) rfl
theorem fl_X3_208 : am_fl RX3 208 1 4 := ⟨RX1, TX1, 7, rfl, by decide, inX1, fw_X3_208⟩
theorem fp_X3_208 : am_fp RX3 208 1 4 (tyX1 4) false := ⟨RX1, TX1, 7, tyX1, rfl, by decide, inX1, fw_X3_208, tyX1_ok, nmX1, rfl, rfl, fun h => by cases h⟩
theorem fw_X1_27 : Cond.fieldLink RX1 27 (TX1 5).1 (TX1 5).2.1 (TX1 5).2.2.1 ∈ am_tbl := am_w 227 (by decide +kernel) rfl
theorem fl_X1_27 : am_fl RX1 27 1 5 := ⟨RX1, TX1, 7, rfl, by decide, inX1, fw_X1_27⟩
theorem fp_X1_27 : am_fp RX1 27 1 5 (tyX1 5) false := ⟨RX1, TX1, 7, tyX1, rfl, by decide, inX1, fw_X1_27, tyX1_ok, nmX1, rfl, rfl, fun h => by cases h⟩
theorem fw_X3_113 : Cond.fieldLink RX3 113 (TX1 5).1 (TX1 5).2.1 (TX1 5).2.2.1 ∈ am_tbl := am_w 228 (by decide +kernel) rfl
theorem fl_X3_113 : am_fl RX3 113 1 5 := ⟨RX1, TX1, 7, rfl, by decide, inX1, fw_X3_113⟩
theorem fp_X3_113 : am_fp RX3 113 1 5 (tyX1 5) false := ⟨RX1, TX1, 7, tyX1, rfl, by decide, inX1, fw_X3_113, tyX1_ok, nmX1, rfl, rfl, fun h => by cases h⟩
theorem fw_X1_30 : Cond.fieldLink RX1 30 (TX1 6).1 (TX1 6).2.1 (TX1 6).2.2.1 ∈ am_tbl := am_w 229 (by decide +kernel) rfl
theorem fl_X1_30 : am_fl RX1 30 1 6 := ⟨RX1, TX1, 7, rfl, by decide, inX1, fw_X1_30⟩
theorem fp_X1_30 : am_fp RX1 30 1 6 (tyX1 6) false := ⟨RX1, TX1, 7, tyX1, rfl, by decide, inX1, fw_X1_30, tyX1_ok, nmX1, rfl, rfl, fun h => by cases h⟩
theorem fw_X3_205 : Cond.fieldLink RX3 205 (TX1 6).1 (TX1 6).2.1 (TX1 6).2.2.1 ∈ am_tbl := am_w 230 (by decide +kernel) rfl
theorem fl_X3_205 : am_fl RX3 205 1 6 := ⟨RX1, TX1, 7, rfl, by decide, inX1, fw_X3_205⟩
theorem fp_X3_205 : am_fp RX3 205 1 6 (tyX1 6) false := ⟨RX1, TX1, 7, tyX1, rfl, by decide, inX1, fw_X3_205, tyX1_ok, nmX1, rfl, rfl, fun h => by cases h⟩
theorem fw_X3_9 : Cond.fieldLink RX3 9 (TX3 0).1 (TX3 0).2.1 (TX3 0).2.2.1 ∈ am_tbl := am_w 249 (by decide +kernel) rfl
theorem fl_X3_9 : am_fl RX3 9 3 0 := ⟨RX3, TX3, 10, rfl, by decide, inX3, fw_X3_9⟩
theorem fp_X3_9 : am_fp RX3 9 3 0 (tyX3 0) false := ⟨RX3, TX3, 10, tyX3, rfl, by decide, inX3, fw_X3_9, tyX3_ok, nmX3, rfl, rfl, fun h => by cases h⟩
theorem fw_X9_153 : Cond.fieldLink RX9 153 (TX3 0).1 (TX3 0).2.1 (TX3 0).2.2.1 ∈ am_tbl := am_w 250 (by decide +kernel) rfl
theorem fl_X9_153 : am_fl RX9 153 3 0 := ⟨RX3, TX3, 10, rfl, by decide, inX3, fw_X9_153⟩
theorem fp_X9_153 : am_fp RX9 153 3 0 (tyX3 0) false := ⟨RX3, TX3, 10, tyX3, rfl, by decide, inX3, fw_X9_153, tyX3_ok, nmX3, rfl, rfl, fun h => by cases h⟩
theorem fw_X3_15 : Cond.fieldLink RX3 15 (TX3 1).1 (TX3 1).2.1 (TX3 1).2.2.1 ∈ am_tbl := am_w 251 (by decide +kernel) rfl
theorem fl_X3_15 : am_fl RX3 15 3 1 := ⟨RX3, TX3, 10, rfl, by decide, inX3, fw_X3_15⟩
theorem fp_X3_15 : am_fp RX3 15 3 1 (tyX3 1) false := ⟨RX3, TX3, 10, tyX3, rfl, by decide, inX3, fw_X3_15, tyX3_ok, nmX3, rfl, rfl, fun h => by cases h⟩
theorem fw_X9_183 : Cond.fieldLink RX9 183 (TX3 1).1 (TX3 1).2.1 (TX3 1).2.2.1 ∈ am_tbl := am_w 252 (by decide +kernel) rfl
theorem fl_X9_183 : am_fl RX9 183 3 1 := ⟨RX3, TX3, 10, rfl, by decide, inX3, fw_X9_183⟩
theorem fp_X9_183 : am_fp RX9 183 3 1 (tyX3 1) false := ⟨RX3, TX3, 10, tyX3, rfl, by decide, inX3, fw_X9_183, tyX3_ok, nmX3, rfl, rfl, fun h => by cases h⟩
theorem fw_X3_19 : Cond.fieldLink RX3 19 (TX3 2).1 (TX3 2).2.1 (TX3 2).2.2.1 ∈ am_tbl := am_w 253 (by decide +kernel) rfl
theorem fl_X3_19 : am_fl RX3 19 3 2 := ⟨RX3, TX3, 10, rfl, by decide, inX3, fw_X3_19⟩
theorem fp_X3_19 : am_fp RX3 19 3 2 (tyX3 2) false := ⟨RX3, TX3, 10, tyX3, rfl, by decide, inX3, fw_X3_19, tyX3_ok, nmX3, rfl, rfl, fun h => by cases h⟩
theorem fw_X9_156 : Cond.fieldLink RX9 156 (TX3 2).1 (TX3 2).2.1 (TX3 2).2.2.1 ∈ am_tbl := am_w 254 (by decide +kernel) rfl
theorem fl_X9_156 : am_fl RX9 156 3 2 := ⟨RX3, TX3, 10, rfl, by decide, inX3, fw_X9_156⟩
theorem fp_X9_156 : am_fp RX9 156 3 2 (tyX3 2) false := ⟨RX3, TX3, 10, tyX3, rfl, by decide, inX3, fw_X9_156, tyX3_ok, nmX3, rfl, rfl, fun h => by cases h⟩
theorem fw_X3_25 : Cond.fieldLink RX3 25 (TX3 3).1 (TX3 3).2.1 (TX3 3).2.2.1 ∈ am_tbl := am_w 255 (by decide +kernel) rfl
theorem fl_X3_25 : am_fl RX3 25 3 3 := ⟨RX3, TX3, 10, rfl, by decide, inX3, fw_X3_25⟩
theorem fp_X3_25 : am_fp RX3 25 3 3 (tyX3 3) true := ⟨RX3, TX3, 10, tyX3, rfl, by decide, inX3, fw_X3_25, tyX3_ok, nmX3, rfl, rfl, fun _ => rfl⟩
theorem fw_X9_186 : Cond.fieldLink RX9 186 (TX3 3).1 (TX3 3).2.1 (TX3 3).2.2.1 ∈ am_tbl := am_w 256 (by decide +kernel) rfl
theorem fl_X9_186 : am_fl RX9 186 3 3 := ⟨RX3, TX3, 10, rfl, by decide, inX3, fw_X9_186⟩
-- final field of another class: X9_186
theorem fw_X3_31 : Cond.fieldLink RX3 31 (TX3 4).1 (TX3 4).2.1 (TX3 4).2.2.1 ∈ am_tbl := am_w 257 (by decide +kernel) rfl
theorem fl_X3_31 : am_fl RX3 31 3 4 := ⟨RX3, TX3, 10, rfl, by decide, inX3, fw_X3_31⟩
theorem fp_X3_31 : am_fp RX3 31 3 4 (tyX3 4) true := ⟨RX3, TX3, 10, tyX3, rfl, by decide, inX3, fw_X3_31, tyX3_ok, nmX3, rfl, rfl, fun _ => rfl⟩
theorem fw_X3_35 : Cond.fieldLink RX3 35 (TX3 5).1 (TX3 5).2.1 (TX3 5).2.2.1 ∈ am_tbl := am_w 258 (by decide +kernel) rfl
theorem fl_X3_35 : am_fl RX3 35 3 5 := ⟨RX3, TX3, 10, rfl, by decide, inX3, fw_X3_35⟩
theorem fp_X3_35 : am_fp RX3 35 3 5 (tyX3 5) true := ⟨RX3, TX3, 10, tyX3, rfl, by decide, inX3, fw_X3_35, tyX3_ok, nmX3, rfl, rfl, fun _ => rfl⟩
theorem fw_X3_39 : Cond.fieldLink RX3 39 (TX3 6).1 (TX3 6).2.1 (TX3 6).2.2.1 ∈ am_tbl := am_w 259 (by decide +kernel) rfl
theorem fl_X3_39 : am_fl RX3 39 3 6 := ⟨RX3, TX3, 10, rfl, by decide, inX3, fw_X3_39⟩
theorem fp_X3_39 : am_fp RX3 39 3 6 (tyX3 6) true := ⟨RX3, TX3, 10, tyX3, rfl, by decide, inX3, fw_X3_39, tyX3_ok, nmX3, rfl, rfl, fun _ => rfl⟩
theorem fw_X3_42 : Cond.fieldLink RX3 42 (TX3 7).1 (TX3 7).2.1 (TX3 7).2.2.1 ∈ am_tbl := am_w 260 (by decide +kernel) rfl
theorem fl_X3_42 : am_fl RX3 42 3 7 := ⟨RX3, TX3, 10, rfl, by decide, inX3, fw_X3_42⟩
theorem fp_X3_42 : am_fp RX3 42 3 7 (tyX3 7) true := ⟨RX3, TX3, 10, tyX3, rfl, by decide, inX3, fw_X3_42, tyX3_ok, nmX3, rfl, rfl, fun _ => rfl⟩
theorem fw_X3_45 : Cond.fieldLink RX3 45 (TX3 8).1 (TX3 8).2.1 (TX3 8).2.2.1 ∈ am_tbl := am_w 261 (by decide +kernel) rfl
theorem fl_X3_45 : am_fl RX3 45 3 8 := ⟨RX3, TX3, 10, rfl, by decide, inX3, fw_X3_45⟩
theorem fp_X3_45 : am_fp RX3 45 3 8 (tyX3 8) false := ⟨RX3, TX3, 10, tyX3, rfl, by decide, inX3, fw_X3_45, tyX3_ok, nmX3, rfl, rfl, fun h => by cases h⟩
theorem fw_X3_51 : Cond.fieldLink RX3 51 (TX3 9).1 (TX3 9).2.1 (TX3 9).2.2.1 ∈ am_tbl := am_w 262 (by decide +kernel) rfl
theorem fl_X3_51 : am_fl RX3 51 3 9 := ⟨RX3, TX3, 10, rfl, by decide, inX3, fw_X3_51⟩
theorem fp_X3_51 : am_fp RX3 51 3 9 (tyX3 9) true := ⟨RX3, TX3, 10, tyX3, rfl, by decide, inX3, fw_X3_51, tyX3_ok, nmX3, rfl, rfl, fun _ => rfl⟩
theorem fw_X7_9 : Cond.fieldLink RX7 9 (TX7 0).1 (TX7 0).2.1 (TX7 0).2.2.1 ∈ am_tbl := am_w 293 (by decide +kernel) rfl
theorem fl_X7_9 : am_fl RX7 9 7 0 := ⟨RX7, TX7, 9, rfl, by decide, inX7, fw_X7_9⟩
theorem fp_X7_9 : am_fp RX7 9 7 0 (tyX7 0) false := ⟨RX7, TX7, 9, tyX7, rfl, by decide, inX7, fw_X7_9, tyX7_ok, nmX7, rfl, rfl, fun h => by cases h⟩
theorem fw_X9_199 : Cond.fieldLink RX9 199 (TX7 0).1 (TX7 0).2.1 (TX7 0).2.2.1 ∈ am_tbl := am_w 294 (by decide +kernel) rfl
theorem fl_X9_199 : am_fl RX9 199 7 0 := ⟨RX7, TX7, 9, rfl, by decide, inX7, fw_X9_199⟩
theorem fp_X9_199 : am_fp RX9 199 7 0 (tyX7 0) false := ⟨RX7, TX7, 9, tyX7, rfl, by decide, inX7, fw_X9_199, tyX7_ok, nmX7, rfl, rfl, fun h => by cases h⟩
theorem fw_X7_15 : Cond.fieldLink RX7 15 (TX7 1).1 (TX7 1).2.1 (TX7 1).2.2.1 ∈ am_tbl := am_w 295 (by decide +kernel) rfl
theorem fl_X7_15 : am_fl RX7 15 7 1 := ⟨RX7, TX7, 9, rfl, by decide, inX7, fw_X7_15⟩
theorem fp_X7_15 : am_fp RX7 15 7 1 (tyX7 1) false := ⟨RX7, TX7, 9, tyX7, rfl, by decide, inX7, fw_X7_15, tyX7_ok, nmX7, rfl, rfl, fun h => by cases h⟩
theorem fw_X9_202 : Cond.fieldLink RX9 202 (TX7 1).1 (TX7 1).2.1 (TX7 1).2.2.1 ∈ am_tbl := am_w 296 (by decide +kernel) rfl
theorem fl_X9_202 : am_fl RX9 202 7 1 := ⟨RX7, TX7, 9, rfl, by decide, inX7, fw_X9_202⟩
theorem fp_X9_202 : am_fp RX9 202 7 1 (tyX7 1) false := ⟨RX7, TX7, 9, tyX7, rfl, by decide, inX7, fw_X9_202, tyX7_ok, nmX7, rfl, rfl, fun h => by cases h⟩
theorem fw_X7_18 : Cond.fieldLink RX7 18 (TX7 2).1 (TX7 2).2.1 (TX7 2).2.2.1 ∈ am_tbl := am_w 297 (by decide +kernel) rfl
theorem fl_X7_18 : am_fl RX7 18 7 2 := ⟨RX7, TX7, 9, rfl, by decide, inX7, fw_X7_18⟩
theorem fp_X7_18 : am_fp RX7 18 7 2 (tyX7 2) false := ⟨RX7, TX7, 9, tyX7, rfl, by decide, inX7, fw_X7_18, tyX7_ok, nmX7, rfl, rfl, fun h => by cases h⟩
theorem fw_X9_205 : Cond.fieldLink RX9 205 (TX7 2).1 (TX7 2).2.1 (TX7 2).2.2.1 ∈ am_tbl := am_w 298 (by decide +kernel) rfl
theorem fl_X9_205 : am_fl RX9 205 7 2 := ⟨RX7, TX7, 9, rfl, by decide, inX7, fw_X9_205⟩
theorem fp_X9_205 : am_fp RX9 205 7 2 (tyX7 2) false := ⟨RX7, TX7, 9, tyX7, rfl, by decide, inX7, fw_X9_205, tyX7_ok, nmX7, rfl, rfl, fun h => by cases h⟩
theorem fw_X7_21 : Cond.fieldLink RX7 21 (TX7 3).1 (TX7 3).2.1 (TX7 3).2.2.1 ∈ am_tbl := am_w 299 (by decide +kernel) rfl
theorem fl_X7_21 : am_fl RX7 21 7 3 := ⟨RX7, TX7, 9, rfl, by decide, inX7, fw_X7_21⟩
theorem fp_X7_21 : am_fp RX7 21 7 3 (tyX7 3) false := ⟨RX7, TX7, 9, tyX7, rfl, by decide, inX7, fw_X7_21, tyX7_ok, nmX7, rfl, rfl, fun h => by cases h⟩
theorem fw_X9_208 : Cond.fieldLink RX9 208 (TX7 3).1 (TX7 3).2.1 (TX7 3).2.2.1 ∈ am_tbl := am_w 300 (by decide +kernel) rfl
theorem fl_X9_208 : am_fl RX9 208 7 3 := ⟨RX7, TX7, 9, rfl, by decide, inX7, fw_X9_208⟩
theorem fp_X9_208 : am_fp RX9 208 7 3 (tyX7 3) false := ⟨RX7, TX7, 9, tyX7, rfl, by decide, inX7, fw_X9_208, tyX7_ok, nmX7, rfl, rfl, fun h => by cases h⟩
theorem fw_X7_24 : Cond.fieldLink RX7 24 (TX7 4).1 (TX7 4).2.1 (TX7 4).2.2.1 ∈ am_tbl := am_w 301 (by decide +kernel) rfl
theorem fl_X7_24 : am_fl RX7 24 7 4 := ⟨RX7, TX7, 9, rfl, by decide, inX7, fw_X7_24⟩
theorem fp_X7_24 : am_fp RX7 24 7 4 (tyX7 4) false := ⟨RX7, TX7, 9, tyX7, rfl, by decide, inX7, fw_X7_24, tyX7_ok, nmX7, rfl, rfl, fun h => by cases h⟩
theorem fw_X9_211 : Cond.fieldLink RX9 211 (TX7 4).1 (TX7 4).2.1 (TX7 4).2.2.1 ∈ am_tbl := am_w 302 (by decide +kernel) rfl
theorem fl_X9_211 : am_fl RX9 211 7 4 := ⟨RX7, TX7, 9, rfl, by decide, inX7, fw_X9_211⟩
theorem fp_X9_211 : am_fp RX9 211 7 4 (tyX7 4) false := ⟨RX7, TX7, 9, tyX7, rfl, by decide, inX7, fw_X9_211, tyX7_ok, nmX7, rfl, rfl, fun h => by cases h⟩
theorem fw_X7_27 : Cond.fieldLink RX7 27 (TX7 5).1 (TX7 5).2.1 (TX7 5).2.2.1 ∈ am_tbl := am_w 303 (by decide +kernel) rfl
theorem fl_X7_27 : am_fl RX7 27 7 5 := ⟨RX7, TX7, 9, rfl, by decide, inX7, fw_X7_27⟩
theorem fp_X7_27 : am_fp RX7 27 7 5 (tyX7 5) false := ⟨RX7, TX7, 9, tyX7, rfl, by decide, inX7, fw_X7_27, tyX7_ok, nmX7, rfl, rfl, fun h => by cases h⟩
theorem fw_X7_30 : Cond.fieldLink RX7 30 (TX7 6).1 (TX7 6).2.1 (TX7 6).2.2.1 ∈ am_tbl := am_w 304 (by decide +kernel) rfl
theorem fl_X7_30 : am_fl RX7 30 7 6 := ⟨RX7, TX7, 9, rfl, by decide, inX7, fw_X7_30⟩
theorem fp_X7_30 : am_fp RX7 30 7 6 (tyX7 6) false := ⟨RX7, TX7, 9, tyX7, rfl, by decide, inX7, fw_X7_30, tyX7_ok, nmX7, rfl, rfl, fun h => by cases h⟩
theorem fw_X7_34 : Cond.fieldLink RX7 34 (TX7 7).1 (TX7 7).2.1 (TX7 7).2.2.1 ∈ am_tbl := am_w 305 (by decide +kernel) rfl
theorem fl_X7_34 : am_fl RX7 34 7 7 := ⟨RX7, TX7, 9, rfl, by decide, inX7, fw_X7_34⟩
theorem fp_X7_34 : am_fp RX7 34 7 7 (tyX7 7) false := ⟨RX7, TX7, 9, tyX7, rfl, by decide, inX7, fw_X7_34, tyX7_ok, nmX7, rfl, rfl, fun h => by cases h⟩
theorem fw_X7_39 : Cond.fieldLink RX7 39 (TX7 8).1 (TX7 8).2.1 (TX7 8).2.2.1 ∈ am_tbl := am_w 306 (by decide +kernel) rfl
theorem fl_X7_39 : am_fl RX7 39 7 8 := ⟨RX7, TX7, 9, rfl, by decide, inX7, fw_X7_39⟩
theorem fp_X7_39 : am_fp RX7 39 7 8 (tyX7 8) true := ⟨RX7, TX7, 9, tyX7, rfl, by decide, inX7, fw_X7_39, tyX7_ok, nmX7, rfl, rfl, fun _ => rfl⟩
theorem fw_X9_10 : Cond.fieldLink RX9 10 (TX9 0).1 (TX9 0).2.1 (TX9 0).2.2.1 ∈ am_tbl := am_w 326 (by decide +kernel) rfl
theorem fl_X9_10 : am_fl RX9 10 9 0 := ⟨RX9, TX9, 7, rfl, by decide, inX9, fw_X9_10⟩
theorem fp_X9_10 : am_fp RX9 10 9 0 (tyX9 0) true := ⟨RX9, TX9, 7, tyX9, rfl, by decide, inX9, fw_X9_10, tyX9_ok, nmX9, rfl, rfl, fun _ => rfl⟩
theorem fw_X9_19 : Cond.fieldLink RX9 19 (TX9 1).1 (TX9 1).2.1 (TX9 1).2.2.1 ∈ am_tbl := am_w 327 (by decide +kernel) rfl
theorem fl_X9_19 : am_fl RX9 19 9 1 := ⟨RX9, TX9, 7, rfl, by decide, inX9, fw_X9_19⟩
theorem fp_X9_19 : am_fp RX9 19 9 1 (tyX9 1) true := ⟨RX9, TX9, 7, tyX9, rfl, by decide, inX9, fw_X9_19, tyX9_ok, nmX9, rfl, rfl, fun _ => rfl⟩
theorem fw_X9_26 : Cond.fieldLink RX9 26 (TX9 2).1 (TX9 2).2.1 (TX9 2).2.2.1 ∈ am_tbl := am_w 328 (by decide +kernel) rfl
theorem fl_X9_26 : am_fl RX9 26 9 2 := ⟨RX9, TX9, 7, rfl, by decide, inX9, fw_X9_26⟩
theorem fp_X9_26 : am_fp RX9 26 9 2 (tyX9 2) true := ⟨RX9, TX9, 7, tyX9, rfl, by decide, inX9, fw_X9_26, tyX9_ok, nmX9, rfl, rfl, fun _ => rfl⟩
theorem fw_X9_33 : Cond.fieldLink RX9 33 (TX9 3).1 (TX9 3).2.1 (TX9 3).2.2.1 ∈ am_tbl := am_w 329 (by decide +kernel) rfl
theorem fl_X9_33 : am_fl RX9 33 9 3 := ⟨RX9, TX9, 7, rfl, by decide, inX9, fw_X9_33⟩
theorem fp_X9_33 : am_fp RX9 33 9 3 (tyX9 3) true := ⟨RX9, TX9, 7, tyX9, rfl, by decide, inX9, fw_X9_33, tyX9_ok, nmX9, rfl, rfl, fun _ => rfl⟩
theorem fw_X9_37 : Cond.fieldLink RX9 37 (TX9 4).1 (TX9 4).2.1 (TX9 4).2.2.1 ∈ am_tbl := am_w 330 (by decide +kernel) rfl
theorem fl_X9_37 : am_fl RX9 37 9 4 := ⟨RX9, TX9, 7, rfl, by decide, inX9, fw_X9_37⟩
theorem fp_X9_37 : am_fp RX9 37 9 4 (tyX9 4) true := ⟨RX9, TX9, 7, tyX9, rfl, by decide, inX9, fw_X9_37, tyX9_ok, nmX9, rfl, rfl, fun _ => rfl⟩
theorem fw_X9_41 : Cond.fieldLink RX9 41 (TX9 5).1 (TX9 5).2.1 (TX9 5).2.2.1 ∈ am_tbl := am_w 331 (by decide +kernel) rfl
theorem fl_X9_41 : am_fl RX9 41 9 5 := ⟨RX9, TX9, 7, rfl, by decide, inX9, fw_X9_41⟩
theorem fp_X9_41 : am_fp RX9 41 9 5 (tyX9 5) false := ⟨RX9, TX9, 7, tyX9, rfl, by decide, inX9, fw_X9_41, tyX9_ok, nmX9, rfl, rfl, fun h => by cases h⟩
theorem fw_X9_45 : Cond.fieldLink RX9 45 (TX9 6).1 (TX9 6).2.1 (TX9 6).2.2.1 ∈ am_tbl := am_w 332 (by decide +kernel) rfl
theorem fl_X9_45 : am_fl RX9 45 9 6 := ⟨RX9, TX9, 7, rfl, by decide, inX9, fw_X9_45⟩
theorem fp_X9_45 : am_fp RX9 45 9 6 (tyX9 6) false := ⟨RX9, TX9, 7, tyX9, rfl, by decide, inX9, fw_X9_45, tyX9_ok, nmX9, rfl, rfl, fun h => by cases h⟩
theorem fw_X10_141 : Cond.fieldLink RX10 141 (TX10 0).1 (TX10 0).2.1 (TX10 0).2.2.1 ∈ am_tbl := am_w 894 (by decide +kernel) rfl
theorem fl_X10_141 : am_fl RX10 141 10 0 := ⟨RX10, TX10, 62, rfl, by decide, inX10, fw_X10_141⟩
theorem fp_X10_141 : am_fp RX10 141 10 0 (tyX10 0) false := ⟨RX10, TX10, 62, tyX10, rfl, by decide, inX10, fw_X10_141, tyX10_ok, nmX10, rfl, rfl, fun h => by cases h⟩
theorem fw_X10_7 : Cond.fieldLink RX10 7 (TX10 1).1 (TX10 1).2.1 (TX10 1).2.2.1 ∈ am_tbl := am_w 895 (by decide +kernel) rfl
theorem fl_X10_7 : am_fl RX10 7 10 1 := ⟨RX10, TX10, 62, rfl, by decide, inX10, fw_X10_7⟩
theorem fp_X10_7 : am_fp RX10 7 10 1 (tyX10 1) true := ⟨RX10, TX10, 62, tyX10, rfl, by decide, inX10, fw_X10_7, tyX10_ok, nmX10, rfl, rfl, fun _ => rfl⟩
theorem fw_X10_13 : Cond.fieldLink RX10 13 (TX10 2).1 (TX10 2).2.1 (TX10 2).2.2.1 ∈ am_tbl := am_w 896 (by decide +kernel) rfl
theorem fl_X10_13 : am_fl RX10 13 10 2 := ⟨RX10, TX10, 62, rfl, by decide, inX10, fw_X10_13⟩
theorem fp_X10_13 : am_fp RX10 13 10 2 (tyX10 2) true := ⟨RX10, TX10, 62, tyX10, rfl, by decide, inX10, fw_X10_13, tyX10_ok, nmX10, rfl, rfl, fun _ => rfl⟩
theorem fw_X10_16 : Cond.fieldLink RX10 16 (TX10 3).1 (TX10 3).2.1 (TX10 3).2.2.1 ∈ am_tbl := am_w 897 (by decide +kernel) rfl
theorem fl_X10_16 : am_fl RX10 16 10 3 := ⟨RX10, TX10, 62, rfl, by decide, inX10, fw_X10_16⟩
theorem fp_X10_16 : am_fp RX10 16 10 3 (tyX10 3) true := ⟨RX10, TX10, 62, tyX10, rfl, by decide, inX10, fw_X10_16, tyX10_ok, nmX10, rfl, rfl, fun _ => rfl⟩
theorem fw_X10_19 : Cond.fieldLink RX10 19 (TX10 4).1 (TX10 4).2.1 (TX10 4).2.2.1 ∈ am_tbl := am_w 898 (by decide +kernel) rfl
theorem fl_X10_19 : am_fl RX10 19 10 4 := ⟨RX10, TX10, 62, rfl, by decide, inX10, fw_X10_19⟩
theorem fp_X10_19 : am_fp RX10 19 10 4 (tyX10 4) true := ⟨RX10, TX10, 62, tyX10, rfl, by decide, inX10, fw_X10_19, tyX10_ok, nmX10, rfl, rfl, fun _ => rfl⟩
theorem fw_X10_22 : Cond.fieldLink RX10 22 (TX10 5).1 (TX10 5).2.1 (TX10 5).2.2.1 ∈ am_tbl := am_w 899 (by decide +kernel) rfl
theorem fl_X10_22 : am_fl RX10 22 10 5 := ⟨RX10, TX10, 62, rfl, by decide, inX10, fw_X10_22⟩
theorem fp_X10_22 : am_fp RX10 22 10 5 (tyX10 5) false := ⟨RX10, TX10, 62, tyX10, rfl, by decide, inX10, fw_X10_22, tyX10_ok, nmX10, rfl, rfl, fun h => by cases h⟩
theorem fw_X10_26 : Cond.fieldLink RX10 26 (TX10 6).1 (TX10 6).2.1 (TX10 6).2.2.1 ∈ am_tbl := am_w 900 (by decide +kernel) rfl
theorem fl_X10_26 : am_fl RX10 26 10 6 := ⟨RX10, TX10, 62, rfl, by decide, inX10, fw_X10_26⟩
theorem fp_X10_26 : am_fp RX10 26 10 6 (tyX10 6) true := ⟨RX10, TX10, 62, tyX10, rfl, by decide, inX10, fw_X10_26, tyX10_ok, nmX10, rfl, rfl, fun _ => rfl⟩
theorem fw_X10_29 : Cond.fieldLink RX10 29 (TX10 7).1 (TX10 7).2.1 (TX10 7).2.2.1 ∈ am_tbl := am_w 901 (by decide +kernel) rfl
theorem fl_X10_29 : am_fl RX10 29 10 7 := ⟨RX10, TX10, 62, rfl, by decide, inX10, fw_X10_29⟩
theorem fp_X10_29 : am_fp RX10 29 10 7 (tyX10 7) true := ⟨RX10, TX10, 62, tyX10, rfl, by decide, inX10, fw_X10_29, tyX10_ok, nmX10, rfl, rfl, fun _ => rfl⟩
theorem fw_X10_32 : Cond.fieldLink RX10 32 (TX10 8).1 (TX10 8).2.1 (TX10 8).2.2.1 ∈ am_tbl := am_w 902 (by decide +kernel) rfl
theorem fl_X10_32 : am_fl RX10 32 10 8 := ⟨RX10, TX10, 62, rfl, by decide, inX10, fw_X10_32⟩
theorem fp_X10_32 : am_fp RX10 32 10 8 (tyX10 8) true := ⟨RX10, TX10, 62, tyX10, rfl, by decide, inX10, fw_X10_32, tyX10_ok, nmX10, rfl, rfl, fun _ => rfl⟩
theorem fw_X10_200 : Cond.fieldLink RX10 200 (TX10 9).1 (TX10 9).2.1 (TX10 9).2.2.1 ∈ am_tbl := am_w 903 (by decide +kernel) rfl
theorem fl_X10_200 : am_fl RX10 200 10 9 := ⟨RX10, TX10, 62, rfl, by decide, inX10, fw_X10_200⟩
theorem fp_X10_200 : am_fp RX10 200 10 9 (tyX10 9) false := ⟨RX10, TX10, 62, tyX10, rfl, by decide, inX10, fw_X10_200, tyX10_ok, nmX10, rfl, rfl, fun h => by cases h⟩
theorem fw_X10_36 : Cond.fieldLink RX10 36 (TX10 10).1 (TX10 10).2.1 (TX10 10).2.2.1 ∈ am_tbl := am_w 904 (by decide +kernel) rfl
theorem fl_X10_36 : am_fl RX10 36 10 10 := ⟨RX10, TX10, 62, rfl, by decide, inX10, fw_X10_36⟩
theorem fp_X10_36 : am_fp RX10 36 10 10 (tyX10 10) true := ⟨RX10, TX10, 62, tyX10, rfl, by decide, inX10, fw_X10_36, tyX10_ok, nmX10, rfl, rfl, fun _ => rfl⟩
theorem fw_X10_39 : Cond.fieldLink RX10 39 (TX10 11).1 (TX10 11).2.1 (TX10 11).2.2.1 ∈ am_tbl := am_w 905 (by decide +kernel) rfl
theorem fl_X10_39 : am_fl RX10 39 10 11 := ⟨RX10, TX10, 62, rfl, by decide, inX10, fw_X10_39⟩
theorem fp_X10_39 : am_fp RX10 39 10 11 (tyX10 11) true := ⟨RX10, TX10, 62, tyX10, rfl, by decide, inX10, fw_X10_39, tyX10_ok, nmX10, rfl, rfl, fun _ => rfl⟩
theorem fw_X10_42 : Cond.fieldLink RX10 42 (TX10 12).1 (TX10 12).2.1 (TX10 12).2.2.1 ∈ am_tbl := am_w 906 (by decide +kernel) rfl
theorem fl_X10_42 : am_fl RX10 42 10 12 := ⟨RX10, TX10, 62, rfl, by decide, inX10, fw_X10_42⟩
theorem fp_X10_42 : am_fp RX10 42 10 12 (tyX10 12) true := ⟨RX10, TX10, 62, tyX10, rfl, by decide, inX10, fw_X10_42, tyX10_ok, nmX10, rfl, rfl, fun _ => rfl⟩
theorem fw_X10_45 : Cond.fieldLink RX10 45 (TX10 13).1 (TX10 13).2.1 (TX10 13).2.2.1 ∈ am_tbl := am_w 907 (by decide +kernel) rfl
theorem fl_X10_45 : am_fl RX10 45 10 13 := ⟨RX10, TX10, 62, rfl, by decide, inX10, fw_X10_45⟩
theorem fp_X10_45 : am_fp RX10 45 10 13 (tyX10 13) true := ⟨RX10, TX10, 62, tyX10, rfl, by decide, inX10, fw_X10_45, tyX10_ok, nmX10, rfl, rfl, fun _ => rfl⟩
theorem fw_X10_48 : Cond.fieldLink RX10 48 (TX10 14).1 (TX10 14).2.1 (TX10 14).2.2.1 ∈ am_tbl := am_w 908 (by decide +kernel) rfl
theorem fl_X10_48 : am_fl RX10 48 10 14 := ⟨RX10, TX10, 62, rfl, by decide, inX10, fw_X10_48⟩
theorem fp_X10_48 : am_fp RX10 48 10 14 (tyX10 14) true := ⟨RX10, TX10, 62, tyX10, rfl, by decide, inX10, fw_X10_48, tyX10_ok, nmX10, rfl, rfl, fun _ => rfl⟩
theorem fw_X10_51 : Cond.fieldLink RX10 51 (TX10 15).1 (TX10 15).2.1 (TX10 15).2.2.1 ∈ am_tbl := am_w 909 (by decide +kernel) rfl
theorem fl_X10_51 : am_fl RX10 51 10 15 := ⟨RX10, TX10, 62, rfl, by decide, inX10, fw_X10_51⟩
theorem fp_X10_51 : am_fp RX10 51 10 15 (tyX10 15) true := ⟨RX10, TX10, 62, tyX10, rfl, by decide, inX10, fw_X10_51, tyX10_ok, nmX10, rfl, rfl, fun _ => rfl⟩
theorem fw_X10_54 : Cond.fieldLink RX10 54 (TX10 16).1 (TX10 16).2.1 (TX10 16).2.2.1 ∈ am_tbl := am_w 910 (by decide +kernel) rfl
theorem fl_X10_54 : am_fl RX10 54 10 16 := ⟨RX10, TX10, 62, rfl, by decide, inX10, fw_X10_54⟩
theorem fp_X10_54 : am_fp RX10 54 10 16 (tyX10 16) true := ⟨RX10, TX10, 62, tyX10, rfl, by decide, inX10, fw_X10_54, tyX10_ok, nmX10, rfl, rfl, fun _ => rfl⟩
theorem fw_X10_57 : Cond.fieldLink RX10 57 (TX10 17).1 (TX10 17).2.1 (TX10 17).2.2.1 ∈ am_tbl := am_w 911 (by decide +kernel) rfl
theorem fl_X10_57 : am_fl RX10 57 10 17 := ⟨RX10, TX10, 62, rfl, by decide, inX10, fw_X10_57⟩
theorem fp_X10_57 : am_fp RX10 57 10 17 (tyX10 17) true := ⟨RX10, TX10, 62, tyX10, rfl, by decide, inX10, fw_X10_57, tyX10_ok, nmX10, rfl, rfl, fun _ => rfl⟩
theorem fw_X10_60 : Cond.fieldLink RX10 60 (TX10 18).1 (TX10 18).2.1 (TX10 18).2.2.1 ∈ am_tbl := am_w 912 (by decide +kernel) rfl
theorem fl_X10_60 : am_fl RX10 60 10 18 := ⟨RX10, TX10, 62, rfl, by decide, inX10, fw_X10_60⟩
theorem fp_X10_60 : am_fp RX10 60 10 18 (tyX10 18) true := ⟨RX10, TX10, 62, tyX10, rfl, by decide, inX10, fw_X10_60, tyX10_ok, nmX10, rfl, rfl, fun _ => rfl⟩
theorem fw_X10_190 : Cond.fieldLink RX10 190 (TX10 19).1 (TX10 19).2.1 (TX10 19).2.2.1 ∈ am_tbl := am_w 913 (by decide +kernel) rfl
theorem fl_X10_190 : am_fl RX10 190 10 19 := ⟨RX10, TX10, 62, rfl, by decide, inX10, fw_X10_190⟩
theorem fp_X10_190 : am_fp RX10 190 10 19 (tyX10 19) false := ⟨RX10, TX10, 62, tyX10, rfl, by decide, inX10, fw_X10_190, tyX10_ok, nmX10, rfl, rfl, fun h => by cases h⟩
theorem fw_X10_63 : Cond.fieldLink RX10 63 (TX10 20).1 (TX10 20).2.1 (TX10 20).2.2.1 ∈ am_tbl := am_w 914 (by decide +kernel) rfl
theorem fl_X10_63 : am_fl RX10 63 10 20 := ⟨RX10, TX10, 62, rfl, by decide, inX10, fw_X10_63⟩
theorem fp_X10_63 : am_fp RX10 63 10 20 (tyX10 20) true := ⟨RX10, TX10, 62, tyX10, rfl, by decide, inX10, fw_X10_63, tyX10_ok, nmX10, rfl, rfl, fun _ => rfl⟩
theorem fw_X10_66 : Cond.fieldLink RX10 66 (TX10 21).1 (TX10 21).2.1 (TX10 21).2.2.1 ∈ am_tbl := am_w 915 (by decide +kernel) rfl
theorem fl_X10_66 : am_fl RX10 66 10 21 := ⟨RX10, TX10, 62, rfl, by decide, inX10, fw_X10_66⟩
theorem fp_X10_66 : am_fp RX10 66 10 21 (tyX10 21) true := ⟨RX10, TX10, 62, tyX10, rfl, by decide, inX10, fw_X10_66, tyX10_ok, nmX10, rfl, rfl, fun _ => rfl⟩
theorem fw_X10_222 : Cond.fieldLink RX10 222 (TX10 22).1 (TX10 22).2.1 (TX10 22).2.2.1 ∈ am_tbl := am_w 916 (by decide +kernel) rfl
theorem fl_X10_222 : am_fl RX10 222 10 22 := ⟨RX10, TX10, 62, rfl, by decide, inX10, fw_X10_222⟩
theorem fp_X10_222 : am_fp RX10 222 10 22 (tyX10 22) false := ⟨RX10, TX10, 62, tyX10, rfl, by decide, inX10, fw_X10_222, tyX10_ok, nmX10, rfl, rfl, fun h => by cases h⟩
theorem fw_X10_69 : Cond.fieldLink RX10 69 (TX10 23).1 (TX10 23).2.1 (TX10 23).2.2.1 ∈ am_tbl := am_w 917 (by decide +kernel) rfl
theorem fl_X10_69 : am_fl RX10 69 10 23 := ⟨RX10, TX10, 62, rfl, by decide, inX10, fw_X10_69⟩
theorem fp_X10_69 : am_fp RX10 69 10 23 (tyX10 23) true := ⟨RX10, TX10, 62, tyX10, rfl, by decide, inX10, fw_X10_69, tyX10_ok, nmX10, rfl, rfl, fun _ => rfl⟩
theorem fw_X10_72 : Cond.fieldLink RX10 72 (TX10 24).1 (TX10 24).2.1 (TX10 24).2.2.1 ∈ am_tbl := am_w 918 (by decide +kernel) rfl
theorem fl_X10_72 : am_fl RX10 72 10 24 := ⟨RX10, TX10, 62, rfl, by decide, inX10, fw_X10_72⟩
theorem fp_X10_72 : am_fp RX10 72 10 24 (tyX10 24) true := ⟨RX10, TX10, 62, tyX10, rfl, by decide, inX10, fw_X10_72, tyX10_ok, nmX10, rfl, rfl, fun _ => rfl⟩
theorem fw_X10_75 : Cond.fieldLink RX10 75 (TX10 25).1 (TX10 25).2.1 (TX10 25).2.2.1 ∈ am_tbl := am_w 919 (by decide +kernel) rfl
theorem fl_X10_75 : am_fl RX10 75 10 25 := ⟨RX10, TX10, 62, rfl, by decide, inX10, fw_X10_75⟩
theorem fp_X10_75 : am_fp RX10 75 10 25 (tyX10 25) true := ⟨RX10, TX10, 62, tyX10, rfl, by decide, inX10, fw_X10_75, tyX10_ok, nmX10, rfl, rfl, fun _ => rfl⟩
theorem fw_X10_321 : Cond.fieldLink RX10 321 (TX10 26).1 (TX10 26).2.1 (TX10 26).2.2.1 ∈ am_tbl := am_w 920 (by decide +kernel) rfl
theorem fl_X10_321 : am_fl RX10 321 10 26 := ⟨RX10, TX10, 62, rfl, by decide, inX10, fw_X10_321⟩
theorem fp_X10_321 : am_fp RX10 321 10 26 (tyX10 26) false := ⟨RX10, TX10, 62, tyX10, rfl, by decide, inX10, fw_X10_321, tyX10_ok, nmX10, rfl, rfl, fun h => by cases h⟩
theorem fw_X10_240 : Cond.fieldLink RX10 240 (TX10 27).1 (TX10 27).2.1 (TX10 27).2.2.1 ∈ am_tbl := am_w 921 (by decide +kernel) rfl
theorem fl_X10_240 : am_fl RX10 240 10 27 := ⟨RX10, TX10, 62, rfl, by decide, inX10, fw_X10_240⟩
theorem fp_X10_240 : am_fp RX10 240 10 27 (tyX10 27) false := ⟨RX10, TX10, 62, tyX10, rfl, by decide, inX10, fw_X10_240, tyX10_ok, nmX10, rfl, rfl, fun h => by cases h⟩
theorem fw_X10_78 : Cond.fieldLink RX10 78 (TX10 28).1 (TX10 28).2.1 (TX10 28).2.2.1 ∈ am_tbl := am_w 922 (by decide +kernel) rfl
theorem fl_X10_78 : am_fl RX10 78 10 28 := ⟨RX10, TX10, 62, rfl, by decide, inX10, fw_X10_78⟩
theorem fp_X10_78 : am_fp RX10 78 10 28 (tyX10 28) true := ⟨RX10, TX10, 62, tyX10, rfl, by decide, inX10, fw_X10_78, tyX10_ok, nmX10, rfl, rfl, fun _ => rfl⟩
theorem fw_X10_81 : Cond.fieldLink RX10 81 (TX10 29).1 (TX10 29).2.1 (TX10 29).2.2.1 ∈ am_tbl := am_w 923 (by decide +kernel) rfl
theorem fl_X10_81 : am_fl RX10 81 10 29 := ⟨RX10, TX10, 62, rfl, by decide, inX10, fw_X10_81⟩
theorem fp_X10_81 : am_fp RX10 81 10 29 (tyX10 29) true := ⟨RX10, TX10, 62, tyX10, rfl, by decide, inX10, fw_X10_81, tyX10_ok, nmX10, rfl, rfl, fun _ => rfl⟩
theorem fw_X10_84 : Cond.fieldLink RX10 84 (TX10 30).1 (TX10 30).2.1 (TX10 30).2.2.1 ∈ am_tbl := am_w 924 (by decide +kernel) rfl
theorem fl_X10_84 : am_fl RX10 84 10 30 := ⟨RX10, TX10, 62, rfl, by decide, inX10, fw_X10_84⟩
theorem fp_X10_84 : am_fp RX10 84 10 30 (tyX10 30) true := ⟨RX10, TX10, 62, tyX10, rfl, by decide, inX10, fw_X10_84, tyX10_ok, nmX10, rfl, rfl, fun _ => rfl⟩
theorem fw_X10_87 : Cond.fieldLink RX10 87 (TX10 31).1 (TX10 31).2.1 (TX10 31).2.2.1 ∈ am_tbl := am_w 925 (by decide +kernel) rfl
theorem fl_X10_87 : am_fl RX10 87 10 31 := ⟨RX10, TX10, 62, rfl, by decide, inX10, fw_X10_87⟩
theorem fp_X10_87 : am_fp RX10 87 10 31 (tyX10 31) true := ⟨RX10, TX10, 62, tyX10, rfl, by decide, inX10, fw_X10_87, tyX10_ok, nmX10, rfl, rfl, fun _ => rfl⟩
theorem fw_X10_90 : Cond.fieldLink RX10 90 (TX10 32).1 (TX10 32).2.1 (TX10 32).2.2.1 ∈ am_tbl := am_w 926 (by decide +kernel) rfl
theorem fl_X10_90 : am_fl RX10 90 10 32 := ⟨RX10, TX10, 62, rfl, by decide, inX10, fw_X10_90⟩
theorem fp_X10_90 : am_fp RX10 90 10 32 (tyX10 32) true := ⟨RX10, TX10, 62, tyX10, rfl, by decide, inX10, fw_X10_90, tyX10_ok, nmX10, rfl, rfl, fun _ => rfl⟩
theorem fw_X10_93 : Cond.fieldLink RX10 93 (TX10 33).1 (TX10 33).2.1 (TX10 33).2.2.1 ∈ am_tbl := am_w 927 (by decide +kernel) rfl
theorem fl_X10_93 : am_fl RX10 93 10 33 := ⟨RX10, TX10, 62, rfl, by decide, inX10, fw_X10_93⟩
theorem fp_X10_93 : am_fp RX10 93 10 33 (tyX10 33) true := ⟨RX10, TX10, 62, tyX10, rfl, by decide, inX10, fw_X10_93, tyX10_ok, nmX10, rfl, rfl, fun _ => rfl⟩
theorem fw_X10_96 : Cond.fieldLink RX10 96 (TX10 34).1 (TX10 34).2.1 (TX10 34).2.2.1 ∈ am_tbl := am_w 928 (by decide +kernel) rfl
theorem fl_X10_96 : am_fl RX10 96 10 34 := ⟨RX10, TX10, 62, rfl, by decide, inX10, fw_X10_96⟩
theorem fp_X10_96 : am_fp RX10 96 10 34 (tyX10 34) true := ⟨RX10, TX10, 62, tyX10, rfl, by decide, inX10, fw_X10_96, tyX10_ok, nmX10, rfl, rfl, fun _ => rfl⟩
theorem fw_X10_100 : Cond.fieldLink RX10 100 (TX10 35).1 (TX10 35).2.1 (TX10 35).2.2.1 ∈ am_tbl := am_w 929 (by decide +kernel) rfl
theorem fl_X10_100 : am_fl RX10 100 10 35 := ⟨RX10, TX10, 62, rfl, by decide, inX10, fw_X10_100⟩
theorem fp_X10_100 : am_fp RX10 100 10 35 (tyX10 35) true := ⟨RX10, TX10, 62, tyX10, rfl, by decide, inX10, fw_X10_100, tyX10_ok, nmX10, rfl, rfl, fun _ => rfl⟩
theorem fw_X10_103 : Cond.fieldLink RX10 103 (TX10 36).1 (TX10 36).2.1 (TX10 36).2.2.1 ∈ am_tbl := am_w 930 (by decide +kernel) rfl
theorem fl_X10_103 : am_fl RX10 103 10 36 := ⟨RX10, TX10, 62, rfl, by decide, inX10, fw_X10_103⟩
theorem fp_X10_103 : am_fp RX10 103 10 36 (tyX10 36) true := ⟨RX10, TX10, 62, tyX10, rfl, by decide, inX10, fw_X10_103, tyX10_ok, nmX10, rfl, rfl, fun _ => rfl⟩
theorem fw_X10_108 : Cond.fieldLink RX10 108 (TX10 37).1 (TX10 37).2.1 (TX10 37).2.2.1 ∈ am_tbl := am_w 931 (by decide +kernel) rfl
theorem fl_X10_108 : am_fl RX10 108 10 37 := ⟨RX10, TX10, 62, rfl, by decide, inX10, fw_X10_108⟩
theorem fp_X10_108 : am_fp RX10 108 10 37 (tyX10 37) true := ⟨RX10, TX10, 62, tyX10, rfl, by decide, inX10, fw_X10_108, tyX10_ok, nmX10, rfl, rfl, fun _ => rfl⟩
theorem fw_X10_111 : Cond.fieldLink RX10 111 (TX10 38).1 (TX10 38).2.1 (TX10 38).2.2.1 ∈ am_tbl := am_w 932 (by decide +kernel) rfl
theorem fl_X10_111 : am_fl RX10 111 10 38 := ⟨RX10, TX10, 62, rfl, by decide, inX10, fw_X10_111⟩
theorem fp_X10_111 : am_fp RX10 111 10 38 (tyX10 38) true := ⟨RX10, TX10, 62, tyX10, rfl, by decide, inX10, fw_X10_111, tyX10_ok, nmX10, rfl, rfl, fun _ => rfl⟩
theorem fw_X10_233 : Cond.fieldLink RX10 233 (TX10 39).1 (TX10 39).2.1 (TX10 39).2.2.1 ∈ am_tbl := am_w 933 (by decide +kernel) rfl
theorem fl_X10_233 : am_fl RX10 233 10 39 := ⟨RX10, TX10, 62, rfl, by decide, inX10, fw_X10_233⟩
theorem fp_X10_233 : am_fp RX10 233 10 39 (tyX10 39) false := ⟨RX10, TX10, 62, tyX10, rfl, by decide, inX10, fw_X10_233, tyX10_ok, nmX10, rfl, rfl, fun h => by cases h⟩
theorem fw_X10_237 : Cond.fieldLink RX10 237 (TX10 40).1 (TX10 40).2.1 (TX10 40).2.2.1 ∈ am_tbl := am_w 934 (by decide +kernel) rfl
theorem fl_X10_237 : am_fl RX10 237 10 40 := ⟨RX10, TX10, 62, rfl, by decide, inX10, fw_X10_237⟩
theorem fp_X10_237 : am_fp RX10 237 10 40 (tyX10 40) false := ⟨RX10, TX10, 62, tyX10, rfl, by decide, inX10, fw_X10_237, tyX10_ok, nmX10, rfl, rfl, fun h => by cases h⟩
theorem fw_X10_358 : Cond.fieldLink RX10 358 (TX10 41).1 (TX10 41).2.1 (TX10 41).2.2.1 ∈ am_tbl := am_w 935 (by decide +kernel) rfl
theorem fl_X10_358 : am_fl RX10 358 10 41 := ⟨RX10, TX10, 62, rfl, by decide, inX10, fw_X10_358⟩
theorem fp_X10_358 : am_fp RX10 358 10 41 (tyX10 41) false := ⟨RX10, TX10, 62, tyX10, rfl, by decide, inX10, fw_X10_358, tyX10_ok, nmX10, rfl, rfl, fun h => by cases h⟩
theorem fw_X10_114 : Cond.fieldLink RX10 114 (TX10 42).1 (TX10 42).2.1 (TX10 42).2.2.1 ∈ am_tbl := am_w 936 (by decide +kernel) rfl
theorem fl_X10_114 : am_fl RX10 114 10 42 := ⟨RX10, TX10, 62, rfl, by decide, inX10, fw_X10_114⟩
theorem fp_X10_114 : am_fp RX10 114 10 42 (tyX10 42) true := ⟨RX10, TX10, 62, tyX10, rfl, by decide, inX10, fw_X10_114, tyX10_ok, nmX10, rfl, rfl, fun _ => rfl⟩
theorem fw_X10_117 : Cond.fieldLink RX10 117 (TX10 43).1 (TX10 43).2.1 (TX10 43).2.2.1 ∈ am_tbl := am_w 937 (by decide +kernel) rfl
theorem fl_X10_117 : am_fl RX10 117 10 43 := ⟨RX10, TX10, 62, rfl, by decide, inX10, fw_X10_117⟩
theorem fp_X10_117 : am_fp RX10 117 10 43 (tyX10 43) true := ⟨RX10, TX10, 62, tyX10, rfl, by decide, inX10, fw_X10_117, tyX10_ok, nmX10, rfl, rfl, fun _ => rfl⟩
theorem fw_X10_120 : Cond.fieldLink RX10 120 (TX10 44).1 (TX10 44).2.1 (TX10 44).2.2.1 ∈ am_tbl := am_w 938 (by decide +kernel) rfl
theorem fl_X10_120 : am_fl RX10 120 10 44 := ⟨RX10, TX10, 62, rfl, by decide, inX10, fw_X10_120⟩
theorem fp_X10_120 : am_fp RX10 120 10 44 (tyX10 44) true := ⟨RX10, TX10, 62, tyX10, rfl, by decide, inX10, fw_X10_120, tyX10_ok, nmX10, rfl, rfl, fun _ => rfl⟩
theorem fw_X10_346 : Cond.fieldLink RX10 346 (TX10 45).1 (TX10 45).2.1 (TX10 45).2.2.1 ∈ am_tbl := am_w 939 (by decide +kernel) rfl
theorem fl_X10_346 : am_fl RX10 346 10 45 := ⟨RX10, TX10, 62, rfl, by decide, inX10, fw_X10_346⟩
theorem fp_X10_346 : am_fp RX10 346 10 45 (tyX10 45) false := ⟨RX10, TX10, 62, tyX10, rfl, by decide, inX10, fw_X10_346, tyX10_ok, nmX10, rfl, rfl, fun h => by cases h⟩
theorem fw_X10_123 : Cond.fieldLink RX10 123 (TX10 46).1 (TX10 46).2.1 (TX10 46).2.2.1 ∈ am_tbl := am_w 940 (by decide +kernel) rfl
theorem fl_X10_123 : am_fl RX10 123 10 46 := ⟨RX10, TX10, 62, rfl, by decide, inX10, fw_X10_123⟩
theorem fp_X10_123 : am_fp RX10 123 10 46 (tyX10 46) true := ⟨RX10, TX10, 62, tyX10, rfl, by decide, inX10, fw_X10_123, tyX10_ok, nmX10, rfl, rfl, fun _ => rfl⟩
theorem fw_X10_126 : Cond.fieldLink RX10 126 (TX10 47).1 (TX10 47).2.1 (TX10 47).2.2.1 ∈ am_tbl := am_w 941 (by decide +kernel) rfl
theorem fl_X10_126 : am_fl RX10 126 10 47 := ⟨RX10, TX10, 62, rfl, by decide, inX10, fw_X10_126⟩
theorem fp_X10_126 : am_fp RX10 126 10 47 (tyX10 47) true := ⟨RX10, TX10, 62, tyX10, rfl, by decide, inX10, fw_X10_126, tyX10_ok, nmX10, rfl, rfl, fun _ => rfl⟩
theorem fw_X10_129 : Cond.fieldLink RX10 129 (TX10 48).1 (TX10 48).2.1 (TX10 48).2.2.1 ∈ am_tbl := am_w 942 (by decide +kernel) rfl
theorem fl_X10_129 : am_fl RX10 129 10 48 := ⟨RX10, TX10, 62, rfl, by decide, inX10, fw_X10_129⟩
theorem fp_X10_129 : am_fp RX10 129 10 48 (tyX10 48) true := ⟨RX10, TX10, 62, tyX10, rfl, by decide, inX10, fw_X10_129, tyX10_ok, nmX10, rfl, rfl, fun _ => rfl⟩
theorem fw_X10_132 : Cond.fieldLink RX10 132 (TX10 49).1 (TX10 49).2.1 (TX10 49).2.2.1 ∈ am_tbl := am_w 943 (by decide +kernel) rfl
theorem fl_X10_132 : am_fl RX10 132 10 49 := ⟨RX10, TX10, 62, rfl, by decide, inX10, fw_X10_132⟩
theorem fp_X10_132 : am_fp RX10 132 10 49 (tyX10 49) true := ⟨RX10, TX10, 62, tyX10, rfl, by decide, inX10, fw_X10_132, tyX10_ok, nmX10, rfl, rfl, fun _ => rfl⟩
theorem fw_X10_135 : Cond.fieldLink RX10 135 (TX10 50).1 (TX10 50).2.1 (TX10 50).2.2.1 ∈ am_tbl := am_w 944 (by decide +kernel) rfl
theorem fl_X10_135 : am_fl RX10 135 10 50 := ⟨RX10, TX10, 62, rfl, by decide, inX10, fw_X10_135⟩
theorem fp_X10_135 : am_fp RX10 135 10 50 (tyX10 50) true := ⟨RX10, TX10, 62, tyX10, rfl, by decide, inX10, fw_X10_135, tyX10_ok, nmX10, rfl, rfl, fun _ => rfl⟩
theorem fw_X10_339 : Cond.fieldLink RX10 339 (TX10 51).1 (TX10 51).2.1 (TX10 51).2.2.1 ∈ am_tbl := am_w 945 (by decide +kernel) rfl
theorem fl_X10_339 : am_fl RX10 339 10 51 := ⟨RX10, TX10, 62, rfl, by decide, inX10, fw_X10_339⟩
theorem fp_X10_339 : am_fp RX10 339 10 51 (tyX10 51) false := ⟨RX10, TX10, 62, tyX10, rfl, by decide, inX10, fw_X10_339, tyX10_ok, nmX10, rfl, rfl, fun h => by cases h⟩
theorem fw_X10_336 : Cond.fieldLink RX10 336 (TX10 52).1 (TX10 52).2.1 (TX10 52).2.2.1 ∈ am_tbl := am_w 946 (by decide +kernel) rfl
theorem fl_X10_336 : am_fl RX10 336 10 52 := ⟨RX10, TX10, 62, rfl, by decide, inX10, fw_X10_336⟩
theorem fp_X10_336 : am_fp RX10 336 10 52 (tyX10 52) false := ⟨RX10, TX10, 62, tyX10, rfl, by decide, inX10, fw_X10_336, tyX10_ok, nmX10, rfl, rfl, fun h => by cases h⟩
theorem fw_X10_333 : Cond.fieldLink RX10 333 (TX10 53).1 (TX10 53).2.1 (TX10 53).2.2.1 ∈ am_tbl := am_w 947 (by decide +kernel) rfl
theorem fl_X10_333 : am_fl RX10 333 10 53 := ⟨RX10, TX10, 62, rfl, by decide, inX10, fw_X10_333⟩
theorem fp_X10_333 : am_fp RX10 333 10 53 (tyX10 53) false := ⟨RX10, TX10, 62, tyX10, rfl, by decide, inX10, fw_X10_333, tyX10_ok, nmX10, rfl, rfl, fun h => by cases h⟩
theorem fw_X10_403 : Cond.fieldLink RX10 403 (TX10 54).1 (TX10 54).2.1 (TX10 54).2.2.1 ∈ am_tbl := am_w 948 (by decide +kernel) rfl
theorem fl_X10_403 : am_fl RX10 403 10 54 := ⟨RX10, TX10, 62, rfl, by decide, inX10, fw_X10_403⟩
theorem fp_X10_403 : am_fp RX10 403 10 54 (tyX10 54) false := ⟨RX10, TX10, 62, tyX10, rfl, by decide, inX10, fw_X10_403, tyX10_ok, nmX10, rfl, rfl, fun h => by cases h⟩
theorem fw_X10_355 : Cond.fieldLink RX10 355 (TX10 55).1 (TX10 55).2.1 (TX10 55).2.2.1 ∈ am_tbl := am_w 949 (by decide +kernel) rfl
theorem fl_X10_355 : am_fl RX10 355 10 55 := ⟨RX10, TX10, 62, rfl, by decide, inX10, fw_X10_355⟩
theorem fp_X10_355 : am_fp RX10 355 10 55 (tyX10 55) false := ⟨RX10, TX10, 62, tyX10, rfl, by decide, inX10, fw_X10_355, tyX10_ok, nmX10, rfl, rfl, fun h => by cases h⟩
theorem fw_X10_343 : Cond.fieldLink RX10 343 (TX10 56).1 (TX10 56).2.1 (TX10 56).2.2.1 ∈ am_tbl := am_w 950 (by decide +kernel) rfl
theorem fl_X10_343 : am_fl RX10 343 10 56 := ⟨RX10, TX10, 62, rfl, by decide, inX10, fw_X10_343⟩
theorem fp_X10_343 : am_fp RX10 343 10 56 (tyX10 56) false := ⟨RX10, TX10, 62, tyX10, rfl, by decide, inX10, fw_X10_343, tyX10_ok, nmX10, rfl, rfl, fun h => by cases h⟩
theorem fw_X10_349 : Cond.fieldLink RX10 349 (TX10 57).1 (TX10 57).2.1 (TX10 57).2.2.1 ∈ am_tbl := am_w 951 (by decide +kernel) rfl
theorem fl_X10_349 : am_fl RX10 349 10 57 := ⟨RX10, TX10, 62, rfl, by decide, inX10, fw_X10_349⟩
theorem fp_X10_349 : am_fp RX10 349 10 57 (tyX10 57) false := ⟨RX10, TX10, 62, tyX10, rfl, by decide, inX10, fw_X10_349, tyX10_ok, nmX10, rfl, rfl, fun h => by cases h⟩
theorem fw_X10_352 : Cond.fieldLink RX10 352 (TX10 58).1 (TX10 58).2.1 (TX10 58).2.2.1 ∈ am_tbl := am_w 952 (by decide +kernel) rfl
theorem fl_X10_352 : am_fl RX10 352 10 58 := ⟨RX10, TX10, 62, rfl, by decide, inX10, fw_X10_352⟩
theorem fp_X10_352 : am_fp RX10 352 10 58 (tyX10 58) false := ⟨RX10, TX10, 62, tyX10, rfl, by decide, inX10, fw_X10_352, tyX10_ok, nmX10, rfl, rfl, fun h => by cases h⟩
theorem fw_X10_138 : Cond.fieldLink RX10 138 (TX10 59).1 (TX10 59).2.1 (TX10 59).2.2.1 ∈ am_tbl := am_w 953 (by decide +kernel) rfl
theorem fl_X10_138 : am_fl RX10 138 10 59 := ⟨RX10, TX10, 62, rfl, by decide, inX10, fw_X10_138⟩
theorem fp_X10_138 : am_fp RX10 138 10 59 (tyX10 59) true := ⟨RX10, TX10, 62, tyX10, rfl, by decide, inX10, fw_X10_138, tyX10_ok, nmX10, rfl, rfl, fun _ => rfl⟩
theorem fw_X10_417 : Cond.fieldLink RX10 417 (TX10 60).1 (TX10 60).2.1 (TX10 60).2.2.1 ∈ am_tbl := am_w 954 (by decide +kernel) rfl
theorem fl_X10_417 : am_fl RX10 417 10 60 := ⟨RX10, TX10, 62, rfl, by decide, inX10, fw_X10_417⟩
theorem fp_X10_417 : am_fp RX10 417 10 60 (tyX10 60) false := ⟨RX10, TX10, 62, tyX10, rfl, by decide, inX10, fw_X10_417, tyX10_ok, nmX10, rfl, rfl, fun h => by cases h⟩
theorem fw_X10_373 : Cond.fieldLink RX10 373 (TX10 61).1 (TX10 61).2.1 (TX10 61).2.2.1 ∈ am_tbl := am_w 955 (by decide +kernel) rfl
theorem fl_X10_373 : am_fl RX10 373 10 61 := ⟨RX10, TX10, 62, rfl, by decide, inX10, fw_X10_373⟩
theorem fp_X10_373 : am_fp RX10 373 10 61 (tyX10 61) false := ⟨RX10, TX10, 62, tyX10, rfl, by decide, inX10, fw_X10_373, tyX10_ok, nmX10, rfl, rfl, fun h => by cases h⟩
def eX0_init : am_Y := (yX0_init, cX0_init, 2, none, 2, 40)
theorem in_X0_init : am_in eX0_init 0 := ⟨am_wc 27 (by decide +kernel), iniX0, by decide, by decide, by decide +kernel⟩
theorem im_X0_init : Cond.instanceMethod yX0_init ∈ am_tbl := am_w 26 (by decide +kernel) rfl
def eX0_hasKind : am_Y := (yX0_hasKind, cX0_hasKind, 2, (some .boolean), 0, 0)
theorem in_X0_hasKind : am_in eX0_hasKind 1 := ⟨am_wc 367 (by decide +kernel), iniX0, by decide, by decide, by decide +kernel⟩
theorem im_X0_hasKind : Cond.instanceMethod yX0_hasKind ∈ am_tbl := am_w 365 (by decide +kernel) rfl
theorem sl_X0_hasKind : Cond.selects RX0 yX0_hasKind yX0_hasKind ∈ am_tbl := am_w 366 (by decide +kernel) rfl
def eX0_hasState : am_Y := (yX0_hasState, cX0_hasState, 3, (some .boolean), 1, 21)
theorem in_X0_hasState : am_in eX0_hasState 2 := ⟨am_wc 382 (by decide +kernel), iniX0, by decide, by decide, by decide +kernel⟩
theorem im_X0_hasState : Cond.instanceMethod yX0_hasState ∈ am_tbl := am_w 380 (by decide +kernel) rfl
theorem sl_X0_hasState : Cond.selects RX0 yX0_hasState yX0_hasState ∈ am_tbl := am_w 381 (by decide +kernel) rfl
def eX0_hasRoutine : am_Y := (yX0_hasRoutine, cX0_hasRoutine, 2, (some .boolean), 0, 0)
theorem in_X0_hasRoutine : am_in eX0_hasRoutine 1 := ⟨am_wc 460 (by decide +kernel), iniX0, by decide, by decide, by decide +kernel⟩
theorem im_X0_hasRoutine : Cond.instanceMethod yX0_hasRoutine ∈ am_tbl := am_w 458 (by decide +kernel) rfl
theorem sl_X0_hasRoutine : Cond.selects RX0 yX0_hasRoutine yX0_hasRoutine ∈ am_tbl := am_w 459 (by decide +kernel) rfl
def eX0_hasPlace : am_Y := (yX0_hasPlace, cX0_hasPlace, 3, (some .boolean), 1, 21)
theorem in_X0_hasPlace : am_in eX0_hasPlace 2 := ⟨am_wc 779 (by decide +kernel), iniX0, by decide, by decide, by decide +kernel⟩
theorem im_X0_hasPlace : Cond.instanceMethod yX0_hasPlace ∈ am_tbl := am_w 777 (by decide +kernel) rfl
theorem sl_X0_hasPlace : Cond.selects RX0 yX0_hasPlace yX0_hasPlace ∈ am_tbl := am_w 778 (by decide +kernel) rfl
def eX0_isWhole : am_Y := (yX0_isWhole, cX0_isWhole, 2, (some .boolean), 2, 42)
theorem in_X0_isWhole : am_in eX0_isWhole 0 := ⟨am_wc 545 (by decide +kernel), iniX0, by decide, by decide, by decide +kernel⟩
theorem im_X0_isWhole : Cond.instanceMethod yX0_isWhole ∈ am_tbl := am_w 543 (by decide +kernel) rfl
theorem sl_X0_isWhole : Cond.selects RX0 yX0_isWhole yX0_isWhole ∈ am_tbl := am_w 544 (by decide +kernel) rfl
def eX1_init : am_Y := (yX1_init, cX1_init, 1, none, 1, 20)
theorem in_X1_init : am_in eX1_init 0 := ⟨am_wc 215 (by decide +kernel), iniX1, by decide, by decide, by decide +kernel⟩
theorem im_X1_init : Cond.instanceMethod yX1_init ∈ am_tbl := am_w 214 (by decide +kernel) rfl
def eX1_begin : am_Y := (yX1_begin, cX1_begin, 5, none, 0, 0)
theorem in_X1_begin : am_in eX1_begin 4 := ⟨am_wc 574 (by decide +kernel), iniX1, by decide, by decide, by decide +kernel⟩
theorem im_X1_begin : Cond.instanceMethod yX1_begin ∈ am_tbl := am_w 572 (by decide +kernel) rfl
theorem sl_X1_begin : Cond.selects RX1 yX1_begin yX1_begin ∈ am_tbl := am_w 573 (by decide +kernel) rfl
def eX2_init : am_Y := (yX2_init, cX2_init, 1, none, 1, 20)
theorem in_X2_init : am_in eX2_init 0 := ⟨am_wc 139 (by decide +kernel), iniX2, by decide, by decide, by decide +kernel⟩
theorem im_X2_init : Cond.instanceMethod yX2_init ∈ am_tbl := am_w 138 (by decide +kernel) rfl
def eX2_usesToParting : am_Y := (yX2_usesToParting, cX2_usesToParting, 6, (some .int), 3, 72)
theorem in_X2_usesToParting : am_in eX2_usesToParting 2 := ⟨am_wc 422 (by decide +kernel), iniX2, by decide, by decide, by decide +kernel⟩
theorem im_X2_usesToParting : Cond.instanceMethod yX2_usesToParting ∈ am_tbl := am_w 420 (by decide +kernel) rfl
theorem sl_X2_usesToParting : Cond.selects RX2 yX2_usesToParting yX2_usesToParting ∈ am_tbl := am_w 421 (by decide +kernel) rfl
def eX2_find : am_Y := (yX2_find, cX2_find, 5, none, 0, 0)
theorem in_X2_find : am_in eX2_find 3 := ⟨am_wc 427 (by decide +kernel), iniX2, by decide, by decide, by decide +kernel⟩
theorem im_X2_find : Cond.instanceMethod yX2_find ∈ am_tbl := am_w 426 (by decide +kernel) rfl
theorem sl_X2_find : Cond.selects RX2 yX2_find yX2_find ∈ am_tbl := am_w0 1 (by decide +kernel) rfl
def eX2_arePartedAt : am_Y := (yX2_arePartedAt, cX2_arePartedAt, 5, (some .boolean), 2, 44)
theorem in_X2_arePartedAt : am_in eX2_arePartedAt 4 := ⟨am_wc 430 (by decide +kernel), iniX2, by decide, by decide, by decide +kernel⟩
theorem st_X2_arePartedAt : Cond.static yX2_arePartedAt ∈ am_tbl := am_w 429 (by decide +kernel) rfl
def eX2_findBehind : am_Y := (yX2_findBehind, cX2_findBehind, 7, none, 2, 46)
theorem in_X2_findBehind : am_in eX2_findBehind 4 := ⟨am_wc 443 (by decide +kernel), iniX2, by decide, by decide, by decide +kernel⟩
theorem im_X2_findBehind : Cond.instanceMethod yX2_findBehind ∈ am_tbl := am_w 442 (by decide +kernel) rfl
theorem sl_X2_findBehind : Cond.selects RX2 yX2_findBehind yX2_findBehind ∈ am_tbl := am_w0 2 (by decide +kernel) rfl
def eX3_init : am_Y := (yX3_init, cX3_init, 2, none, 2, 40)
theorem in_X3_init : am_in eX3_init 0 := ⟨am_wc 155 (by decide +kernel), iniX3, by decide, by decide, by decide +kernel⟩
theorem im_X3_init : Cond.instanceMethod yX3_init ∈ am_tbl := am_w 154 (by decide +kernel) rfl
def eX3_clear : am_Y := (yX3_clear, cX3_clear, 1, none, 2, 43)
theorem in_X3_clear : am_in eX3_clear 0 := ⟨am_wc 558 (by decide +kernel), iniX3, by decide, by decide, by decide +kernel⟩
theorem im_X3_clear : Cond.instanceMethod yX3_clear ∈ am_tbl := am_w 557 (by decide +kernel) rfl
theorem sl_X3_clear : Cond.selects RX3 yX3_clear yX3_clear ∈ am_tbl := am_w0 10 (by decide +kernel) rfl
def eX3_findAll : am_Y := (yX3_findAll, cX3_findAll, 6, none, 7, 169)
theorem in_X3_findAll : am_in eX3_findAll 1 := ⟨am_wc 554 (by decide +kernel), iniX3, by decide, by decide, by decide +kernel⟩
theorem im_X3_findAll : Cond.instanceMethod yX3_findAll ∈ am_tbl := am_w 552 (by decide +kernel) rfl
theorem sl_X3_findAll : Cond.selects RX3 yX3_findAll yX3_findAll ∈ am_tbl := am_w 553 (by decide +kernel) rfl
def eX3_caseFor : am_Y := (yX3_caseFor, cX3_caseFor, 7, (some .int), 4, 90)
theorem in_X3_caseFor : am_in eX3_caseFor 4 := ⟨am_wc 567 (by decide +kernel), iniX3, by decide, by decide, by decide +kernel⟩
theorem im_X3_caseFor : Cond.instanceMethod yX3_caseFor ∈ am_tbl := am_w 566 (by decide +kernel) rfl
theorem sl_X3_caseFor : Cond.selects RX3 yX3_caseFor yX3_caseFor ∈ am_tbl := am_w0 11 (by decide +kernel) rfl
def eX3_keep : am_Y := (yX3_keep, cX3_keep, 2, none, 3, 69)
theorem in_X3_keep : am_in eX3_keep 1 := ⟨am_wc 583 (by decide +kernel), iniX3, by decide, by decide, by decide +kernel⟩
theorem im_X3_keep : Cond.instanceMethod yX3_keep ∈ am_tbl := am_w 582 (by decide +kernel) rfl
theorem sl_X3_keep : Cond.selects RX3 yX3_keep yX3_keep ∈ am_tbl := am_w0 12 (by decide +kernel) rfl
def eX3_load : am_Y := (yX3_load, cX3_load, 4, none, 2, 47)
theorem in_X3_load : am_in eX3_load 1 := ⟨am_wc 645 (by decide +kernel), iniX3, by decide, by decide, by decide +kernel⟩
theorem im_X3_load : Cond.instanceMethod yX3_load ∈ am_tbl := am_w 644 (by decide +kernel) rfl
theorem sl_X3_load : Cond.selects RX3 yX3_load yX3_load ∈ am_tbl := am_w0 17 (by decide +kernel) rfl
def eX3_visit : am_Y := (yX3_visit, cX3_visit, 9, (some .int), 6, 141)
theorem in_X3_visit : am_in eX3_visit 2 := ⟨am_wc 701 (by decide +kernel), iniX3, by decide, by decide, by decide +kernel⟩
theorem im_X3_visit : Cond.instanceMethod yX3_visit ∈ am_tbl := am_w 700 (by decide +kernel) rfl
theorem sl_X3_visit : Cond.selects RX3 yX3_visit yX3_visit ∈ am_tbl := am_w0 24 (by decide +kernel) rfl
def eX3_goOn : am_Y := (yX3_goOn, cX3_goOn, 4, none, 4, 99)
theorem in_X3_goOn : am_in eX3_goOn 3 := ⟨am_wc 738 (by decide +kernel), iniX3, by decide, by decide, by decide +kernel⟩
theorem im_X3_goOn : Cond.instanceMethod yX3_goOn ∈ am_tbl := am_w 737 (by decide +kernel) rfl
theorem sl_X3_goOn : Cond.selects RX3 yX3_goOn yX3_goOn ∈ am_tbl := am_w0 29 (by decide +kernel) rfl
def eX3_callFrom : am_Y := (yX3_callFrom, cX3_callFrom, 6, (some .int), 5, 116)
theorem in_X3_callFrom : am_in eX3_callFrom 2 := ⟨am_wc 727 (by decide +kernel), iniX3, by decide, by decide, by decide +kernel⟩
theorem im_X3_callFrom : Cond.instanceMethod yX3_callFrom ∈ am_tbl := am_w 726 (by decide +kernel) rfl
theorem sl_X3_callFrom : Cond.selects RX3 yX3_callFrom yX3_callFrom ∈ am_tbl := am_w0 28 (by decide +kernel) rfl
def eX3_comeBackAsKnown : am_Y := (yX3_comeBackAsKnown, cX3_comeBackAsKnown, 6, none, 5, 116)
theorem in_X3_comeBackAsKnown : am_in eX3_comeBackAsKnown 3 := ⟨am_wc 763 (by decide +kernel), iniX3, by decide, by decide, by decide +kernel⟩
theorem im_X3_comeBackAsKnown : Cond.instanceMethod yX3_comeBackAsKnown ∈ am_tbl := am_w 762 (by decide +kernel) rfl
theorem sl_X3_comeBackAsKnown : Cond.selects RX3 yX3_comeBackAsKnown yX3_comeBackAsKnown ∈ am_tbl := am_w0 34 (by decide +kernel) rfl
def eX3_comeBack : am_Y := (yX3_comeBack, cX3_comeBack, 7, none, 4, 90)
theorem in_X3_comeBack : am_in eX3_comeBack 3 := ⟨am_wc 638 (by decide +kernel), iniX3, by decide, by decide, by decide +kernel⟩
theorem im_X3_comeBack : Cond.instanceMethod yX3_comeBack ∈ am_tbl := am_w 637 (by decide +kernel) rfl
theorem sl_X3_comeBack : Cond.selects RX3 yX3_comeBack yX3_comeBack ∈ am_tbl := am_w0 16 (by decide +kernel) rfl
def eX3_endCase : am_Y := (yX3_endCase, cX3_endCase, 5, none, 3, 65)
theorem in_X3_endCase : am_in eX3_endCase 3 := ⟨am_wc 672 (by decide +kernel), iniX3, by decide, by decide, by decide +kernel⟩
theorem im_X3_endCase : Cond.instanceMethod yX3_endCase ∈ am_tbl := am_w 671 (by decide +kernel) rfl
theorem sl_X3_endCase : Cond.selects RX3 yX3_endCase yX3_endCase ∈ am_tbl := am_w0 21 (by decide +kernel) rfl
def eX3_spreadNews : am_Y := (yX3_spreadNews, cX3_spreadNews, 5, none, 5, 116)
theorem in_X3_spreadNews : am_in eX3_spreadNews 2 := ⟨am_wc 634 (by decide +kernel), iniX3, by decide, by decide, by decide +kernel⟩
theorem im_X3_spreadNews : Cond.instanceMethod yX3_spreadNews ∈ am_tbl := am_w 633 (by decide +kernel) rfl
theorem sl_X3_spreadNews : Cond.selects RX3 yX3_spreadNews yX3_spreadNews ∈ am_tbl := am_w0 15 (by decide +kernel) rfl
def eX3_addWrong : am_Y := (yX3_addWrong, cX3_addWrong, 5, none, 0, 0)
theorem in_X3_addWrong : am_in eX3_addWrong 3 := ⟨am_wc 693 (by decide +kernel), iniX3, by decide, by decide, by decide +kernel⟩
theorem im_X3_addWrong : Cond.instanceMethod yX3_addWrong ∈ am_tbl := am_w 692 (by decide +kernel) rfl
theorem sl_X3_addWrong : Cond.selects RX3 yX3_addWrong yX3_addWrong ∈ am_tbl := am_w0 23 (by decide +kernel) rfl
def eX3_partOfWrong : am_Y := (yX3_partOfWrong, cX3_partOfWrong, 6, (some .int), 0, 0)
theorem in_X3_partOfWrong : am_in eX3_partOfWrong 2 := ⟨am_wc 771 (by decide +kernel), iniX3, by decide, by decide, by decide +kernel⟩
theorem im_X3_partOfWrong : Cond.instanceMethod yX3_partOfWrong ∈ am_tbl := am_w 769 (by decide +kernel) rfl
theorem sl_X3_partOfWrong : Cond.selects RX3 yX3_partOfWrong yX3_partOfWrong ∈ am_tbl := am_w 770 (by decide +kernel) rfl
def eX3_isAt : am_Y := (yX3_isAt, cX3_isAt, 6, (some .boolean), 3, 70)
theorem in_X3_isAt : am_in eX3_isAt 3 := ⟨am_wc 788 (by decide +kernel), iniX3, by decide, by decide, by decide +kernel⟩
theorem im_X3_isAt : Cond.instanceMethod yX3_isAt ∈ am_tbl := am_w 787 (by decide +kernel) rfl
theorem sl_X3_isAt : Cond.selects RX3 yX3_isAt yX3_isAt ∈ am_tbl := am_w0 35 (by decide +kernel) rfl
def eX3_statesOf : am_Y := (yX3_statesOf, cX3_statesOf, 6, (some .int), 4, 95)
theorem in_X3_statesOf : am_in eX3_statesOf 3 := ⟨am_wc 784 (by decide +kernel), iniX3, by decide, by decide, by decide +kernel⟩
theorem im_X3_statesOf : Cond.instanceMethod yX3_statesOf ∈ am_tbl := am_w 782 (by decide +kernel) rfl
theorem sl_X3_statesOf : Cond.selects RX3 yX3_statesOf yX3_statesOf ∈ am_tbl := am_w 783 (by decide +kernel) rfl
def eX3_sameThing : am_Y := (yX3_sameThing, cX3_sameThing, 8, (some .int), 4, 95)
theorem in_X3_sameThing : am_in eX3_sameThing 4 := ⟨am_wc 798 (by decide +kernel), iniX3, by decide, by decide, by decide +kernel⟩
theorem im_X3_sameThing : Cond.instanceMethod yX3_sameThing ∈ am_tbl := am_w 796 (by decide +kernel) rfl
theorem sl_X3_sameThing : Cond.selects RX3 yX3_sameThing yX3_sameThing ∈ am_tbl := am_w 797 (by decide +kernel) rfl
def eX3_paperOf : am_Y := (yX3_paperOf, cX3_paperOf, 2, (some .int), 0, 0)
theorem in_X3_paperOf : am_in eX3_paperOf 1 := ⟨am_wc 811 (by decide +kernel), iniX3, by decide, by decide, by decide +kernel⟩
theorem im_X3_paperOf : Cond.instanceMethod yX3_paperOf ∈ am_tbl := am_w 809 (by decide +kernel) rfl
theorem sl_X3_paperOf : Cond.selects RX3 yX3_paperOf yX3_paperOf ∈ am_tbl := am_w 810 (by decide +kernel) rfl
def eX4_init : am_Y := (yX4_init, cX4_init, 1, none, 1, 20)
theorem in_X4_init : am_in eX4_init 0 := ⟨am_wc 36 (by decide +kernel), iniX4, by decide, by decide, by decide +kernel⟩
theorem im_X4_init : Cond.instanceMethod yX4_init ∈ am_tbl := am_w 35 (by decide +kernel) rfl
def eX4_begin : am_Y := (yX4_begin, cX4_begin, 3, none, 1, 23)
theorem in_X4_begin : am_in eX4_begin 2 := ⟨am_wc 358 (by decide +kernel), iniX4, by decide, by decide, by decide +kernel⟩
theorem im_X4_begin : Cond.instanceMethod yX4_begin ∈ am_tbl := am_w 356 (by decide +kernel) rfl
theorem sl_X4_begin : Cond.selects RX4 yX4_begin yX4_begin ∈ am_tbl := am_w 357 (by decide +kernel) rfl
def eX4_inherit : am_Y := (yX4_inherit, cX4_inherit, 3, none, 1, 26)
theorem in_X4_inherit : am_in eX4_inherit 2 := ⟨am_wc 371 (by decide +kernel), iniX4, by decide, by decide, by decide +kernel⟩
theorem im_X4_inherit : Cond.instanceMethod yX4_inherit ∈ am_tbl := am_w 369 (by decide +kernel) rfl
theorem sl_X4_inherit : Cond.selects RX4 yX4_inherit yX4_inherit ∈ am_tbl := am_w 370 (by decide +kernel) rfl
def eX4_isUseful : am_Y := (yX4_isUseful, cX4_isUseful, 3, (some .boolean), 0, 0)
theorem in_X4_isUseful : am_in eX4_isUseful 2 := ⟨am_wc 394 (by decide +kernel), iniX4, by decide, by decide, by decide +kernel⟩
theorem im_X4_isUseful : Cond.instanceMethod yX4_isUseful ∈ am_tbl := am_w 393 (by decide +kernel) rfl
theorem sl_X4_isUseful : Cond.selects RX4 yX4_isUseful yX4_isUseful ∈ am_tbl := am_w0 0 (by decide +kernel) rfl
def eX4_setUse : am_Y := (yX4_setUse, cX4_setUse, 5, none, 1, 22)
theorem in_X4_setUse : am_in eX4_setUse 4 := ⟨am_wc 398 (by decide +kernel), iniX4, by decide, by decide, by decide +kernel⟩
theorem im_X4_setUse : Cond.instanceMethod yX4_setUse ∈ am_tbl := am_w 396 (by decide +kernel) rfl
theorem sl_X4_setUse : Cond.selects RX4 yX4_setUse yX4_setUse ∈ am_tbl := am_w 397 (by decide +kernel) rfl
def eX4_hasUse : am_Y := (yX4_hasUse, cX4_hasUse, 3, (some .boolean), 1, 22)
theorem in_X4_hasUse : am_in eX4_hasUse 2 := ⟨am_wc 390 (by decide +kernel), iniX4, by decide, by decide, by decide +kernel⟩
theorem im_X4_hasUse : Cond.instanceMethod yX4_hasUse ∈ am_tbl := am_w 388 (by decide +kernel) rfl
theorem sl_X4_hasUse : Cond.selects RX4 yX4_hasUse yX4_hasUse ∈ am_tbl := am_w 389 (by decide +kernel) rfl
def eX4_isAsking : am_Y := (yX4_isAsking, cX4_isAsking, 3, (some .boolean), 1, 22)
theorem in_X4_isAsking : am_in eX4_isAsking 2 := ⟨am_wc 439 (by decide +kernel), iniX4, by decide, by decide, by decide +kernel⟩
theorem im_X4_isAsking : Cond.instanceMethod yX4_isAsking ∈ am_tbl := am_w 437 (by decide +kernel) rfl
theorem sl_X4_isAsking : Cond.selects RX4 yX4_isAsking yX4_isAsking ∈ am_tbl := am_w 438 (by decide +kernel) rfl
def eX4_after : am_Y := (yX4_after, cX4_after, 5, (some .int), 1, 22)
theorem in_X4_after : am_in eX4_after 3 := ⟨am_wc 414 (by decide +kernel), iniX4, by decide, by decide, by decide +kernel⟩
theorem im_X4_after : Cond.instanceMethod yX4_after ∈ am_tbl := am_w 412 (by decide +kernel) rfl
theorem sl_X4_after : Cond.selects RX4 yX4_after yX4_after ∈ am_tbl := am_w 413 (by decide +kernel) rfl
def eX4_isEnd : am_Y := (yX4_isEnd, cX4_isEnd, 2, (some .boolean), 0, 0)
theorem in_X4_isEnd : am_in eX4_isEnd 1 := ⟨am_wc 434 (by decide +kernel), iniX4, by decide, by decide, by decide +kernel⟩
theorem im_X4_isEnd : Cond.instanceMethod yX4_isEnd ∈ am_tbl := am_w 432 (by decide +kernel) rfl
theorem sl_X4_isEnd : Cond.selects RX4 yX4_isEnd yX4_isEnd ∈ am_tbl := am_w 433 (by decide +kernel) rfl
def eX4_digestFrom : am_Y := (yX4_digestFrom, cX4_digestFrom, 7, (some .long), 2, 46)
theorem in_X4_digestFrom : am_in eX4_digestFrom 1 := ⟨am_wc 877 (by decide +kernel), iniX4, by decide, by decide, by decide +kernel⟩
theorem im_X4_digestFrom : Cond.instanceMethod yX4_digestFrom ∈ am_tbl := am_w 875 (by decide +kernel) rfl
theorem sl_X4_digestFrom : Cond.selects RX4 yX4_digestFrom yX4_digestFrom ∈ am_tbl := am_w 876 (by decide +kernel) rfl
def eX5_init : am_Y := (yX5_init, cX5_init, 1, none, 1, 20)
theorem in_X5_init : am_in eX5_init 0 := ⟨am_wc 161 (by decide +kernel), iniX5, by decide, by decide, by decide +kernel⟩
theorem im_X5_init : Cond.instanceMethod yX5_init ∈ am_tbl := am_w 160 (by decide +kernel) rfl
def eX5_clear : am_Y := (yX5_clear, cX5_clear, 1, none, 1, 23)
theorem in_X5_clear : am_in eX5_clear 0 := ⟨am_wc 562 (by decide +kernel), iniX5, by decide, by decide, by decide +kernel⟩
theorem im_X5_clear : Cond.instanceMethod yX5_clear ∈ am_tbl := am_w 560 (by decide +kernel) rfl
theorem sl_X5_clear : Cond.selects RX5 yX5_clear yX5_clear ∈ am_tbl := am_w 561 (by decide +kernel) rfl
def eX5_add : am_Y := (yX5_add, cX5_add, 4, (some .boolean), 1, 25)
theorem in_X5_add : am_in eX5_add 1 := ⟨am_wc 629 (by decide +kernel), iniX5, by decide, by decide, by decide +kernel⟩
theorem im_X5_add : Cond.instanceMethod yX5_add ∈ am_tbl := am_w 627 (by decide +kernel) rfl
theorem sl_X5_add : Cond.selects RX5 yX5_add yX5_add ∈ am_tbl := am_w 628 (by decide +kernel) rfl
def eX5_find : am_Y := (yX5_find, cX5_find, 6, (some .int), 0, 0)
theorem in_X5_find : am_in eX5_find 1 := ⟨am_wc 613 (by decide +kernel), iniX5, by decide, by decide, by decide +kernel⟩
theorem im_X5_find : Cond.instanceMethod yX5_find ∈ am_tbl := am_w 612 (by decide +kernel) rfl
theorem sl_X5_find : Cond.selects RX5 yX5_find yX5_find ∈ am_tbl := am_w0 13 (by decide +kernel) rfl
def eX5_makeRoom : am_Y := (yX5_makeRoom, cX5_makeRoom, 2, none, 2, 48)
theorem in_X5_makeRoom : am_in eX5_makeRoom 0 := ⟨am_wc 587 (by decide +kernel), iniX5, by decide, by decide, by decide +kernel⟩
theorem im_X5_makeRoom : Cond.instanceMethod yX5_makeRoom ∈ am_tbl := am_w 585 (by decide +kernel) rfl
theorem sl_X5_makeRoom : Cond.selects RX5 yX5_makeRoom yX5_makeRoom ∈ am_tbl := am_w 586 (by decide +kernel) rfl
def eX6_init : am_Y := (yX6_init, cX6_init, 1, none, 1, 20)
theorem in_X6_init : am_in eX6_init 0 := ⟨am_wc 58 (by decide +kernel), iniX6, by decide, by decide, by decide +kernel⟩
theorem im_X6_init : Cond.instanceMethod yX6_init ∈ am_tbl := am_w 57 (by decide +kernel) rfl
def eX6_takes : am_Y := (yX6_takes, cX6_takes, 4, (some .boolean), 1, 20)
theorem in_X6_takes : am_in eX6_takes 1 := ⟨am_wc 486 (by decide +kernel), iniX6, by decide, by decide, by decide +kernel⟩
theorem im_X6_takes : Cond.instanceMethod yX6_takes ∈ am_tbl := am_w 484 (by decide +kernel) rfl
theorem sl_X6_takes : Cond.selects RX6 yX6_takes yX6_takes ∈ am_tbl := am_w 485 (by decide +kernel) rfl
def eX6_append : am_Y := (yX6_append, cX6_append, 4, none, 2, 44)
theorem in_X6_append : am_in eX6_append 3 := ⟨am_wc 493 (by decide +kernel), iniX6, by decide, by decide, by decide +kernel⟩
theorem im_X6_append : Cond.instanceMethod yX6_append ∈ am_tbl := am_w 491 (by decide +kernel) rfl
theorem sl_X6_append : Cond.selects RX6 yX6_append yX6_append ∈ am_tbl := am_w 492 (by decide +kernel) rfl
def eX6_removeLast : am_Y := (yX6_removeLast, cX6_removeLast, 1, none, 2, 44)
theorem in_X6_removeLast : am_in eX6_removeLast 0 := ⟨am_wc 525 (by decide +kernel), iniX6, by decide, by decide, by decide +kernel⟩
theorem im_X6_removeLast : Cond.instanceMethod yX6_removeLast ∈ am_tbl := am_w 523 (by decide +kernel) rfl
theorem sl_X6_removeLast : Cond.selects RX6 yX6_removeLast yX6_removeLast ∈ am_tbl := am_w 524 (by decide +kernel) rfl
def eX6_part : am_Y := (yX6_part, cX6_part, 3, (some .int), 0, 0)
theorem in_X6_part : am_in eX6_part 2 := ⟨am_wc 533 (by decide +kernel), iniX6, by decide, by decide, by decide +kernel⟩
theorem im_X6_part : Cond.instanceMethod yX6_part ∈ am_tbl := am_w 531 (by decide +kernel) rfl
theorem sl_X6_part : Cond.selects RX6 yX6_part yX6_part ∈ am_tbl := am_w 532 (by decide +kernel) rfl
def eX6_callsBeyond : am_Y := (yX6_callsBeyond, cX6_callsBeyond, 3, (some .boolean), 1, 20)
theorem in_X6_callsBeyond : am_in eX6_callsBeyond 1 := ⟨am_wc 549 (by decide +kernel), iniX6, by decide, by decide, by decide +kernel⟩
theorem im_X6_callsBeyond : Cond.instanceMethod yX6_callsBeyond ∈ am_tbl := am_w 547 (by decide +kernel) rfl
theorem sl_X6_callsBeyond : Cond.selects RX6 yX6_callsBeyond yX6_callsBeyond ∈ am_tbl := am_w 548 (by decide +kernel) rfl
def eX6_link : am_Y := (yX6_link, cX6_link, 2, none, 1, 23)
theorem in_X6_link : am_in eX6_link 0 := ⟨am_wc 497 (by decide +kernel), iniX6, by decide, by decide, by decide +kernel⟩
theorem im_X6_link : Cond.instanceMethod yX6_link ∈ am_tbl := am_w 496 (by decide +kernel) rfl
theorem sl_X6_link : Cond.selects RX6 yX6_link yX6_link ∈ am_tbl := am_w0 4 (by decide +kernel) rfl
def eX6_linkBlock : am_Y := (yX6_linkBlock, cX6_linkBlock, 2, none, 0, 0)
theorem in_X6_linkBlock : am_in eX6_linkBlock 1 := ⟨am_wc 517 (by decide +kernel), iniX6, by decide, by decide, by decide +kernel⟩
theorem im_X6_linkBlock : Cond.instanceMethod yX6_linkBlock ∈ am_tbl := am_w 516 (by decide +kernel) rfl
theorem sl_X6_linkBlock : Cond.selects RX6 yX6_linkBlock yX6_linkBlock ∈ am_tbl := am_w0 9 (by decide +kernel) rfl
def eX6_linkMiddle : am_Y := (yX6_linkMiddle, cX6_linkMiddle, 3, none, 0, 0)
theorem in_X6_linkMiddle : am_in eX6_linkMiddle 1 := ⟨am_wc 501 (by decide +kernel), iniX6, by decide, by decide, by decide +kernel⟩
theorem im_X6_linkMiddle : Cond.instanceMethod yX6_linkMiddle ∈ am_tbl := am_w 500 (by decide +kernel) rfl
theorem sl_X6_linkMiddle : Cond.selects RX6 yX6_linkMiddle yX6_linkMiddle ∈ am_tbl := am_w0 5 (by decide +kernel) rfl
def eX6_linkEnd : am_Y := (yX6_linkEnd, cX6_linkEnd, 3, none, 0, 0)
theorem in_X6_linkEnd : am_in eX6_linkEnd 1 := ⟨am_wc 509 (by decide +kernel), iniX6, by decide, by decide, by decide +kernel⟩
theorem im_X6_linkEnd : Cond.instanceMethod yX6_linkEnd ∈ am_tbl := am_w 508 (by decide +kernel) rfl
theorem sl_X6_linkEnd : Cond.selects RX6 yX6_linkEnd yX6_linkEnd ∈ am_tbl := am_w0 7 (by decide +kernel) rfl
def eX6_innermostCatcher : am_Y := (yX6_innermostCatcher, cX6_innermostCatcher, 3, (some .int), 0, 0)
theorem in_X6_innermostCatcher : am_in eX6_innermostCatcher 0 := ⟨am_wc 513 (by decide +kernel), iniX6, by decide, by decide, by decide +kernel⟩
theorem im_X6_innermostCatcher : Cond.instanceMethod yX6_innermostCatcher ∈ am_tbl := am_w 512 (by decide +kernel) rfl
theorem sl_X6_innermostCatcher : Cond.selects RX6 yX6_innermostCatcher yX6_innermostCatcher ∈ am_tbl := am_w0 8 (by decide +kernel) rfl
def eX6_modesKnown : am_Y := (yX6_modesKnown, cX6_modesKnown, 4, (some .int), 0, 0)
theorem in_X6_modesKnown : am_in eX6_modesKnown 0 := ⟨am_wc 505 (by decide +kernel), iniX6, by decide, by decide, by decide +kernel⟩
theorem im_X6_modesKnown : Cond.instanceMethod yX6_modesKnown ∈ am_tbl := am_w 504 (by decide +kernel) rfl
theorem sl_X6_modesKnown : Cond.selects RX6 yX6_modesKnown yX6_modesKnown ∈ am_tbl := am_w0 6 (by decide +kernel) rfl
def eX6_digestFrom : am_Y := (yX6_digestFrom, cX6_digestFrom, 7, (some .long), 1, 22)
theorem in_X6_digestFrom : am_in eX6_digestFrom 1 := ⟨am_wc 883 (by decide +kernel), iniX6, by decide, by decide, by decide +kernel⟩
theorem im_X6_digestFrom : Cond.instanceMethod yX6_digestFrom ∈ am_tbl := am_w 881 (by decide +kernel) rfl
theorem sl_X6_digestFrom : Cond.selects RX6 yX6_digestFrom yX6_digestFrom ∈ am_tbl := am_w 882 (by decide +kernel) rfl
def eX7_init : am_Y := (yX7_init, cX7_init, 2, none, 2, 40)
theorem in_X7_init : am_in eX7_init 0 := ⟨am_wc 288 (by decide +kernel), iniX7, by decide, by decide, by decide +kernel⟩
theorem im_X7_init : Cond.instanceMethod yX7_init ∈ am_tbl := am_w 287 (by decide +kernel) rfl
def eX7_play : am_Y := (yX7_play, cX7_play, 7, (some .int), 5, 124)
theorem in_X7_play : am_in eX7_play 3 := ⟨am_wc 823 (by decide +kernel), iniX7, by decide, by decide, by decide +kernel⟩
theorem im_X7_play : Cond.instanceMethod yX7_play ∈ am_tbl := am_w 821 (by decide +kernel) rfl
theorem sl_X7_play : Cond.selects RX7 yX7_play yX7_play ∈ am_tbl := am_w 822 (by decide +kernel) rfl
def eX7_openRoutine : am_Y := (yX7_openRoutine, cX7_openRoutine, 5, none, 2, 47)
theorem in_X7_openRoutine : am_in eX7_openRoutine 4 := ⟨am_wc 827 (by decide +kernel), iniX7, by decide, by decide, by decide +kernel⟩
theorem im_X7_openRoutine : Cond.instanceMethod yX7_openRoutine ∈ am_tbl := am_w 826 (by decide +kernel) rfl
theorem sl_X7_openRoutine : Cond.selects RX7 yX7_openRoutine yX7_openRoutine ∈ am_tbl := am_w0 36 (by decide +kernel) rfl
def eX7_takeTurn : am_Y := (yX7_takeTurn, cX7_takeTurn, 6, (some .int), 4, 99)
theorem in_X7_takeTurn : am_in eX7_takeTurn 1 := ⟨am_wc 835 (by decide +kernel), iniX7, by decide, by decide, by decide +kernel⟩
theorem im_X7_takeTurn : Cond.instanceMethod yX7_takeTurn ∈ am_tbl := am_w 834 (by decide +kernel) rfl
theorem sl_X7_takeTurn : Cond.selects RX7 yX7_takeTurn yX7_takeTurn ∈ am_tbl := am_w0 37 (by decide +kernel) rfl
def eX7_callFrom : am_Y := (yX7_callFrom, cX7_callFrom, 5, (some .int), 3, 71)
theorem in_X7_callFrom : am_in eX7_callFrom 2 := ⟨am_wc 852 (by decide +kernel), iniX7, by decide, by decide, by decide +kernel⟩
theorem im_X7_callFrom : Cond.instanceMethod yX7_callFrom ∈ am_tbl := am_w 851 (by decide +kernel) rfl
theorem sl_X7_callFrom : Cond.selects RX7 yX7_callFrom yX7_callFrom ∈ am_tbl := am_w0 40 (by decide +kernel) rfl
def eX7_nextAnswer : am_Y := (yX7_nextAnswer, cX7_nextAnswer, 2, (some .boolean), 0, 0)
theorem in_X7_nextAnswer : am_in eX7_nextAnswer 0 := ⟨am_wc 859 (by decide +kernel), iniX7, by decide, by decide, by decide +kernel⟩
theorem im_X7_nextAnswer : Cond.instanceMethod yX7_nextAnswer ∈ am_tbl := am_w 858 (by decide +kernel) rfl
theorem sl_X7_nextAnswer : Cond.selects RX7 yX7_nextAnswer yX7_nextAnswer ∈ am_tbl := am_w0 41 (by decide +kernel) rfl
def eX7_goBack : am_Y := (yX7_goBack, cX7_goBack, 6, (some .int), 3, 70)
theorem in_X7_goBack : am_in eX7_goBack 2 := ⟨am_wc 839 (by decide +kernel), iniX7, by decide, by decide, by decide +kernel⟩
theorem im_X7_goBack : Cond.instanceMethod yX7_goBack ∈ am_tbl := am_w 838 (by decide +kernel) rfl
theorem sl_X7_goBack : Cond.selects RX7 yX7_goBack yX7_goBack ∈ am_tbl := am_w0 38 (by decide +kernel) rfl
def eX7_endAt : am_Y := (yX7_endAt, cX7_endAt, 4, (some .int), 0, 0)
theorem in_X7_endAt : am_in eX7_endAt 3 := ⟨am_wc 844 (by decide +kernel), iniX7, by decide, by decide, by decide +kernel⟩
theorem im_X7_endAt : Cond.instanceMethod yX7_endAt ∈ am_tbl := am_w 843 (by decide +kernel) rfl
theorem sl_X7_endAt : Cond.selects RX7 yX7_endAt yX7_endAt ∈ am_tbl := am_w0 39 (by decide +kernel) rfl
def eX8_init : am_Y := (yX8_init, cX8_init, 1, none, 1, 20)
theorem in_X8_init : am_in eX8_init 0 := ⟨am_wc 187 (by decide +kernel), iniX8, by decide, by decide, by decide +kernel⟩
theorem im_X8_init : Cond.instanceMethod yX8_init ∈ am_tbl := am_w 186 (by decide +kernel) rfl
def eX8_begin : am_Y := (yX8_begin, cX8_begin, 5, none, 1, 23)
theorem in_X8_begin : am_in eX8_begin 4 := ⟨am_wc 578 (by decide +kernel), iniX8, by decide, by decide, by decide +kernel⟩
theorem im_X8_begin : Cond.instanceMethod yX8_begin ∈ am_tbl := am_w 576 (by decide +kernel) rfl
theorem sl_X8_begin : Cond.selects RX8 yX8_begin yX8_begin ∈ am_tbl := am_w 577 (by decide +kernel) rfl
def eX8_pack : am_Y := (yX8_pack, cX8_pack, 4, (some .long), 1, 23)
theorem in_X8_pack : am_in eX8_pack 0 := ⟨am_wc 618 (by decide +kernel), iniX8, by decide, by decide, by decide +kernel⟩
theorem im_X8_pack : Cond.instanceMethod yX8_pack ∈ am_tbl := am_w 616 (by decide +kernel) rfl
theorem sl_X8_pack : Cond.selects RX8 yX8_pack yX8_pack ∈ am_tbl := am_w 617 (by decide +kernel) rfl
def eX8_codeOf : am_Y := (yX8_codeOf, cX8_codeOf, 4, (some .int), 0, 0)
theorem in_X8_codeOf : am_in eX8_codeOf 1 := ⟨am_wc 622 (by decide +kernel), iniX8, by decide, by decide, by decide +kernel⟩
theorem im_X8_codeOf : Cond.instanceMethod yX8_codeOf ∈ am_tbl := am_w 621 (by decide +kernel) rfl
theorem sl_X8_codeOf : Cond.selects RX8 yX8_codeOf yX8_codeOf ∈ am_tbl := am_w0 14 (by decide +kernel) rfl
def eX8_placeIn : am_Y := (yX8_placeIn, cX8_placeIn, 2, (some .int), 0, 0)
theorem in_X8_placeIn : am_in eX8_placeIn 1 := ⟨am_wc 652 (by decide +kernel), iniX8, by decide, by decide, by decide +kernel⟩
theorem st_X8_placeIn : Cond.static yX8_placeIn ∈ am_tbl := am_w 651 (by decide +kernel) rfl
def eX8_caseIn : am_Y := (yX8_caseIn, cX8_caseIn, 2, (some .int), 0, 0)
theorem in_X8_caseIn : am_in eX8_caseIn 1 := ⟨am_wc 641 (by decide +kernel), iniX8, by decide, by decide, by decide +kernel⟩
theorem st_X8_caseIn : Cond.static yX8_caseIn ∈ am_tbl := am_w 640 (by decide +kernel) rfl
def eX8_packWithCase : am_Y := (yX8_packWithCase, cX8_packWithCase, 3, (some .long), 0, 0)
theorem in_X8_packWithCase : am_in eX8_packWithCase 2 := ⟨am_wc 625 (by decide +kernel), iniX8, by decide, by decide, by decide +kernel⟩
theorem st_X8_packWithCase : Cond.static yX8_packWithCase ∈ am_tbl := am_w 624 (by decide +kernel) rfl
def eX8_unpack : am_Y := (yX8_unpack, cX8_unpack, 4, none, 1, 22)
theorem in_X8_unpack : am_in eX8_unpack 1 := ⟨am_wc 649 (by decide +kernel), iniX8, by decide, by decide, by decide +kernel⟩
theorem im_X8_unpack : Cond.instanceMethod yX8_unpack ∈ am_tbl := am_w 647 (by decide +kernel) rfl
theorem sl_X8_unpack : Cond.selects RX8 yX8_unpack yX8_unpack ∈ am_tbl := am_w 648 (by decide +kernel) rfl
def eX8_takeCode : am_Y := (yX8_takeCode, cX8_takeCode, 3, none, 0, 0)
theorem in_X8_takeCode : am_in eX8_takeCode 2 := ⟨am_wc 656 (by decide +kernel), iniX8, by decide, by decide, by decide +kernel⟩
theorem im_X8_takeCode : Cond.instanceMethod yX8_takeCode ∈ am_tbl := am_w 655 (by decide +kernel) rfl
theorem sl_X8_takeCode : Cond.selects RX8 yX8_takeCode yX8_takeCode ∈ am_tbl := am_w0 18 (by decide +kernel) rfl
def eX8_namesNothing : am_Y := (yX8_namesNothing, cX8_namesNothing, 2, (some .boolean), 0, 0)
theorem in_X8_namesNothing : am_in eX8_namesNothing 1 := ⟨am_wc 713 (by decide +kernel), iniX8, by decide, by decide, by decide +kernel⟩
theorem im_X8_namesNothing : Cond.instanceMethod yX8_namesNothing ∈ am_tbl := am_w 711 (by decide +kernel) rfl
theorem sl_X8_namesNothing : Cond.selects RX8 yX8_namesNothing yX8_namesNothing ∈ am_tbl := am_w 712 (by decide +kernel) rfl
def eX8_nameOne : am_Y := (yX8_nameOne, cX8_nameOne, 3, (some .boolean), 0, 0)
theorem in_X8_nameOne : am_in eX8_nameOne 2 := ⟨am_wc 802 (by decide +kernel), iniX8, by decide, by decide, by decide +kernel⟩
theorem im_X8_nameOne : Cond.instanceMethod yX8_nameOne ∈ am_tbl := am_w 800 (by decide +kernel) rfl
theorem sl_X8_nameOne : Cond.selects RX8 yX8_nameOne yX8_nameOne ∈ am_tbl := am_w 801 (by decide +kernel) rfl
def eX8_kindOf : am_Y := (yX8_kindOf, cX8_kindOf, 2, (some .int), 0, 0)
theorem in_X8_kindOf : am_in eX8_kindOf 1 := ⟨am_wc 688 (by decide +kernel), iniX8, by decide, by decide, by decide +kernel⟩
theorem im_X8_kindOf : Cond.instanceMethod yX8_kindOf ∈ am_tbl := am_w 686 (by decide +kernel) rfl
theorem sl_X8_kindOf : Cond.selects RX8 yX8_kindOf yX8_kindOf ∈ am_tbl := am_w 687 (by decide +kernel) rfl
def eX8_stateOf : am_Y := (yX8_stateOf, cX8_stateOf, 2, (some .int), 0, 0)
theorem in_X8_stateOf : am_in eX8_stateOf 1 := ⟨am_wc 684 (by decide +kernel), iniX8, by decide, by decide, by decide +kernel⟩
theorem im_X8_stateOf : Cond.instanceMethod yX8_stateOf ∈ am_tbl := am_w 682 (by decide +kernel) rfl
theorem sl_X8_stateOf : Cond.selects RX8 yX8_stateOf yX8_stateOf ∈ am_tbl := am_w 683 (by decide +kernel) rfl
def eX8_stateOfLent : am_Y := (yX8_stateOfLent, cX8_stateOfLent, 1, (some .int), 0, 0)
theorem in_X8_stateOfLent : am_in eX8_stateOfLent 0 := ⟨am_wc 697 (by decide +kernel), iniX8, by decide, by decide, by decide +kernel⟩
theorem im_X8_stateOfLent : Cond.instanceMethod yX8_stateOfLent ∈ am_tbl := am_w 695 (by decide +kernel) rfl
theorem sl_X8_stateOfLent : Cond.selects RX8 yX8_stateOfLent yX8_stateOfLent ∈ am_tbl := am_w 696 (by decide +kernel) rfl
def eX8_wrongAhead : am_Y := (yX8_wrongAhead, cX8_wrongAhead, 5, (some .int), 3, 67)
theorem in_X8_wrongAhead : am_in eX8_wrongAhead 1 := ⟨am_wc 705 (by decide +kernel), iniX8, by decide, by decide, by decide +kernel⟩
theorem im_X8_wrongAhead : Cond.instanceMethod yX8_wrongAhead ∈ am_tbl := am_w 703 (by decide +kernel) rfl
theorem sl_X8_wrongAhead : Cond.selects RX8 yX8_wrongAhead yX8_wrongAhead ∈ am_tbl := am_w 704 (by decide +kernel) rfl
def eX8_wrongUse : am_Y := (yX8_wrongUse, cX8_wrongUse, 4, (some .int), 2, 44)
theorem in_X8_wrongUse : am_in eX8_wrongUse 3 := ⟨am_wc 709 (by decide +kernel), iniX8, by decide, by decide, by decide +kernel⟩
theorem im_X8_wrongUse : Cond.instanceMethod yX8_wrongUse ∈ am_tbl := am_w 708 (by decide +kernel) rfl
theorem sl_X8_wrongUse : Cond.selects RX8 yX8_wrongUse yX8_wrongUse ∈ am_tbl := am_w0 25 (by decide +kernel) rfl
def eX8_wrongCall : am_Y := (yX8_wrongCall, cX8_wrongCall, 3, (some .int), 1, 21)
theorem in_X8_wrongCall : am_in eX8_wrongCall 2 := ⟨am_wc 718 (by decide +kernel), iniX8, by decide, by decide, by decide +kernel⟩
theorem im_X8_wrongCall : Cond.instanceMethod yX8_wrongCall ∈ am_tbl := am_w 717 (by decide +kernel) rfl
theorem sl_X8_wrongCall : Cond.selects RX8 yX8_wrongCall yX8_wrongCall ∈ am_tbl := am_w0 26 (by decide +kernel) rfl
def eX8_isLeftBy : am_Y := (yX8_isLeftBy, cX8_isLeftBy, 5, (some .boolean), 2, 43)
theorem in_X8_isLeftBy : am_in eX8_isLeftBy 3 := ⟨am_wc 722 (by decide +kernel), iniX8, by decide, by decide, by decide +kernel⟩
theorem im_X8_isLeftBy : Cond.instanceMethod yX8_isLeftBy ∈ am_tbl := am_w 721 (by decide +kernel) rfl
theorem sl_X8_isLeftBy : Cond.selects RX8 yX8_isLeftBy yX8_isLeftBy ∈ am_tbl := am_w0 27 (by decide +kernel) rfl
def eX8_mustBeNamed : am_Y := (yX8_mustBeNamed, cX8_mustBeNamed, 3, (some .boolean), 1, 21)
theorem in_X8_mustBeNamed : am_in eX8_mustBeNamed 2 := ⟨am_wc 680 (by decide +kernel), iniX8, by decide, by decide, by decide +kernel⟩
theorem im_X8_mustBeNamed : Cond.instanceMethod yX8_mustBeNamed ∈ am_tbl := am_w 679 (by decide +kernel) rfl
theorem sl_X8_mustBeNamed : Cond.selects RX8 yX8_mustBeNamed yX8_mustBeNamed ∈ am_tbl := am_w0 22 (by decide +kernel) rfl
def eX8_leavesThings : am_Y := (yX8_leavesThings, cX8_leavesThings, 3, (some .boolean), 2, 43)
theorem in_X8_leavesThings : am_in eX8_leavesThings 1 := ⟨am_wc 676 (by decide +kernel), iniX8, by decide, by decide, by decide +kernel⟩
theorem im_X8_leavesThings : Cond.instanceMethod yX8_leavesThings ∈ am_tbl := am_w 674 (by decide +kernel) rfl
theorem sl_X8_leavesThings : Cond.selects RX8 yX8_leavesThings yX8_leavesThings ∈ am_tbl := am_w 675 (by decide +kernel) rfl
def eX8_asksAhead : am_Y := (yX8_asksAhead, cX8_asksAhead, 4, (some .boolean), 2, 44)
theorem in_X8_asksAhead : am_in eX8_asksAhead 1 := ⟨am_wc 733 (by decide +kernel), iniX8, by decide, by decide, by decide +kernel⟩
theorem im_X8_asksAhead : Cond.instanceMethod yX8_asksAhead ∈ am_tbl := am_w 731 (by decide +kernel) rfl
theorem sl_X8_asksAhead : Cond.selects RX8 yX8_asksAhead yX8_asksAhead ∈ am_tbl := am_w 732 (by decide +kernel) rfl
def eX8_goOn : am_Y := (yX8_goOn, cX8_goOn, 9, (some .boolean), 3, 71)
theorem in_X8_goOn : am_in eX8_goOn 2 := ⟨am_wc 742 (by decide +kernel), iniX8, by decide, by decide, by decide +kernel⟩
theorem im_X8_goOn : Cond.instanceMethod yX8_goOn ∈ am_tbl := am_w 740 (by decide +kernel) rfl
theorem sl_X8_goOn : Cond.selects RX8 yX8_goOn yX8_goOn ∈ am_tbl := am_w 741 (by decide +kernel) rfl
def eX8_comeBack : am_Y := (yX8_comeBack, cX8_comeBack, 6, (some .boolean), 2, 45)
theorem in_X8_comeBack : am_in eX8_comeBack 3 := ⟨am_wc 660 (by decide +kernel), iniX8, by decide, by decide, by decide +kernel⟩
theorem im_X8_comeBack : Cond.instanceMethod yX8_comeBack ∈ am_tbl := am_w 658 (by decide +kernel) rfl
theorem sl_X8_comeBack : Cond.selects RX8 yX8_comeBack yX8_comeBack ∈ am_tbl := am_w 659 (by decide +kernel) rfl
def eX8_makeThing : am_Y := (yX8_makeThing, cX8_makeThing, 4, none, 1, 23)
theorem in_X8_makeThing : am_in eX8_makeThing 2 := ⟨am_wc 746 (by decide +kernel), iniX8, by decide, by decide, by decide +kernel⟩
theorem im_X8_makeThing : Cond.instanceMethod yX8_makeThing ∈ am_tbl := am_w 745 (by decide +kernel) rfl
theorem sl_X8_makeThing : Cond.selects RX8 yX8_makeThing yX8_makeThing ∈ am_tbl := am_w0 30 (by decide +kernel) rfl
def eX8_freeSlot : am_Y := (yX8_freeSlot, cX8_freeSlot, 4, (some .int), 0, 0)
theorem in_X8_freeSlot : am_in eX8_freeSlot 0 := ⟨am_wc 750 (by decide +kernel), iniX8, by decide, by decide, by decide +kernel⟩
theorem im_X8_freeSlot : Cond.instanceMethod yX8_freeSlot ∈ am_tbl := am_w 749 (by decide +kernel) rfl
theorem sl_X8_freeSlot : Cond.selects RX8 yX8_freeSlot yX8_freeSlot ∈ am_tbl := am_w0 31 (by decide +kernel) rfl
def eX8_useThing : am_Y := (yX8_useThing, cX8_useThing, 6, none, 2, 46)
theorem in_X8_useThing : am_in eX8_useThing 4 := ⟨am_wc 754 (by decide +kernel), iniX8, by decide, by decide, by decide +kernel⟩
theorem im_X8_useThing : Cond.instanceMethod yX8_useThing ∈ am_tbl := am_w 753 (by decide +kernel) rfl
theorem sl_X8_useThing : Cond.selects RX8 yX8_useThing yX8_useThing ∈ am_tbl := am_w0 32 (by decide +kernel) rfl
def eX8_modeOfTry : am_Y := (yX8_modeOfTry, cX8_modeOfTry, 3, (some .int), 0, 0)
theorem in_X8_modeOfTry : am_in eX8_modeOfTry 1 := ⟨am_wc 759 (by decide +kernel), iniX8, by decide, by decide, by decide +kernel⟩
theorem im_X8_modeOfTry : Cond.instanceMethod yX8_modeOfTry ∈ am_tbl := am_w 758 (by decide +kernel) rfl
theorem sl_X8_modeOfTry : Cond.selects RX8 yX8_modeOfTry yX8_modeOfTry ∈ am_tbl := am_w0 33 (by decide +kernel) rfl
def eX8_goOut : am_Y := (yX8_goOut, cX8_goOut, 4, (some .boolean), 1, 22)
theorem in_X8_goOut : am_in eX8_goOut 2 := ⟨am_wc 664 (by decide +kernel), iniX8, by decide, by decide, by decide +kernel⟩
theorem im_X8_goOut : Cond.instanceMethod yX8_goOut ∈ am_tbl := am_w 663 (by decide +kernel) rfl
theorem sl_X8_goOut : Cond.selects RX8 yX8_goOut yX8_goOut ∈ am_tbl := am_w0 19 (by decide +kernel) rfl
def eX8_comeTo : am_Y := (yX8_comeTo, cX8_comeTo, 3, none, 0, 0)
theorem in_X8_comeTo : am_in eX8_comeTo 2 := ⟨am_wc 668 (by decide +kernel), iniX8, by decide, by decide, by decide +kernel⟩
theorem im_X8_comeTo : Cond.instanceMethod yX8_comeTo ∈ am_tbl := am_w 667 (by decide +kernel) rfl
theorem sl_X8_comeTo : Cond.selects RX8 yX8_comeTo yX8_comeTo ∈ am_tbl := am_w0 20 (by decide +kernel) rfl
def eX9_init : am_Y := (yX9_init, cX9_init, 1, none, 3, 61)
theorem in_X9_init : am_in eX9_init 0 := ⟨am_wc 19 (by decide +kernel), iniX9, by decide, by decide, by decide +kernel⟩
theorem im_X9_init : Cond.instanceMethod yX9_init ∈ am_tbl := am_w 18 (by decide +kernel) rfl
def eX9_kind : am_Y := (yX9_kind, cX9_kind, 3, (some .int), 2, 45)
theorem in_X9_kind : am_in eX9_kind 2 := ⟨am_wc 351 (by decide +kernel), iniX9, by decide, by decide, by decide +kernel⟩
theorem im_X9_kind : Cond.instanceMethod yX9_kind ∈ am_tbl := am_w 349 (by decide +kernel) rfl
theorem sl_X9_kind : Cond.selects RX9 yX9_kind yX9_kind ∈ am_tbl := am_w 350 (by decide +kernel) rfl
def eX9_heir : am_Y := (yX9_heir, cX9_heir, 3, (some .int), 2, 48)
theorem in_X9_heir : am_in eX9_heir 2 := ⟨am_wc 363 (by decide +kernel), iniX9, by decide, by decide, by decide +kernel⟩
theorem im_X9_heir : Cond.instanceMethod yX9_heir ∈ am_tbl := am_w 361 (by decide +kernel) rfl
theorem sl_X9_heir : Cond.selects RX9 yX9_heir yX9_heir ∈ am_tbl := am_w 362 (by decide +kernel) rfl
def eX9_use : am_Y := (yX9_use, cX9_use, 6, (some .int), 2, 46)
theorem in_X9_use : am_in eX9_use 5 := ⟨am_wc 378 (by decide +kernel), iniX9, by decide, by decide, by decide +kernel⟩
theorem im_X9_use : Cond.instanceMethod yX9_use ∈ am_tbl := am_w 376 (by decide +kernel) rfl
theorem sl_X9_use : Cond.selects RX9 yX9_use yX9_use ∈ am_tbl := am_w 377 (by decide +kernel) rfl
def eX9_drop : am_Y := (yX9_drop, cX9_drop, 4, (some .int), 2, 46)
theorem in_X9_drop : am_in eX9_drop 3 := ⟨am_wc 402 (by decide +kernel), iniX9, by decide, by decide, by decide +kernel⟩
theorem im_X9_drop : Cond.instanceMethod yX9_drop ∈ am_tbl := am_w 400 (by decide +kernel) rfl
theorem sl_X9_drop : Cond.selects RX9 yX9_drop yX9_drop ∈ am_tbl := am_w 401 (by decide +kernel) rfl
def eX9_ends : am_Y := (yX9_ends, cX9_ends, 4, (some .int), 1, 21)
theorem in_X9_ends : am_in eX9_ends 2 := ⟨am_wc 406 (by decide +kernel), iniX9, by decide, by decide, by decide +kernel⟩
theorem im_X9_ends : Cond.instanceMethod yX9_ends ∈ am_tbl := am_w 404 (by decide +kernel) rfl
theorem sl_X9_ends : Cond.selects RX9 yX9_ends yX9_ends ∈ am_tbl := am_w 405 (by decide +kernel) rfl
def eX9_leads : am_Y := (yX9_leads, cX9_leads, 5, (some .int), 2, 46)
theorem in_X9_leads : am_in eX9_leads 4 := ⟨am_wc 410 (by decide +kernel), iniX9, by decide, by decide, by decide +kernel⟩
theorem im_X9_leads : Cond.instanceMethod yX9_leads ∈ am_tbl := am_w 408 (by decide +kernel) rfl
theorem sl_X9_leads : Cond.selects RX9 yX9_leads yX9_leads ∈ am_tbl := am_w 409 (by decide +kernel) rfl
def eX9_fits : am_Y := (yX9_fits, cX9_fits, 4, (some .int), 4, 97)
theorem in_X9_fits : am_in eX9_fits 2 := ⟨am_wc 418 (by decide +kernel), iniX9, by decide, by decide, by decide +kernel⟩
theorem im_X9_fits : Cond.instanceMethod yX9_fits ∈ am_tbl := am_w 416 (by decide +kernel) rfl
theorem sl_X9_fits : Cond.selects RX9 yX9_fits yX9_fits ∈ am_tbl := am_w 417 (by decide +kernel) rfl
def eX9_parts : am_Y := (yX9_parts, cX9_parts, 1, (some .int), 0, 0)
theorem in_X9_parts : am_in eX9_parts 0 := ⟨am_wc 448 (by decide +kernel), iniX9, by decide, by decide, by decide +kernel⟩
theorem im_X9_parts : Cond.instanceMethod yX9_parts ∈ am_tbl := am_w 446 (by decide +kernel) rfl
theorem sl_X9_parts : Cond.selects RX9 yX9_parts yX9_parts ∈ am_tbl := am_w 447 (by decide +kernel) rfl
def eX9_routine : am_Y := (yX9_routine, cX9_routine, 1, (some .int), 0, 0)
theorem in_X9_routine : am_in eX9_routine 0 := ⟨am_wc 452 (by decide +kernel), iniX9, by decide, by decide, by decide +kernel⟩
theorem im_X9_routine : Cond.instanceMethod yX9_routine ∈ am_tbl := am_w 450 (by decide +kernel) rfl
theorem sl_X9_routine : Cond.selects RX9 yX9_routine yX9_routine ∈ am_tbl := am_w 451 (by decide +kernel) rfl
def eX9_statement : am_Y := (yX9_statement, cX9_statement, 6, (some .int), 4, 81)
theorem in_X9_statement : am_in eX9_statement 4 := ⟨am_wc 456 (by decide +kernel), iniX9, by decide, by decide, by decide +kernel⟩
theorem im_X9_statement : Cond.instanceMethod yX9_statement ∈ am_tbl := am_w 454 (by decide +kernel) rfl
theorem sl_X9_statement : Cond.selects RX9 yX9_statement yX9_statement ∈ am_tbl := am_w 455 (by decide +kernel) rfl
def eX9_cut : am_Y := (yX9_cut, cX9_cut, 2, (some .int), 3, 64)
theorem in_X9_cut : am_in eX9_cut 1 := ⟨am_wc 521 (by decide +kernel), iniX9, by decide, by decide, by decide +kernel⟩
theorem im_X9_cut : Cond.instanceMethod yX9_cut ∈ am_tbl := am_w 519 (by decide +kernel) rfl
theorem sl_X9_cut : Cond.selects RX9 yX9_cut yX9_cut ∈ am_tbl := am_w 520 (by decide +kernel) rfl
def eX9_told : am_Y := (yX9_told, cX9_told, 4, (some .int), 1, 22)
theorem in_X9_told : am_in eX9_told 3 := ⟨am_wc 529 (by decide +kernel), iniX9, by decide, by decide, by decide +kernel⟩
theorem im_X9_told : Cond.instanceMethod yX9_told ∈ am_tbl := am_w 527 (by decide +kernel) rfl
theorem sl_X9_told : Cond.selects RX9 yX9_told yX9_told ∈ am_tbl := am_w 528 (by decide +kernel) rfl
def eX9_open : am_Y := (yX9_open, cX9_open, 2, (some .int), 1, 21)
theorem in_X9_open : am_in eX9_open 1 := ⟨am_wc 537 (by decide +kernel), iniX9, by decide, by decide, by decide +kernel⟩
theorem im_X9_open : Cond.instanceMethod yX9_open ∈ am_tbl := am_w 535 (by decide +kernel) rfl
theorem sl_X9_open : Cond.selects RX9 yX9_open yX9_open ∈ am_tbl := am_w 536 (by decide +kernel) rfl
def eX9_judge : am_Y := (yX9_judge, cX9_judge, 1, (some .int), 8, 194)
theorem in_X9_judge : am_in eX9_judge 0 := ⟨am_wc 541 (by decide +kernel), iniX9, by decide, by decide, by decide +kernel⟩
theorem im_X9_judge : Cond.instanceMethod yX9_judge ∈ am_tbl := am_w 539 (by decide +kernel) rfl
theorem sl_X9_judge : Cond.selects RX9 yX9_judge yX9_judge ∈ am_tbl := am_w 540 (by decide +kernel) rfl
def eX9_wrong : am_Y := (yX9_wrong, cX9_wrong, 3, (some .int), 1, 25)
theorem in_X9_wrong : am_in eX9_wrong 2 := ⟨am_wc 767 (by decide +kernel), iniX9, by decide, by decide, by decide +kernel⟩
theorem im_X9_wrong : Cond.instanceMethod yX9_wrong ∈ am_tbl := am_w 765 (by decide +kernel) rfl
theorem sl_X9_wrong : Cond.selects RX9 yX9_wrong yX9_wrong ∈ am_tbl := am_w 766 (by decide +kernel) rfl
def eX9_may : am_Y := (yX9_may, cX9_may, 4, (some .int), 5, 120)
theorem in_X9_may : am_in eX9_may 3 := ⟨am_wc 775 (by decide +kernel), iniX9, by decide, by decide, by decide +kernel⟩
theorem im_X9_may : Cond.instanceMethod yX9_may ∈ am_tbl := am_w 773 (by decide +kernel) rfl
theorem sl_X9_may : Cond.selects RX9 yX9_may yX9_may ∈ am_tbl := am_w 774 (by decide +kernel) rfl
def eX9_one : am_Y := (yX9_one, cX9_one, 5, (some .int), 5, 122)
theorem in_X9_one : am_in eX9_one 4 := ⟨am_wc 794 (by decide +kernel), iniX9, by decide, by decide, by decide +kernel⟩
theorem im_X9_one : Cond.instanceMethod yX9_one ∈ am_tbl := am_w 792 (by decide +kernel) rfl
theorem sl_X9_one : Cond.selects RX9 yX9_one yX9_one ∈ am_tbl := am_w 793 (by decide +kernel) rfl
def eX9_paper : am_Y := (yX9_paper, cX9_paper, 5, (some .int), 2, 43)
theorem in_X9_paper : am_in eX9_paper 4 := ⟨am_wc 806 (by decide +kernel), iniX9, by decide, by decide, by decide +kernel⟩
theorem im_X9_paper : Cond.instanceMethod yX9_paper ∈ am_tbl := am_w 804 (by decide +kernel) rfl
theorem sl_X9_paper : Cond.selects RX9 yX9_paper yX9_paper ∈ am_tbl := am_w 805 (by decide +kernel) rfl
def eX9_count : am_Y := (yX9_count, cX9_count, 2, (some .int), 0, 0)
theorem in_X9_count : am_in eX9_count 1 := ⟨am_wc 815 (by decide +kernel), iniX9, by decide, by decide, by decide +kernel⟩
theorem im_X9_count : Cond.instanceMethod yX9_count ∈ am_tbl := am_w 813 (by decide +kernel) rfl
theorem sl_X9_count : Cond.selects RX9 yX9_count yX9_count ∈ am_tbl := am_w 814 (by decide +kernel) rfl
def eX9_run : am_Y := (yX9_run, cX9_run, 4, (some .int), 6, 150)
theorem in_X9_run : am_in eX9_run 2 := ⟨am_wc 819 (by decide +kernel), iniX9, by decide, by decide, by decide +kernel⟩
theorem im_X9_run : Cond.instanceMethod yX9_run ∈ am_tbl := am_w 817 (by decide +kernel) rfl
theorem sl_X9_run : Cond.selects RX9 yX9_run yX9_run ∈ am_tbl := am_w 818 (by decide +kernel) rfl
def eX9_ended : am_Y := (yX9_ended, cX9_ended, 2, (some .int), 0, 0)
theorem in_X9_ended : am_in eX9_ended 1 := ⟨am_wc 864 (by decide +kernel), iniX9, by decide, by decide, by decide +kernel⟩
theorem im_X9_ended : Cond.instanceMethod yX9_ended ∈ am_tbl := am_w 862 (by decide +kernel) rfl
theorem sl_X9_ended : Cond.selects RX9 yX9_ended yX9_ended ∈ am_tbl := am_w 863 (by decide +kernel) rfl
def eX9_breaks : am_Y := (yX9_breaks, cX9_breaks, 5, (some .int), 6, 150)
theorem in_X9_breaks : am_in eX9_breaks 1 := ⟨am_wc 868 (by decide +kernel), iniX9, by decide, by decide, by decide +kernel⟩
theorem im_X9_breaks : Cond.instanceMethod yX9_breaks ∈ am_tbl := am_w 866 (by decide +kernel) rfl
theorem sl_X9_breaks : Cond.selects RX9 yX9_breaks yX9_breaks ∈ am_tbl := am_w 867 (by decide +kernel) rfl
def eX9_digest : am_Y := (yX9_digest, cX9_digest, 4, (some .long), 3, 72)
theorem in_X9_digest : am_in eX9_digest 0 := ⟨am_wc 872 (by decide +kernel), iniX9, by decide, by decide, by decide +kernel⟩
theorem im_X9_digest : Cond.instanceMethod yX9_digest ∈ am_tbl := am_w 870 (by decide +kernel) rfl
theorem sl_X9_digest : Cond.selects RX9 yX9_digest yX9_digest ∈ am_tbl := am_w 871 (by decide +kernel) rfl
def eX9_isName : am_Y := (yX9_isName, cX9_isName, 1, (some .boolean), 0, 0)
theorem in_X9_isName : am_in eX9_isName 1 := ⟨am_wc 386 (by decide +kernel), iniX9, by decide, by decide, by decide +kernel⟩
theorem st_X9_isName : Cond.static yX9_isName ∈ am_tbl := am_w 385 (by decide +kernel) rfl
def eX9_isVariable : am_Y := (yX9_isVariable, cX9_isVariable, 1, (some .boolean), 0, 0)
theorem in_X9_isVariable : am_in eX9_isVariable 1 := ⟨am_wc 478 (by decide +kernel), iniX9, by decide, by decide, by decide +kernel⟩
theorem st_X9_isVariable : Cond.static yX9_isVariable ∈ am_tbl := am_w 477 (by decide +kernel) rfl
def eX9_areStates : am_Y := (yX9_areStates, cX9_areStates, 2, (some .boolean), 0, 0)
theorem in_X9_areStates : am_in eX9_areStates 2 := ⟨am_wc 354 (by decide +kernel), iniX9, by decide, by decide, by decide +kernel⟩
theorem st_X9_areStates : Cond.static yX9_areStates ∈ am_tbl := am_w 353 (by decide +kernel) rfl
def eX9_isCall : am_Y := (yX9_isCall, cX9_isCall, 1, (some .boolean), 0, 0)
theorem in_X9_isCall : am_in eX9_isCall 1 := ⟨am_wc 475 (by decide +kernel), iniX9, by decide, by decide, by decide +kernel⟩
theorem st_X9_isCall : Cond.static yX9_isCall ∈ am_tbl := am_w 474 (by decide +kernel) rfl
def eX9_usesThing : am_Y := (yX9_usesThing, cX9_usesThing, 1, (some .boolean), 0, 0)
theorem in_X9_usesThing : am_in eX9_usesThing 1 := ⟨am_wc 472 (by decide +kernel), iniX9, by decide, by decide, by decide +kernel⟩
theorem st_X9_usesThing : Cond.static yX9_usesThing ∈ am_tbl := am_w 471 (by decide +kernel) rfl
def eX9_opensBlock : am_Y := (yX9_opensBlock, cX9_opensBlock, 1, (some .boolean), 0, 0)
theorem in_X9_opensBlock : am_in eX9_opensBlock 1 := ⟨am_wc 489 (by decide +kernel), iniX9, by decide, by decide, by decide +kernel⟩
theorem st_X9_opensBlock : Cond.static yX9_opensBlock ∈ am_tbl := am_w 488 (by decide +kernel) rfl
def eX9_looksAtFirst : am_Y := (yX9_looksAtFirst, cX9_looksAtFirst, 1, (some .boolean), 2, 40)
theorem in_X9_looksAtFirst : am_in eX9_looksAtFirst 1 := ⟨am_wc 466 (by decide +kernel), iniX9, by decide, by decide, by decide +kernel⟩
theorem st_X9_looksAtFirst : Cond.static yX9_looksAtFirst ∈ am_tbl := am_w 465 (by decide +kernel) rfl
def eX9_looksAtSecond : am_Y := (yX9_looksAtSecond, cX9_looksAtSecond, 1, (some .boolean), 1, 20)
theorem in_X9_looksAtSecond : am_in eX9_looksAtSecond 1 := ⟨am_wc 469 (by decide +kernel), iniX9, by decide, by decide, by decide +kernel⟩
theorem st_X9_looksAtSecond : Cond.static yX9_looksAtSecond ∈ am_tbl := am_w 468 (by decide +kernel) rfl
def eX9_isFirst : am_Y := (yX9_isFirst, cX9_isFirst, 2, (some .boolean), 3, 60)
theorem in_X9_isFirst : am_in eX9_isFirst 2 := ⟨am_wc 463 (by decide +kernel), iniX9, by decide, by decide, by decide +kernel⟩
theorem st_X9_isFirst : Cond.static yX9_isFirst ∈ am_tbl := am_w 462 (by decide +kernel) rfl
def eX9_isSecond : am_Y := (yX9_isSecond, cX9_isSecond, 3, (some .boolean), 2, 40)
theorem in_X9_isSecond : am_in eX9_isSecond 2 := ⟨am_wc 482 (by decide +kernel), iniX9, by decide, by decide, by decide +kernel⟩
theorem im_X9_isSecond : Cond.instanceMethod yX9_isSecond ∈ am_tbl := am_w 481 (by decide +kernel) rfl
theorem sl_X9_isSecond : Cond.selects RX9 yX9_isSecond yX9_isSecond ∈ am_tbl := am_w0 3 (by decide +kernel) rfl
def eX9_caseCode : am_Y := (yX9_caseCode, cX9_caseCode, 4, (some .int), 0, 0)
theorem in_X9_caseCode : am_in eX9_caseCode 4 := ⟨am_wc 570 (by decide +kernel), iniX9, by decide, by decide, by decide +kernel⟩
theorem st_X9_caseCode : Cond.static yX9_caseCode ∈ am_tbl := am_w 569 (by decide +kernel) rfl
def eX10_in : am_Y := (yX10_in, cX10_in, 3, (some .boolean), 0, 0)
theorem in_X10_in : am_in eX10_in 3 := ⟨am_wc 1088 (by decide +kernel), iniX10, by decide, by decide, by decide +kernel⟩
theorem st_X10_in : Cond.static yX10_in ∈ am_tbl := am_w 1087 (by decide +kernel) rfl
def eX10_init : am_Y := (yX10_init, cX10_init, 2, none, 1, 20)
theorem in_X10_init : am_in eX10_init 0 := ⟨am_wc 890 (by decide +kernel), iniX10, by decide, by decide, by decide +kernel⟩
theorem im_X10_init : Cond.instanceMethod yX10_init ∈ am_tbl := am_w 889 (by decide +kernel) rfl
def eX10_isKind : am_Y := (yX10_isKind, cX10_isKind, 2, (some .boolean), 1, 22)
theorem in_X10_isKind : am_in eX10_isKind 1 := ⟨am_wc 1096 (by decide +kernel), iniX10, by decide, by decide, by decide +kernel⟩
theorem im_X10_isKind : Cond.instanceMethod yX10_isKind ∈ am_tbl := am_w 1095 (by decide +kernel) rfl
theorem sl_X10_isKind : Cond.selects RX10 yX10_isKind yX10_isKind ∈ am_tbl := am_w0 42 (by decide +kernel) rfl
def eX10_isState : am_Y := (yX10_isState, cX10_isState, 3, (some .boolean), 2, 43)
theorem in_X10_isState : am_in eX10_isState 2 := ⟨am_wc 1104 (by decide +kernel), iniX10, by decide, by decide, by decide +kernel⟩
theorem im_X10_isState : Cond.instanceMethod yX10_isState ∈ am_tbl := am_w 1103 (by decide +kernel) rfl
theorem sl_X10_isState : Cond.selects RX10 yX10_isState yX10_isState ∈ am_tbl := am_w0 43 (by decide +kernel) rfl
def eX10_useAt : am_Y := (yX10_useAt, cX10_useAt, 3, (some .int), 0, 0)
theorem in_X10_useAt : am_in eX10_useAt 3 := ⟨am_wc 1111 (by decide +kernel), iniX10, by decide, by decide, by decide +kernel⟩
theorem st_X10_useAt : Cond.static yX10_useAt ∈ am_tbl := am_w 1110 (by decide +kernel) rfl
def eX10_has : am_Y := (yX10_has, cX10_has, 4, (some .boolean), 1, 22)
theorem in_X10_has : am_in eX10_has 3 := ⟨am_wc 1108 (by decide +kernel), iniX10, by decide, by decide, by decide +kernel⟩
theorem im_X10_has : Cond.instanceMethod yX10_has ∈ am_tbl := am_w 1107 (by decide +kernel) rfl
theorem sl_X10_has : Cond.selects RX10 yX10_has yX10_has ∈ am_tbl := am_w0 44 (by decide +kernel) rfl
def eX10_asks : am_Y := (yX10_asks, cX10_asks, 4, (some .boolean), 1, 22)
theorem in_X10_asks : am_in eX10_asks 3 := ⟨am_wc 1151 (by decide +kernel), iniX10, by decide, by decide, by decide +kernel⟩
theorem im_X10_asks : Cond.instanceMethod yX10_asks ∈ am_tbl := am_w 1150 (by decide +kernel) rfl
theorem sl_X10_asks : Cond.selects RX10 yX10_asks yX10_asks ∈ am_tbl := am_w0 50 (by decide +kernel) rfl
def eX10_led : am_Y := (yX10_led, cX10_led, 6, (some .int), 1, 22)
theorem in_X10_led : am_in eX10_led 4 := ⟨am_wc 1131 (by decide +kernel), iniX10, by decide, by decide, by decide +kernel⟩
theorem im_X10_led : Cond.instanceMethod yX10_led ∈ am_tbl := am_w 1130 (by decide +kernel) rfl
theorem sl_X10_led : Cond.selects RX10 yX10_led yX10_led ∈ am_tbl := am_w0 46 (by decide +kernel) rfl
def eX10_isEnd : am_Y := (yX10_isEnd, cX10_isEnd, 3, (some .boolean), 0, 0)
theorem in_X10_isEnd : am_in eX10_isEnd 2 := ⟨am_wc 1147 (by decide +kernel), iniX10, by decide, by decide, by decide +kernel⟩
theorem im_X10_isEnd : Cond.instanceMethod yX10_isEnd ∈ am_tbl := am_w 1146 (by decide +kernel) rfl
theorem sl_X10_isEnd : Cond.selects RX10 yX10_isEnd yX10_isEnd ∈ am_tbl := am_w0 49 (by decide +kernel) rfl
def eX10_kind : am_Y := (yX10_kind, cX10_kind, 4, (some .int), 1, 22)
theorem in_X10_kind : am_in eX10_kind 2 := ⟨am_wc 1085 (by decide +kernel), iniX10, by decide, by decide, by decide +kernel⟩
theorem im_X10_kind : Cond.instanceMethod yX10_kind ∈ am_tbl := am_w 1083 (by decide +kernel) rfl
theorem sl_X10_kind : Cond.selects RX10 yX10_kind yX10_kind ∈ am_tbl := am_w 1084 (by decide +kernel) rfl
def eX10_heir : am_Y := (yX10_heir, cX10_heir, 4, (some .int), 2, 43)
theorem in_X10_heir : am_in eX10_heir 2 := ⟨am_wc 1092 (by decide +kernel), iniX10, by decide, by decide, by decide +kernel⟩
theorem im_X10_heir : Cond.instanceMethod yX10_heir ∈ am_tbl := am_w 1090 (by decide +kernel) rfl
theorem sl_X10_heir : Cond.selects RX10 yX10_heir yX10_heir ∈ am_tbl := am_w 1091 (by decide +kernel) rfl
def eX10_use : am_Y := (yX10_use, cX10_use, 6, (some .int), 3, 65)
theorem in_X10_use : am_in eX10_use 5 := ⟨am_wc 1100 (by decide +kernel), iniX10, by decide, by decide, by decide +kernel⟩
theorem im_X10_use : Cond.instanceMethod yX10_use ∈ am_tbl := am_w 1098 (by decide +kernel) rfl
theorem sl_X10_use : Cond.selects RX10 yX10_use yX10_use ∈ am_tbl := am_w 1099 (by decide +kernel) rfl
def eX10_drop : am_Y := (yX10_drop, cX10_drop, 4, (some .int), 3, 65)
theorem in_X10_drop : am_in eX10_drop 3 := ⟨am_wc 1115 (by decide +kernel), iniX10, by decide, by decide, by decide +kernel⟩
theorem im_X10_drop : Cond.instanceMethod yX10_drop ∈ am_tbl := am_w 1113 (by decide +kernel) rfl
theorem sl_X10_drop : Cond.selects RX10 yX10_drop yX10_drop ∈ am_tbl := am_w 1114 (by decide +kernel) rfl
def eX10_ends : am_Y := (yX10_ends, cX10_ends, 4, (some .int), 2, 43)
theorem in_X10_ends : am_in eX10_ends 2 := ⟨am_wc 1119 (by decide +kernel), iniX10, by decide, by decide, by decide +kernel⟩
theorem im_X10_ends : Cond.instanceMethod yX10_ends ∈ am_tbl := am_w 1117 (by decide +kernel) rfl
theorem sl_X10_ends : Cond.selects RX10 yX10_ends yX10_ends ∈ am_tbl := am_w 1118 (by decide +kernel) rfl
def eX10_leadsTo : am_Y := (yX10_leadsTo, cX10_leadsTo, 5, (some .int), 2, 47)
theorem in_X10_leadsTo : am_in eX10_leadsTo 4 := ⟨am_wc 1127 (by decide +kernel), iniX10, by decide, by decide, by decide +kernel⟩
theorem im_X10_leadsTo : Cond.instanceMethod yX10_leadsTo ∈ am_tbl := am_w 1126 (by decide +kernel) rfl
theorem sl_X10_leadsTo : Cond.selects RX10 yX10_leadsTo yX10_leadsTo ∈ am_tbl := am_w0 45 (by decide +kernel) rfl
def eX10_leads : am_Y := (yX10_leads, cX10_leads, 5, (some .int), 3, 71)
theorem in_X10_leads : am_in eX10_leads 4 := ⟨am_wc 1123 (by decide +kernel), iniX10, by decide, by decide, by decide +kernel⟩
theorem im_X10_leads : Cond.instanceMethod yX10_leads ∈ am_tbl := am_w 1121 (by decide +kernel) rfl
theorem sl_X10_leads : Cond.selects RX10 yX10_leads yX10_leads ∈ am_tbl := am_w 1122 (by decide +kernel) rfl
def eX10_isParted : am_Y := (yX10_isParted, cX10_isParted, 7, (some .boolean), 2, 45)
theorem in_X10_isParted : am_in eX10_isParted 4 := ⟨am_wc 1143 (by decide +kernel), iniX10, by decide, by decide, by decide +kernel⟩
theorem im_X10_isParted : Cond.instanceMethod yX10_isParted ∈ am_tbl := am_w 1142 (by decide +kernel) rfl
theorem sl_X10_isParted : Cond.selects RX10 yX10_isParted yX10_isParted ∈ am_tbl := am_w0 48 (by decide +kernel) rfl
def eX10_partedAt : am_Y := (yX10_partedAt, cX10_partedAt, 10, (some .int), 3, 71)
theorem in_X10_partedAt : am_in eX10_partedAt 2 := ⟨am_wc 1139 (by decide +kernel), iniX10, by decide, by decide, by decide +kernel⟩
theorem im_X10_partedAt : Cond.instanceMethod yX10_partedAt ∈ am_tbl := am_w 1138 (by decide +kernel) rfl
theorem sl_X10_partedAt : Cond.selects RX10 yX10_partedAt yX10_partedAt ∈ am_tbl := am_w0 47 (by decide +kernel) rfl
def eX10_fits : am_Y := (yX10_fits, cX10_fits, 4, (some .int), 4, 100)
theorem in_X10_fits : am_in eX10_fits 2 := ⟨am_wc 1135 (by decide +kernel), iniX10, by decide, by decide, by decide +kernel⟩
theorem im_X10_fits : Cond.instanceMethod yX10_fits ∈ am_tbl := am_w 1133 (by decide +kernel) rfl
theorem sl_X10_fits : Cond.selects RX10 yX10_fits yX10_fits ∈ am_tbl := am_w 1134 (by decide +kernel) rfl
def eX10_parts : am_Y := (yX10_parts, cX10_parts, 1, (some .int), 0, 0)
theorem in_X10_parts : am_in eX10_parts 0 := ⟨am_wc 1155 (by decide +kernel), iniX10, by decide, by decide, by decide +kernel⟩
theorem im_X10_parts : Cond.instanceMethod yX10_parts ∈ am_tbl := am_w 1153 (by decide +kernel) rfl
theorem sl_X10_parts : Cond.selects RX10 yX10_parts yX10_parts ∈ am_tbl := am_w 1154 (by decide +kernel) rfl
def eX10_opens : am_Y := (yX10_opens, cX10_opens, 1, (some .boolean), 1, 22)
theorem in_X10_opens : am_in eX10_opens 1 := ⟨am_wc 1185 (by decide +kernel), iniX10, by decide, by decide, by decide +kernel⟩
theorem st_X10_opens : Cond.static yX10_opens ∈ am_tbl := am_w 1184 (by decide +kernel) rfl
def eX10_isVariable : am_Y := (yX10_isVariable, cX10_isVariable, 1, (some .boolean), 1, 22)
theorem in_X10_isVariable : am_in eX10_isVariable 1 := ⟨am_wc 1174 (by decide +kernel), iniX10, by decide, by decide, by decide +kernel⟩
theorem st_X10_isVariable : Cond.static yX10_isVariable ∈ am_tbl := am_w 1173 (by decide +kernel) rfl
def eX10_hasA : am_Y := (yX10_hasA, cX10_hasA, 1, (some .boolean), 1, 22)
theorem in_X10_hasA : am_in eX10_hasA 1 := ⟨am_wc 1188 (by decide +kernel), iniX10, by decide, by decide, by decide +kernel⟩
theorem st_X10_hasA : Cond.static yX10_hasA ∈ am_tbl := am_w 1187 (by decide +kernel) rfl
def eX10_hasB : am_Y := (yX10_hasB, cX10_hasB, 1, (some .boolean), 2, 42)
theorem in_X10_hasB : am_in eX10_hasB 1 := ⟨am_wc 1191 (by decide +kernel), iniX10, by decide, by decide, by decide +kernel⟩
theorem st_X10_hasB : Cond.static yX10_hasB ∈ am_tbl := am_w 1190 (by decide +kernel) rfl
def eX10_isRight : am_Y := (yX10_isRight, cX10_isRight, 4, (some .boolean), 2, 43)
theorem in_X10_isRight : am_in eX10_isRight 3 := ⟨am_wc 1171 (by decide +kernel), iniX10, by decide, by decide, by decide +kernel⟩
theorem im_X10_isRight : Cond.instanceMethod yX10_isRight ∈ am_tbl := am_w 1170 (by decide +kernel) rfl
theorem sl_X10_isRight : Cond.selects RX10 yX10_isRight yX10_isRight ∈ am_tbl := am_w0 52 (by decide +kernel) rfl
def eX10_walk : am_Y := (yX10_walk, cX10_walk, 5, none, 2, 42)
theorem in_X10_walk : am_in eX10_walk 1 := ⟨am_wc 1182 (by decide +kernel), iniX10, by decide, by decide, by decide +kernel⟩
theorem im_X10_walk : Cond.instanceMethod yX10_walk ∈ am_tbl := am_w 1181 (by decide +kernel) rfl
theorem sl_X10_walk : Cond.selects RX10 yX10_walk yX10_walk ∈ am_tbl := am_w0 54 (by decide +kernel) rfl
def eX10_mayStand : am_Y := (yX10_mayStand, cX10_mayStand, 4, (some .boolean), 3, 66)
theorem in_X10_mayStand : am_in eX10_mayStand 2 := ⟨am_wc 1178 (by decide +kernel), iniX10, by decide, by decide, by decide +kernel⟩
theorem im_X10_mayStand : Cond.instanceMethod yX10_mayStand ∈ am_tbl := am_w 1177 (by decide +kernel) rfl
theorem sl_X10_mayStand : Cond.selects RX10 yX10_mayStand yX10_mayStand ∈ am_tbl := am_w0 53 (by decide +kernel) rfl
def eX10_isRoutine : am_Y := (yX10_isRoutine, cX10_isRoutine, 2, (some .boolean), 1, 22)
theorem in_X10_isRoutine : am_in eX10_isRoutine 1 := ⟨am_wc 1167 (by decide +kernel), iniX10, by decide, by decide, by decide +kernel⟩
theorem im_X10_isRoutine : Cond.instanceMethod yX10_isRoutine ∈ am_tbl := am_w 1166 (by decide +kernel) rfl
theorem sl_X10_isRoutine : Cond.selects RX10 yX10_isRoutine yX10_isRoutine ∈ am_tbl := am_w0 51 (by decide +kernel) rfl
def eX10_routine : am_Y := (yX10_routine, cX10_routine, 1, (some .int), 0, 0)
theorem in_X10_routine : am_in eX10_routine 0 := ⟨am_wc 1159 (by decide +kernel), iniX10, by decide, by decide, by decide +kernel⟩
theorem im_X10_routine : Cond.instanceMethod yX10_routine ∈ am_tbl := am_w 1157 (by decide +kernel) rfl
theorem sl_X10_routine : Cond.selects RX10 yX10_routine yX10_routine ∈ am_tbl := am_w 1158 (by decide +kernel) rfl
def eX10_statement : am_Y := (yX10_statement, cX10_statement, 6, (some .int), 4, 89)
theorem in_X10_statement : am_in eX10_statement 4 := ⟨am_wc 1163 (by decide +kernel), iniX10, by decide, by decide, by decide +kernel⟩
theorem im_X10_statement : Cond.instanceMethod yX10_statement ∈ am_tbl := am_w 1161 (by decide +kernel) rfl
theorem sl_X10_statement : Cond.selects RX10 yX10_statement yX10_statement ∈ am_tbl := am_w 1162 (by decide +kernel) rfl
def eX10_cut : am_Y := (yX10_cut, cX10_cut, 2, (some .int), 2, 43)
theorem in_X10_cut : am_in eX10_cut 1 := ⟨am_wc 1195 (by decide +kernel), iniX10, by decide, by decide, by decide +kernel⟩
theorem im_X10_cut : Cond.instanceMethod yX10_cut ∈ am_tbl := am_w 1193 (by decide +kernel) rfl
theorem sl_X10_cut : Cond.selects RX10 yX10_cut yX10_cut ∈ am_tbl := am_w 1194 (by decide +kernel) rfl
def eX10_toldOf : am_Y := (yX10_toldOf, cX10_toldOf, 5, (some .int), 0, 0)
theorem in_X10_toldOf : am_in eX10_toldOf 3 := ⟨am_wc 1203 (by decide +kernel), iniX10, by decide, by decide, by decide +kernel⟩
theorem im_X10_toldOf : Cond.instanceMethod yX10_toldOf ∈ am_tbl := am_w 1202 (by decide +kernel) rfl
theorem sl_X10_toldOf : Cond.selects RX10 yX10_toldOf yX10_toldOf ∈ am_tbl := am_w0 55 (by decide +kernel) rfl
def eX10_told : am_Y := (yX10_told, cX10_told, 4, (some .int), 2, 43)
theorem in_X10_told : am_in eX10_told 3 := ⟨am_wc 1199 (by decide +kernel), iniX10, by decide, by decide, by decide +kernel⟩
theorem im_X10_told : Cond.instanceMethod yX10_told ∈ am_tbl := am_w 1197 (by decide +kernel) rfl
theorem sl_X10_told : Cond.selects RX10 yX10_told yX10_told ∈ am_tbl := am_w 1198 (by decide +kernel) rfl
def eX10_open : am_Y := (yX10_open, cX10_open, 2, (some .int), 3, 66)
theorem in_X10_open : am_in eX10_open 1 := ⟨am_wc 1207 (by decide +kernel), iniX10, by decide, by decide, by decide +kernel⟩
theorem im_X10_open : Cond.instanceMethod yX10_open ∈ am_tbl := am_w 1205 (by decide +kernel) rfl
theorem sl_X10_open : Cond.selects RX10 yX10_open yX10_open ∈ am_tbl := am_w 1206 (by decide +kernel) rfl
def eX10_isWhole : am_Y := (yX10_isWhole, cX10_isWhole, 5, (some .boolean), 3, 66)
theorem in_X10_isWhole : am_in eX10_isWhole 0 := ⟨am_wc 1215 (by decide +kernel), iniX10, by decide, by decide, by decide +kernel⟩
theorem im_X10_isWhole : Cond.instanceMethod yX10_isWhole ∈ am_tbl := am_w 1214 (by decide +kernel) rfl
theorem sl_X10_isWhole : Cond.selects RX10 yX10_isWhole yX10_isWhole ∈ am_tbl := am_w0 56 (by decide +kernel) rfl
def eX10_tryAround : am_Y := (yX10_tryAround, cX10_tryAround, 6, (some .int), 0, 0)
theorem in_X10_tryAround : am_in eX10_tryAround 2 := ⟨am_wc 1308 (by decide +kernel), iniX10, by decide, by decide, by decide +kernel⟩
theorem im_X10_tryAround : Cond.instanceMethod yX10_tryAround ∈ am_tbl := am_w 1307 (by decide +kernel) rfl
theorem sl_X10_tryAround : Cond.selects RX10 yX10_tryAround yX10_tryAround ∈ am_tbl := am_w0 78 (by decide +kernel) rfl
def eX10_bits : am_Y := (yX10_bits, cX10_bits, 4, (some .long), 0, 0)
theorem in_X10_bits : am_in eX10_bits 3 := ⟨am_wc 1244 (by decide +kernel), iniX10, by decide, by decide, by decide +kernel⟩
theorem st_X10_bits : Cond.static yX10_bits ∈ am_tbl := am_w 1243 (by decide +kernel) rfl
def eX10_unpack : am_Y := (yX10_unpack, cX10_unpack, 4, none, 1, 23)
theorem in_X10_unpack : am_in eX10_unpack 1 := ⟨am_wc 1241 (by decide +kernel), iniX10, by decide, by decide, by decide +kernel⟩
theorem im_X10_unpack : Cond.instanceMethod yX10_unpack ∈ am_tbl := am_w 1240 (by decide +kernel) rfl
theorem sl_X10_unpack : Cond.selects RX10 yX10_unpack yX10_unpack ∈ am_tbl := am_w0 62 (by decide +kernel) rfl
def eX10_pack : am_Y := (yX10_pack, cX10_pack, 5, (some .long), 0, 0)
theorem in_X10_pack : am_in eX10_pack 0 := ⟨am_wc 1231 (by decide +kernel), iniX10, by decide, by decide, by decide +kernel⟩
theorem im_X10_pack : Cond.instanceMethod yX10_pack ∈ am_tbl := am_w 1230 (by decide +kernel) rfl
theorem sl_X10_pack : Cond.selects RX10 yX10_pack yX10_pack ∈ am_tbl := am_w0 60 (by decide +kernel) rfl
def eX10_add : am_Y := (yX10_add, cX10_add, 10, none, 1, 24)
theorem in_X10_add : am_in eX10_add 2 := ⟨am_wc 1227 (by decide +kernel), iniX10, by decide, by decide, by decide +kernel⟩
theorem im_X10_add : Cond.instanceMethod yX10_add ∈ am_tbl := am_w 1226 (by decide +kernel) rfl
theorem sl_X10_add : Cond.selects RX10 yX10_add yX10_add ∈ am_tbl := am_w0 59 (by decide +kernel) rfl
def eX10_caseOf : am_Y := (yX10_caseOf, cX10_caseOf, 6, (some .int), 0, 0)
theorem in_X10_caseOf : am_in eX10_caseOf 4 := ⟨am_wc 1223 (by decide +kernel), iniX10, by decide, by decide, by decide +kernel⟩
theorem im_X10_caseOf : Cond.instanceMethod yX10_caseOf ∈ am_tbl := am_w 1222 (by decide +kernel) rfl
theorem sl_X10_caseOf : Cond.selects RX10 yX10_caseOf yX10_caseOf ∈ am_tbl := am_w0 58 (by decide +kernel) rfl
def eX10_calls : am_Y := (yX10_calls, cX10_calls, 7, (some .int), 2, 53)
theorem in_X10_calls : am_in eX10_calls 4 := ⟨am_wc 1219 (by decide +kernel), iniX10, by decide, by decide, by decide +kernel⟩
theorem im_X10_calls : Cond.instanceMethod yX10_calls ∈ am_tbl := am_w 1218 (by decide +kernel) rfl
theorem sl_X10_calls : Cond.selects RX10 yX10_calls yX10_calls ∈ am_tbl := am_w0 57 (by decide +kernel) rfl
def eX10_moves : am_Y := (yX10_moves, cX10_moves, 8, none, 0, 0)
theorem in_X10_moves : am_in eX10_moves 2 := ⟨am_wc 1276 (by decide +kernel), iniX10, by decide, by decide, by decide +kernel⟩
theorem im_X10_moves : Cond.instanceMethod yX10_moves ∈ am_tbl := am_w 1275 (by decide +kernel) rfl
theorem sl_X10_moves : Cond.selects RX10 yX10_moves yX10_moves ∈ am_tbl := am_w0 70 (by decide +kernel) rfl
def eX10_goes : am_Y := (yX10_goes, cX10_goes, 3, none, 2, 53)
theorem in_X10_goes : am_in eX10_goes 2 := ⟨am_wc 1272 (by decide +kernel), iniX10, by decide, by decide, by decide +kernel⟩
theorem im_X10_goes : Cond.instanceMethod yX10_goes ∈ am_tbl := am_w 1271 (by decide +kernel) rfl
theorem sl_X10_goes : Cond.selects RX10 yX10_goes yX10_goes ∈ am_tbl := am_w0 69 (by decide +kernel) rfl
def eX10_wrong : am_Y := (yX10_wrong, cX10_wrong, 5, none, 0, 0)
theorem in_X10_wrong : am_in eX10_wrong 3 := ⟨am_wc 1260 (by decide +kernel), iniX10, by decide, by decide, by decide +kernel⟩
theorem im_X10_wrong : Cond.instanceMethod yX10_wrong ∈ am_tbl := am_w 1259 (by decide +kernel) rfl
theorem sl_X10_wrong : Cond.selects RX10 yX10_wrong yX10_wrong ∈ am_tbl := am_w0 66 (by decide +kernel) rfl
def eX10_isLeft : am_Y := (yX10_isLeft, cX10_isLeft, 2, (some .boolean), 1, 22)
theorem in_X10_isLeft : am_in eX10_isLeft 1 := ⟨am_wc 1256 (by decide +kernel), iniX10, by decide, by decide, by decide +kernel⟩
theorem im_X10_isLeft : Cond.instanceMethod yX10_isLeft ∈ am_tbl := am_w 1255 (by decide +kernel) rfl
theorem sl_X10_isLeft : Cond.selects RX10 yX10_isLeft yX10_isLeft ∈ am_tbl := am_w0 65 (by decide +kernel) rfl
def eX10_leavesSome : am_Y := (yX10_leavesSome, cX10_leavesSome, 3, (some .boolean), 2, 43)
theorem in_X10_leavesSome : am_in eX10_leavesSome 0 := ⟨am_wc 1252 (by decide +kernel), iniX10, by decide, by decide, by decide +kernel⟩
theorem im_X10_leavesSome : Cond.instanceMethod yX10_leavesSome ∈ am_tbl := am_w 1251 (by decide +kernel) rfl
theorem sl_X10_leavesSome : Cond.selects RX10 yX10_leavesSome yX10_leavesSome ∈ am_tbl := am_w0 64 (by decide +kernel) rfl
def eX10_ends_ : am_Y := (yX10_ends_, cX10_ends_, 6, none, 3, 65)
theorem in_X10_ends_ : am_in eX10_ends_ 2 := ⟨am_wc 1248 (by decide +kernel), iniX10, by decide, by decide, by decide +kernel⟩
theorem im_X10_ends_ : Cond.instanceMethod yX10_ends_ ∈ am_tbl := am_w 1247 (by decide +kernel) rfl
theorem sl_X10_ends_ : Cond.selects RX10 yX10_ends_ yX10_ends_ ∈ am_tbl := am_w0 63 (by decide +kernel) rfl
def eX10_out : am_Y := (yX10_out, cX10_out, 7, none, 4, 90)
theorem in_X10_out : am_in eX10_out 3 := ⟨am_wc 1304 (by decide +kernel), iniX10, by decide, by decide, by decide +kernel⟩
theorem im_X10_out : Cond.instanceMethod yX10_out ∈ am_tbl := am_w 1303 (by decide +kernel) rfl
theorem sl_X10_out : Cond.selects RX10 yX10_out yX10_out ∈ am_tbl := am_w0 77 (by decide +kernel) rfl
def eX10_codeOf : am_Y := (yX10_codeOf, cX10_codeOf, 3, (some .int), 0, 0)
theorem in_X10_codeOf : am_in eX10_codeOf 2 := ⟨am_wc 1288 (by decide +kernel), iniX10, by decide, by decide, by decide +kernel⟩
theorem im_X10_codeOf : Cond.instanceMethod yX10_codeOf ∈ am_tbl := am_w 1287 (by decide +kernel) rfl
theorem sl_X10_codeOf : Cond.selects RX10 yX10_codeOf yX10_codeOf ∈ am_tbl := am_w0 73 (by decide +kernel) rfl
def eX10_turns : am_Y := (yX10_turns, cX10_turns, 3, none, 0, 0)
theorem in_X10_turns : am_in eX10_turns 2 := ⟨am_wc 1292 (by decide +kernel), iniX10, by decide, by decide, by decide +kernel⟩
theorem im_X10_turns : Cond.instanceMethod yX10_turns ∈ am_tbl := am_w 1291 (by decide +kernel) rfl
theorem sl_X10_turns : Cond.selects RX10 yX10_turns yX10_turns ∈ am_tbl := am_w0 74 (by decide +kernel) rfl
def eX10_against : am_Y := (yX10_against, cX10_against, 3, (some .int), 1, 22)
theorem in_X10_against : am_in eX10_against 2 := ⟨am_wc 1284 (by decide +kernel), iniX10, by decide, by decide, by decide +kernel⟩
theorem im_X10_against : Cond.instanceMethod yX10_against ∈ am_tbl := am_w 1283 (by decide +kernel) rfl
theorem sl_X10_against : Cond.selects RX10 yX10_against yX10_against ∈ am_tbl := am_w0 72 (by decide +kernel) rfl
def eX10_renames : am_Y := (yX10_renames, cX10_renames, 8, none, 3, 75)
theorem in_X10_renames : am_in eX10_renames 4 := ⟨am_wc 1312 (by decide +kernel), iniX10, by decide, by decide, by decide +kernel⟩
theorem im_X10_renames : Cond.instanceMethod yX10_renames ∈ am_tbl := am_w 1311 (by decide +kernel) rfl
theorem sl_X10_renames : Cond.selects RX10 yX10_renames yX10_renames ∈ am_tbl := am_w0 79 (by decide +kernel) rfl
def eX10_freeThing : am_Y := (yX10_freeThing, cX10_freeThing, 4, (some .int), 0, 0)
theorem in_X10_freeThing : am_in eX10_freeThing 0 := ⟨am_wc 1268 (by decide +kernel), iniX10, by decide, by decide, by decide +kernel⟩
theorem im_X10_freeThing : Cond.instanceMethod yX10_freeThing ∈ am_tbl := am_w 1267 (by decide +kernel) rfl
theorem sl_X10_freeThing : Cond.selects RX10 yX10_freeThing yX10_freeThing ∈ am_tbl := am_w0 68 (by decide +kernel) rfl
def eX10_makes : am_Y := (yX10_makes, cX10_makes, 8, none, 3, 75)
theorem in_X10_makes : am_in eX10_makes 4 := ⟨am_wc 1264 (by decide +kernel), iniX10, by decide, by decide, by decide +kernel⟩
theorem im_X10_makes : Cond.instanceMethod yX10_makes ∈ am_tbl := am_w 1263 (by decide +kernel) rfl
theorem sl_X10_makes : Cond.selects RX10 yX10_makes yX10_makes ∈ am_tbl := am_w0 67 (by decide +kernel) rfl
def eX10_called : am_Y := (yX10_called, cX10_called, 14, none, 5, 116)
theorem in_X10_called : am_in eX10_called 4 := ⟨am_wc 1316 (by decide +kernel), iniX10, by decide, by decide, by decide +kernel⟩
theorem im_X10_called : Cond.instanceMethod yX10_called ∈ am_tbl := am_w 1315 (by decide +kernel) rfl
theorem sl_X10_called : Cond.selects RX10 yX10_called yX10_called ∈ am_tbl := am_w0 80 (by decide +kernel) rfl
def eX10_behindNo : am_Y := (yX10_behindNo, cX10_behindNo, 4, (some .int), 0, 0)
theorem in_X10_behindNo : am_in eX10_behindNo 2 := ⟨am_wc 1296 (by decide +kernel), iniX10, by decide, by decide, by decide +kernel⟩
theorem im_X10_behindNo : Cond.instanceMethod yX10_behindNo ∈ am_tbl := am_w 1295 (by decide +kernel) rfl
theorem sl_X10_behindNo : Cond.selects RX10 yX10_behindNo yX10_behindNo ∈ am_tbl := am_w0 75 (by decide +kernel) rfl
def eX10_used : am_Y := (yX10_used, cX10_used, 14, none, 3, 75)
theorem in_X10_used : am_in eX10_used 4 := ⟨am_wc 1280 (by decide +kernel), iniX10, by decide, by decide, by decide +kernel⟩
theorem im_X10_used : Cond.instanceMethod yX10_used ∈ am_tbl := am_w 1279 (by decide +kernel) rfl
theorem sl_X10_used : Cond.selects RX10 yX10_used yX10_used ∈ am_tbl := am_w0 71 (by decide +kernel) rfl
def eX10_closes : am_Y := (yX10_closes, cX10_closes, 7, none, 5, 116)
theorem in_X10_closes : am_in eX10_closes 2 := ⟨am_wc 1300 (by decide +kernel), iniX10, by decide, by decide, by decide +kernel⟩
theorem im_X10_closes : Cond.instanceMethod yX10_closes ∈ am_tbl := am_w 1299 (by decide +kernel) rfl
theorem sl_X10_closes : Cond.selects RX10 yX10_closes yX10_closes ∈ am_tbl := am_w0 76 (by decide +kernel) rfl
def eX10_follow : am_Y := (yX10_follow, cX10_follow, 9, none, 6, 149)
theorem in_X10_follow : am_in eX10_follow 2 := ⟨am_wc 1237 (by decide +kernel), iniX10, by decide, by decide, by decide +kernel⟩
theorem im_X10_follow : Cond.instanceMethod yX10_follow ∈ am_tbl := am_w 1236 (by decide +kernel) rfl
theorem sl_X10_follow : Cond.selects RX10 yX10_follow yX10_follow ∈ am_tbl := am_w0 61 (by decide +kernel) rfl
def eX10_wrongMany : am_Y := (yX10_wrongMany, cX10_wrongMany, 4, (some .int), 0, 0)
theorem in_X10_wrongMany : am_in eX10_wrongMany 0 := ⟨am_wc 1320 (by decide +kernel), iniX10, by decide, by decide, by decide +kernel⟩
theorem im_X10_wrongMany : Cond.instanceMethod yX10_wrongMany ∈ am_tbl := am_w 1319 (by decide +kernel) rfl
theorem sl_X10_wrongMany : Cond.selects RX10 yX10_wrongMany yX10_wrongMany ∈ am_tbl := am_w0 81 (by decide +kernel) rfl
def eX10_judge : am_Y := (yX10_judge, cX10_judge, 3, (some .int), 7, 177)
theorem in_X10_judge : am_in eX10_judge 0 := ⟨am_wc 1211 (by decide +kernel), iniX10, by decide, by decide, by decide +kernel⟩
theorem im_X10_judge : Cond.instanceMethod yX10_judge ∈ am_tbl := am_w 1209 (by decide +kernel) rfl
theorem sl_X10_judge : Cond.selects RX10 yX10_judge yX10_judge ∈ am_tbl := am_w 1210 (by decide +kernel) rfl
def eX10_wrong_ : am_Y := (yX10_wrong_, cX10_wrong_, 6, (some .int), 1, 22)
theorem in_X10_wrong_ : am_in eX10_wrong_ 2 := ⟨am_wc 1324 (by decide +kernel), iniX10, by decide, by decide, by decide +kernel⟩
theorem im_X10_wrong_ : Cond.instanceMethod yX10_wrong_ ∈ am_tbl := am_w 1322 (by decide +kernel) rfl
theorem sl_X10_wrong_ : Cond.selects RX10 yX10_wrong_ yX10_wrong_ ∈ am_tbl := am_w 1323 (by decide +kernel) rfl
def eX10_isPlace : am_Y := (yX10_isPlace, cX10_isPlace, 3, (some .boolean), 2, 43)
theorem in_X10_isPlace : am_in eX10_isPlace 2 := ⟨am_wc 1332 (by decide +kernel), iniX10, by decide, by decide, by decide +kernel⟩
theorem im_X10_isPlace : Cond.instanceMethod yX10_isPlace ∈ am_tbl := am_w 1331 (by decide +kernel) rfl
theorem sl_X10_isPlace : Cond.selects RX10 yX10_isPlace yX10_isPlace ∈ am_tbl := am_w0 82 (by decide +kernel) rfl
def eX10_may : am_Y := (yX10_may, cX10_may, 7, (some .int), 3, 65)
theorem in_X10_may : am_in eX10_may 3 := ⟨am_wc 1328 (by decide +kernel), iniX10, by decide, by decide, by decide +kernel⟩
theorem im_X10_may : Cond.instanceMethod yX10_may ∈ am_tbl := am_w 1326 (by decide +kernel) rfl
theorem sl_X10_may : Cond.selects RX10 yX10_may yX10_may ∈ am_tbl := am_w 1327 (by decide +kernel) rfl
def eX10_one : am_Y := (yX10_one, cX10_one, 9, (some .int), 3, 65)
theorem in_X10_one : am_in eX10_one 4 := ⟨am_wc 1336 (by decide +kernel), iniX10, by decide, by decide, by decide +kernel⟩
theorem im_X10_one : Cond.instanceMethod yX10_one ∈ am_tbl := am_w 1334 (by decide +kernel) rfl
theorem sl_X10_one : Cond.selects RX10 yX10_one yX10_one ∈ am_tbl := am_w 1335 (by decide +kernel) rfl
def eX10_paper : am_Y := (yX10_paper, cX10_paper, 6, (some .int), 3, 65)
theorem in_X10_paper : am_in eX10_paper 4 := ⟨am_wc 1340 (by decide +kernel), iniX10, by decide, by decide, by decide +kernel⟩
theorem im_X10_paper : Cond.instanceMethod yX10_paper ∈ am_tbl := am_w 1338 (by decide +kernel) rfl
theorem sl_X10_paper : Cond.selects RX10 yX10_paper yX10_paper ∈ am_tbl := am_w 1339 (by decide +kernel) rfl
def eX10_count : am_Y := (yX10_count, cX10_count, 4, (some .int), 1, 23)
theorem in_X10_count : am_in eX10_count 1 := ⟨am_wc 1344 (by decide +kernel), iniX10, by decide, by decide, by decide +kernel⟩
theorem im_X10_count : Cond.instanceMethod yX10_count ∈ am_tbl := am_w 1342 (by decide +kernel) rfl
theorem sl_X10_count : Cond.selects RX10 yX10_count yX10_count ∈ am_tbl := am_w 1343 (by decide +kernel) rfl
def eX10_answer : am_Y := (yX10_answer, cX10_answer, 2, (some .boolean), 0, 0)
theorem in_X10_answer : am_in eX10_answer 0 := ⟨am_wc 1400 (by decide +kernel), iniX10, by decide, by decide, by decide +kernel⟩
theorem im_X10_answer : Cond.instanceMethod yX10_answer ∈ am_tbl := am_w 1399 (by decide +kernel) rfl
theorem sl_X10_answer : Cond.selects RX10 yX10_answer yX10_answer ∈ am_tbl := am_w0 95 (by decide +kernel) rfl
def eX10_stops : am_Y := (yX10_stops, cX10_stops, 3, none, 0, 0)
theorem in_X10_stops : am_in eX10_stops 2 := ⟨am_wc 1368 (by decide +kernel), iniX10, by decide, by decide, by decide +kernel⟩
theorem im_X10_stops : Cond.instanceMethod yX10_stops ∈ am_tbl := am_w 1367 (by decide +kernel) rfl
theorem sl_X10_stops : Cond.selects RX10 yX10_stops yX10_stops ∈ am_tbl := am_w0 87 (by decide +kernel) rfl
def eX10_named : am_Y := (yX10_named, cX10_named, 3, (some .int), 0, 0)
theorem in_X10_named : am_in eX10_named 2 := ⟨am_wc 1388 (by decide +kernel), iniX10, by decide, by decide, by decide +kernel⟩
theorem im_X10_named : Cond.instanceMethod yX10_named ∈ am_tbl := am_w 1387 (by decide +kernel) rfl
theorem sl_X10_named : Cond.selects RX10 yX10_named yX10_named ∈ am_tbl := am_w0 92 (by decide +kernel) rfl
def eX10_begin : am_Y := (yX10_begin, cX10_begin, 5, none, 0, 0)
theorem in_X10_begin : am_in eX10_begin 3 := ⟨am_wc 1356 (by decide +kernel), iniX10, by decide, by decide, by decide +kernel⟩
theorem im_X10_begin : Cond.instanceMethod yX10_begin ∈ am_tbl := am_w 1355 (by decide +kernel) rfl
theorem sl_X10_begin : Cond.selects RX10 yX10_begin yX10_begin ∈ am_tbl := am_w0 84 (by decide +kernel) rfl
def eX10_runsTo : am_Y := (yX10_runsTo, cX10_runsTo, 8, none, 0, 0)
theorem in_X10_runsTo : am_in eX10_runsTo 1 := ⟨am_wc 1372 (by decide +kernel), iniX10, by decide, by decide, by decide +kernel⟩
theorem im_X10_runsTo : Cond.instanceMethod yX10_runsTo ∈ am_tbl := am_w 1371 (by decide +kernel) rfl
theorem sl_X10_runsTo : Cond.selects RX10 yX10_runsTo yX10_runsTo ∈ am_tbl := am_w0 88 (by decide +kernel) rfl
def eX10_isLeftOf : am_Y := (yX10_isLeftOf, cX10_isLeftOf, 3, (some .boolean), 1, 22)
theorem in_X10_isLeftOf : am_in eX10_isLeftOf 2 := ⟨am_wc 1364 (by decide +kernel), iniX10, by decide, by decide, by decide +kernel⟩
theorem im_X10_isLeftOf : Cond.instanceMethod yX10_isLeftOf ∈ am_tbl := am_w 1363 (by decide +kernel) rfl
theorem sl_X10_isLeftOf : Cond.selects RX10 yX10_isLeftOf yX10_isLeftOf ∈ am_tbl := am_w0 86 (by decide +kernel) rfl
def eX10_returns : am_Y := (yX10_returns, cX10_returns, 5, none, 2, 52)
theorem in_X10_returns : am_in eX10_returns 1 := ⟨am_wc 1360 (by decide +kernel), iniX10, by decide, by decide, by decide +kernel⟩
theorem im_X10_returns : Cond.instanceMethod yX10_returns ∈ am_tbl := am_w 1359 (by decide +kernel) rfl
theorem sl_X10_returns : Cond.selects RX10 yX10_returns yX10_returns ∈ am_tbl := am_w0 85 (by decide +kernel) rfl
def eX10_outOf : am_Y := (yX10_outOf, cX10_outOf, 6, none, 1, 27)
theorem in_X10_outOf : am_in eX10_outOf 1 := ⟨am_wc 1376 (by decide +kernel), iniX10, by decide, by decide, by decide +kernel⟩
theorem im_X10_outOf : Cond.instanceMethod yX10_outOf ∈ am_tbl := am_w 1375 (by decide +kernel) rfl
theorem sl_X10_outOf : Cond.selects RX10 yX10_outOf yX10_outOf ∈ am_tbl := am_w0 89 (by decide +kernel) rfl
def eX10_againstRun : am_Y := (yX10_againstRun, cX10_againstRun, 3, (some .int), 0, 0)
theorem in_X10_againstRun : am_in eX10_againstRun 2 := ⟨am_wc 1396 (by decide +kernel), iniX10, by decide, by decide, by decide +kernel⟩
theorem im_X10_againstRun : Cond.instanceMethod yX10_againstRun ∈ am_tbl := am_w 1395 (by decide +kernel) rfl
theorem sl_X10_againstRun : Cond.selects RX10 yX10_againstRun yX10_againstRun ∈ am_tbl := am_w0 94 (by decide +kernel) rfl
def eX10_runRename : am_Y := (yX10_runRename, cX10_runRename, 8, none, 2, 44)
theorem in_X10_runRename : am_in eX10_runRename 4 := ⟨am_wc 1384 (by decide +kernel), iniX10, by decide, by decide, by decide +kernel⟩
theorem im_X10_runRename : Cond.instanceMethod yX10_runRename ∈ am_tbl := am_w 1383 (by decide +kernel) rfl
theorem sl_X10_runRename : Cond.selects RX10 yX10_runRename yX10_runRename ∈ am_tbl := am_w0 91 (by decide +kernel) rfl
def eX10_runUse : am_Y := (yX10_runUse, cX10_runUse, 10, none, 2, 47)
theorem in_X10_runUse : am_in eX10_runUse 5 := ⟨am_wc 1392 (by decide +kernel), iniX10, by decide, by decide, by decide +kernel⟩
theorem im_X10_runUse : Cond.instanceMethod yX10_runUse ∈ am_tbl := am_w 1391 (by decide +kernel) rfl
theorem sl_X10_runUse : Cond.selects RX10 yX10_runUse yX10_runUse ∈ am_tbl := am_w0 93 (by decide +kernel) rfl
def eX10_runCall : am_Y := (yX10_runCall, cX10_runCall, 8, none, 1, 24)
theorem in_X10_runCall : am_in eX10_runCall 5 := ⟨am_wc 1408 (by decide +kernel), iniX10, by decide, by decide, by decide +kernel⟩
theorem im_X10_runCall : Cond.instanceMethod yX10_runCall ∈ am_tbl := am_w 1407 (by decide +kernel) rfl
theorem sl_X10_runCall : Cond.selects RX10 yX10_runCall yX10_runCall ∈ am_tbl := am_w0 97 (by decide +kernel) rfl
def eX10_runEnd : am_Y := (yX10_runEnd, cX10_runEnd, 7, none, 2, 52)
theorem in_X10_runEnd : am_in eX10_runEnd 2 := ⟨am_wc 1404 (by decide +kernel), iniX10, by decide, by decide, by decide +kernel⟩
theorem im_X10_runEnd : Cond.instanceMethod yX10_runEnd ∈ am_tbl := am_w 1403 (by decide +kernel) rfl
theorem sl_X10_runEnd : Cond.selects RX10 yX10_runEnd yX10_runEnd ∈ am_tbl := am_w0 96 (by decide +kernel) rfl
def eX10_runStatement : am_Y := (yX10_runStatement, cX10_runStatement, 6, none, 3, 78)
theorem in_X10_runStatement : am_in eX10_runStatement 0 := ⟨am_wc 1380 (by decide +kernel), iniX10, by decide, by decide, by decide +kernel⟩
theorem im_X10_runStatement : Cond.instanceMethod yX10_runStatement ∈ am_tbl := am_w 1379 (by decide +kernel) rfl
theorem sl_X10_runStatement : Cond.selects RX10 yX10_runStatement yX10_runStatement ∈ am_tbl := am_w0 90 (by decide +kernel) rfl
def eX10_runs : am_Y := (yX10_runs, cX10_runs, 5, (some .int), 4, 103)
theorem in_X10_runs : am_in eX10_runs 2 := ⟨am_wc 1352 (by decide +kernel), iniX10, by decide, by decide, by decide +kernel⟩
theorem im_X10_runs : Cond.instanceMethod yX10_runs ∈ am_tbl := am_w 1351 (by decide +kernel) rfl
theorem sl_X10_runs : Cond.selects RX10 yX10_runs yX10_runs ∈ am_tbl := am_w0 83 (by decide +kernel) rfl
def eX10_run : am_Y := (yX10_run, cX10_run, 4, (some .int), 5, 127)
theorem in_X10_run : am_in eX10_run 2 := ⟨am_wc 1348 (by decide +kernel), iniX10, by decide, by decide, by decide +kernel⟩
theorem im_X10_run : Cond.instanceMethod yX10_run ∈ am_tbl := am_w 1346 (by decide +kernel) rfl
theorem sl_X10_run : Cond.selects RX10 yX10_run yX10_run ∈ am_tbl := am_w 1347 (by decide +kernel) rfl
def eX10_ended : am_Y := (yX10_ended, cX10_ended, 2, (some .int), 1, 22)
theorem in_X10_ended : am_in eX10_ended 1 := ⟨am_wc 1412 (by decide +kernel), iniX10, by decide, by decide, by decide +kernel⟩
theorem im_X10_ended : Cond.instanceMethod yX10_ended ∈ am_tbl := am_w 1410 (by decide +kernel) rfl
theorem sl_X10_ended : Cond.selects RX10 yX10_ended yX10_ended ∈ am_tbl := am_w 1411 (by decide +kernel) rfl
def eX10_breaks : am_Y := (yX10_breaks, cX10_breaks, 5, (some .int), 5, 127)
theorem in_X10_breaks : am_in eX10_breaks 1 := ⟨am_wc 1416 (by decide +kernel), iniX10, by decide, by decide, by decide +kernel⟩
theorem im_X10_breaks : Cond.instanceMethod yX10_breaks ∈ am_tbl := am_w 1414 (by decide +kernel) rfl
theorem sl_X10_breaks : Cond.selects RX10 yX10_breaks yX10_breaks ∈ am_tbl := am_w 1415 (by decide +kernel) rfl
def eX10_digest : am_Y := (yX10_digest, cX10_digest, 6, (some .long), 3, 71)
theorem in_X10_digest : am_in eX10_digest 0 := ⟨am_wc 1420 (by decide +kernel), iniX10, by decide, by decide, by decide +kernel⟩
theorem im_X10_digest : Cond.instanceMethod yX10_digest ∈ am_tbl := am_w 1418 (by decide +kernel) rfl
theorem sl_X10_digest : Cond.selects RX10 yX10_digest yX10_digest ∈ am_tbl := am_w 1419 (by decide +kernel) rfl
def eJ9_max_7cf53 : am_Y := (yJ9_max_7cf53, cJ9_max_7cf53, 2, (some .int), 0, 0)
theorem in_J9_max_7cf53 : am_in eJ9_max_7cf53 2 := ⟨am_wc 831 (by decide +kernel), iniJ9, by decide, by decide, by decide +kernel⟩
theorem st_J9_max_7cf53 : Cond.static yJ9_max_7cf53 ∈ am_tbl := am_w 830 (by decide +kernel) rfl
def eJ9_min_7cf53 : am_Y := (yJ9_min_7cf53, cJ9_min_7cf53, 2, (some .int), 0, 0)
theorem in_J9_min_7cf53 : am_in eJ9_min_7cf53 2 := ⟨am_wc 600 (by decide +kernel), iniJ9, by decide, by decide, by decide +kernel⟩
theorem st_J9_min_7cf53 : Cond.static yJ9_min_7cf53 ∈ am_tbl := am_w 599 (by decide +kernel) rfl
def eJ7_fill_53178 : am_Y := (yJ7_fill_53178, cJ7_fill_53178, 4, none, 0, 0)
theorem in_J7_fill_53178 : am_in eJ7_fill_53178 2 := ⟨am_wc 248 (by decide +kernel), iniJ7, by decide, by decide, by decide +kernel⟩
theorem st_J7_fill_53178 : Cond.static yJ7_fill_53178 ∈ am_tbl := am_w 247 (by decide +kernel) rfl
def eJ7_copyOf_59c91 : am_Y := (yJ7_copyOf_59c91, cJ7_copyOf_59c91, 3, (some (.array .int)), 1, 26)
theorem in_J7_copyOf_59c91 : am_in eJ7_copyOf_59c91 2 := ⟨am_wc 604 (by decide +kernel), iniJ7, by decide, by decide, by decide +kernel⟩
theorem st_J7_copyOf_59c91 : Cond.static yJ7_copyOf_59c91 ∈ am_tbl := am_w 603 (by decide +kernel) rfl
def eJ7_copyOf_c38d5 : am_Y := (yJ7_copyOf_c38d5, cJ7_copyOf_c38d5, 3, (some (.array .long)), 1, 26)
theorem in_J7_copyOf_c38d5 : am_in eJ7_copyOf_c38d5 2 := ⟨am_wc 590 (by decide +kernel), iniJ7, by decide, by decide, by decide +kernel⟩
theorem st_J7_copyOf_c38d5 : Cond.static yJ7_copyOf_c38d5 ∈ am_tbl := am_w 589 (by decide +kernel) rfl
theorem mk_X0_3 : Cond.methodLink RX0 3 Lib.objectInit ∈ am_tbl := am_w 28 (by decide +kernel) rfl
theorem mk_X0_30 : Cond.methodLinkNest RX0 30 yX4_init "StateWear" ∈ am_nest := am_wn 34 (by decide +kernel) rfl
theorem mk_X0_31 : Cond.methodLinkNest RX0 31 yX6_init "StateWear" ∈ am_nest := am_wn 56 (by decide +kernel) rfl
theorem mk_X0_32 : Cond.methodLink RX0 32 yX0_hasKind ∈ am_tbl := am_w 383 (by decide +kernel) rfl
theorem mk_X0_39 : Cond.methodLink RX0 39 yX0_hasRoutine ∈ am_tbl := am_w 780 (by decide +kernel) rfl
theorem mk_X0_48 : Cond.methodLink RX0 48 yX6_callsBeyond ∈ am_tbl := am_w 546 (by decide +kernel) rfl
theorem mk_X1_3 : Cond.methodLink RX1 3 Lib.objectInit ∈ am_tbl := am_w 216 (by decide +kernel) rfl
theorem mk_X2_3 : Cond.methodLink RX2 3 Lib.objectInit ∈ am_tbl := am_w 140 (by decide +kernel) rfl
theorem mk_X2_22 : Cond.methodLink RX2 22 yJ7_fill_53178 ∈ am_tbl := am_w 423 (by decide +kernel) rfl
theorem mk_X2_32 : Cond.methodLink RX2 32 yX2_arePartedAt ∈ am_tbl := am_w 428 (by decide +kernel) rfl
theorem mk_X2_28 : Cond.methodLink RX2 28 yX2_find ∈ am_tbl := am_w 424 (by decide +kernel) rfl
theorem mk_X2_36 : Cond.methodLink RX2 36 yX2_findBehind ∈ am_tbl := am_w 440 (by decide +kernel) rfl
theorem mk_X2_40 : Cond.methodLink RX2 40 yX4_isEnd ∈ am_tbl := am_w 431 (by decide +kernel) rfl
theorem mk_X2_46 : Cond.methodLink RX2 46 yX4_hasUse ∈ am_tbl := am_w 435 (by decide +kernel) rfl
theorem mk_X2_50 : Cond.methodLink RX2 50 yX4_isAsking ∈ am_tbl := am_w 436 (by decide +kernel) rfl
theorem mk_X2_53 : Cond.methodLink RX2 53 yX4_after ∈ am_tbl := am_w 444 (by decide +kernel) rfl
theorem mk_X3_3 : Cond.methodLink RX3 3 Lib.objectInit ∈ am_tbl := am_w 156 (by decide +kernel) rfl
theorem mk_X3_24 : Cond.methodLinkNest RX3 24 yX5_init "StateWear" ∈ am_nest := am_wn 159 (by decide +kernel) rfl
theorem mk_X3_50 : Cond.methodLinkNest RX3 50 yX8_init "StateWear" ∈ am_nest := am_wn 185 (by decide +kernel) rfl
theorem mk_X3_55 : Cond.methodLinkNest RX3 55 yX1_init "StateWear" ∈ am_nest := am_wn 213 (by decide +kernel) rfl
theorem mk_X3_56 : Cond.methodLink RX3 56 yJ7_fill_53178 ∈ am_tbl := am_w 246 (by decide +kernel) rfl
theorem mk_X3_62 : Cond.methodLink RX3 62 yX5_clear ∈ am_tbl := am_w 559 (by decide +kernel) rfl
theorem mk_X3_65 : Cond.methodLink RX3 65 yX3_clear ∈ am_tbl := am_w 555 (by decide +kernel) rfl
theorem mk_X3_66 : Cond.methodLink RX3 66 yX3_caseFor ∈ am_tbl := am_w 564 (by decide +kernel) rfl
theorem mk_X3_71 : Cond.methodLink RX3 71 yX3_spreadNews ∈ am_tbl := am_w 631 (by decide +kernel) rfl
theorem mk_X3_78 : Cond.methodLink RX3 78 yX3_visit ∈ am_tbl := am_w 698 (by decide +kernel) rfl
theorem mk_X3_82 : Cond.methodLink RX3 82 yX3_comeBackAsKnown ∈ am_tbl := am_w 760 (by decide +kernel) rfl
theorem mk_X3_86 : Cond.methodLinkNest RX3 86 yX9_caseCode "StateWear" ∈ am_nest := am_wn 568 (by decide +kernel) rfl
theorem mk_X3_89 : Cond.methodLink RX3 89 yX1_begin ∈ am_tbl := am_w 571 (by decide +kernel) rfl
theorem mk_X3_93 : Cond.methodLink RX3 93 yX8_begin ∈ am_tbl := am_w 575 (by decide +kernel) rfl
theorem mk_X3_94 : Cond.methodLink RX3 94 yX3_keep ∈ am_tbl := am_w 580 (by decide +kernel) rfl
theorem mk_X3_105 : Cond.methodLink RX3 105 yX8_packWithCase ∈ am_tbl := am_w 623 (by decide +kernel) rfl
theorem mk_X3_98 : Cond.methodLink RX3 98 yX5_makeRoom ∈ am_tbl := am_w 584 (by decide +kernel) rfl
theorem mk_X3_101 : Cond.methodLink RX3 101 yX8_pack ∈ am_tbl := am_w 615 (by decide +kernel) rfl
theorem mk_X3_109 : Cond.methodLink RX3 109 yX5_add ∈ am_tbl := am_w 626 (by decide +kernel) rfl
theorem mk_X3_114 : Cond.methodLink RX3 114 yX8_caseIn ∈ am_tbl := am_w 639 (by decide +kernel) rfl
theorem mk_X3_130 : Cond.methodLink RX3 130 yX8_unpack ∈ am_tbl := am_w 646 (by decide +kernel) rfl
theorem mk_X3_171 : Cond.methodLinkNest RX3 171 yX9_isCall "StateWear" ∈ am_nest := am_wn 723 (by decide +kernel) rfl
theorem mk_X3_138 : Cond.methodLink RX3 138 yX3_load ∈ am_tbl := am_w 642 (by decide +kernel) rfl
theorem mk_X3_156 : Cond.methodLink RX3 156 yX3_endCase ∈ am_tbl := am_w 669 (by decide +kernel) rfl
theorem mk_X3_160 : Cond.methodLink RX3 160 yX8_wrongAhead ∈ am_tbl := am_w 702 (by decide +kernel) rfl
theorem mk_X3_164 : Cond.methodLink RX3 164 yX3_addWrong ∈ am_tbl := am_w 690 (by decide +kernel) rfl
theorem mk_X3_175 : Cond.methodLink RX3 175 yX3_callFrom ∈ am_tbl := am_w 724 (by decide +kernel) rfl
theorem mk_X3_179 : Cond.methodLink RX3 179 yX8_asksAhead ∈ am_tbl := am_w 730 (by decide +kernel) rfl
theorem mk_X3_183 : Cond.methodLink RX3 183 yX3_goOn ∈ am_tbl := am_w 735 (by decide +kernel) rfl
theorem mk_X3_186 : Cond.methodLink RX3 186 yX8_goOn ∈ am_tbl := am_w 739 (by decide +kernel) rfl
theorem mk_X3_195 : Cond.methodLink RX3 195 yX8_kindOf ∈ am_tbl := am_w 728 (by decide +kernel) rfl
theorem mk_X3_199 : Cond.methodLink RX3 199 yX8_stateOf ∈ am_tbl := am_w 729 (by decide +kernel) rfl
theorem mk_X3_211 : Cond.methodLink RX3 211 yX3_comeBack ∈ am_tbl := am_w 635 (by decide +kernel) rfl
theorem mk_X3_214 : Cond.methodLink RX3 214 yX8_comeBack ∈ am_tbl := am_w 657 (by decide +kernel) rfl
theorem mk_X3_217 : Cond.methodLink RX3 217 yX8_leavesThings ∈ am_tbl := am_w 673 (by decide +kernel) rfl
theorem mk_X3_220 : Cond.methodLink RX3 220 yX8_stateOfLent ∈ am_tbl := am_w 694 (by decide +kernel) rfl
theorem mk_X3_224 : Cond.methodLink RX3 224 yX8_placeIn ∈ am_tbl := am_w 789 (by decide +kernel) rfl
theorem mk_X3_227 : Cond.methodLink RX3 227 yX3_isAt ∈ am_tbl := am_w 785 (by decide +kernel) rfl
theorem mk_X3_231 : Cond.methodLink RX3 231 yX8_namesNothing ∈ am_tbl := am_w 790 (by decide +kernel) rfl
theorem mk_X3_234 : Cond.methodLink RX3 234 yX8_nameOne ∈ am_tbl := am_w 799 (by decide +kernel) rfl
theorem mk_X4_3 : Cond.methodLink RX4 3 Lib.objectInit ∈ am_tbl := am_w 37 (by decide +kernel) rfl
theorem mk_X4_25 : Cond.methodLink RX4 25 yJ7_fill_53178 ∈ am_tbl := am_w 359 (by decide +kernel) rfl
theorem mk_X4_31 : Cond.methodLink RX4 31 arraycopyName ∈ am_tbl := am_w 372 (by decide +kernel) rfl
theorem mk_X4_37 : Cond.methodLink RX4 37 yX4_isUseful ∈ am_tbl := am_w 391 (by decide +kernel) rfl
theorem mk_X4_43 : Cond.methodLink RX4 43 yX4_after ∈ am_tbl := am_w 879 (by decide +kernel) rfl
theorem mk_X5_3 : Cond.methodLink RX5 3 Lib.objectInit ∈ am_tbl := am_w 162 (by decide +kernel) rfl
theorem mk_X5_26 : Cond.methodLink RX5 26 yJ7_fill_53178 ∈ am_tbl := am_w 563 (by decide +kernel) rfl
theorem mk_X5_32 : Cond.methodLink RX5 32 yX5_find ∈ am_tbl := am_w 610 (by decide +kernel) rfl
theorem mk_X5_38 : Cond.methodLink RX5 38 yJ7_copyOf_c38d5 ∈ am_tbl := am_w 588 (by decide +kernel) rfl
theorem mk_X5_42 : Cond.methodLink RX5 42 yJ7_copyOf_59c91 ∈ am_tbl := am_w 602 (by decide +kernel) rfl
theorem mk_X6_3 : Cond.methodLink RX6 3 Lib.objectInit ∈ am_tbl := am_w 59 (by decide +kernel) rfl
theorem mk_X6_46 : Cond.methodLinkNest RX6 46 yX9_opensBlock "StateWear" ∈ am_nest := am_wn 487 (by decide +kernel) rfl
theorem mk_X6_50 : Cond.methodLink RX6 50 yX6_link ∈ am_tbl := am_w 494 (by decide +kernel) rfl
theorem mk_X6_53 : Cond.methodLinkNest RX6 53 yX9_isCall "StateWear" ∈ am_nest := am_wn 550 (by decide +kernel) rfl
theorem mk_X6_56 : Cond.methodLink RX6 56 yX6_linkMiddle ∈ am_tbl := am_w 498 (by decide +kernel) rfl
theorem mk_X6_60 : Cond.methodLink RX6 60 yX6_modesKnown ∈ am_tbl := am_w 502 (by decide +kernel) rfl
theorem mk_X6_64 : Cond.methodLink RX6 64 yX6_linkEnd ∈ am_tbl := am_w 506 (by decide +kernel) rfl
theorem mk_X6_67 : Cond.methodLink RX6 67 yX6_innermostCatcher ∈ am_tbl := am_w 510 (by decide +kernel) rfl
theorem mk_X6_70 : Cond.methodLink RX6 70 yX6_linkBlock ∈ am_tbl := am_w 514 (by decide +kernel) rfl
theorem mk_X6_75 : Cond.methodLink RX6 75 yX6_part ∈ am_tbl := am_w 885 (by decide +kernel) rfl
theorem mk_X7_3 : Cond.methodLink RX7 3 Lib.objectInit ∈ am_tbl := am_w 289 (by decide +kernel) rfl
theorem mk_X7_43 : Cond.methodLinkNest RX7 43 yX8_init "StateWear" ∈ am_nest := am_wn 292 (by decide +kernel) rfl
theorem mk_X7_44 : Cond.methodLink RX7 44 yX7_openRoutine ∈ am_tbl := am_w 824 (by decide +kernel) rfl
theorem mk_X7_48 : Cond.methodLink RX7 48 yX7_takeTurn ∈ am_tbl := am_w 832 (by decide +kernel) rfl
theorem mk_X7_55 : Cond.methodLink RX7 55 yJ9_max_7cf53 ∈ am_tbl := am_w 829 (by decide +kernel) rfl
theorem mk_X7_52 : Cond.methodLink RX7 52 yX8_begin ∈ am_tbl := am_w 828 (by decide +kernel) rfl
theorem mk_X7_93 : Cond.methodLinkNest RX7 93 yX9_isCall "StateWear" ∈ am_nest := am_wn 848 (by decide +kernel) rfl
theorem mk_X7_78 : Cond.methodLink RX7 78 yX7_goBack ∈ am_tbl := am_w 836 (by decide +kernel) rfl
theorem mk_X7_82 : Cond.methodLink RX7 82 yX7_endAt ∈ am_tbl := am_w 841 (by decide +kernel) rfl
theorem mk_X7_86 : Cond.methodLink RX7 86 yX8_wrongAhead ∈ am_tbl := am_w 847 (by decide +kernel) rfl
theorem mk_X7_97 : Cond.methodLink RX7 97 yX7_callFrom ∈ am_tbl := am_w 849 (by decide +kernel) rfl
theorem mk_X7_101 : Cond.methodLink RX7 101 yX8_asksAhead ∈ am_tbl := am_w 855 (by decide +kernel) rfl
theorem mk_X7_105 : Cond.methodLink RX7 105 yX7_nextAnswer ∈ am_tbl := am_w 856 (by decide +kernel) rfl
theorem mk_X7_109 : Cond.methodLink RX7 109 yX8_goOn ∈ am_tbl := am_w 860 (by decide +kernel) rfl
theorem mk_X7_119 : Cond.methodLink RX7 119 yX8_kindOf ∈ am_tbl := am_w 853 (by decide +kernel) rfl
theorem mk_X7_123 : Cond.methodLink RX7 123 yX8_stateOf ∈ am_tbl := am_w 854 (by decide +kernel) rfl
theorem mk_X7_126 : Cond.methodLink RX7 126 yX8_leavesThings ∈ am_tbl := am_w 840 (by decide +kernel) rfl
theorem mk_X7_129 : Cond.methodLink RX7 129 yX8_stateOfLent ∈ am_tbl := am_w 845 (by decide +kernel) rfl
theorem mk_X7_133 : Cond.methodLink RX7 133 yX8_comeBack ∈ am_tbl := am_w 846 (by decide +kernel) rfl
theorem mk_X8_5 : Cond.methodLink RX8 5 Lib.objectInit ∈ am_tbl := am_w 188 (by decide +kernel) rfl
theorem mk_X8_31 : Cond.methodLink RX8 31 yJ7_fill_53178 ∈ am_tbl := am_w 579 (by decide +kernel) rfl
theorem mk_X8_37 : Cond.methodLink RX8 37 yX8_codeOf ∈ am_tbl := am_w 619 (by decide +kernel) rfl
theorem mk_X8_41 : Cond.methodLink RX8 41 yX8_placeIn ∈ am_tbl := am_w 650 (by decide +kernel) rfl
theorem mk_X8_45 : Cond.methodLink RX8 45 yX8_takeCode ∈ am_tbl := am_w 653 (by decide +kernel) rfl
theorem mk_X8_66 : Cond.methodLink RX8 66 yX8_wrongUse ∈ am_tbl := am_w 706 (by decide +kernel) rfl
theorem mk_X8_70 : Cond.methodLink RX8 70 yX8_wrongCall ∈ am_tbl := am_w 715 (by decide +kernel) rfl
theorem mk_X8_74 : Cond.methodLink RX8 74 yX8_isLeftBy ∈ am_tbl := am_w 719 (by decide +kernel) rfl
theorem mk_X8_78 : Cond.methodLink RX8 78 yX8_namesNothing ∈ am_tbl := am_w 710 (by decide +kernel) rfl
theorem mk_X8_82 : Cond.methodLink RX8 82 yX8_stateOf ∈ am_tbl := am_w 681 (by decide +kernel) rfl
theorem mk_X8_88 : Cond.methodLink RX8 88 yX8_kindOf ∈ am_tbl := am_w 685 (by decide +kernel) rfl
theorem mk_X8_91 : Cond.methodLink RX8 91 yX4_hasUse ∈ am_tbl := am_w 714 (by decide +kernel) rfl
theorem mk_X8_97 : Cond.methodLink RX8 97 yX8_mustBeNamed ∈ am_tbl := am_w 677 (by decide +kernel) rfl
theorem mk_X8_101 : Cond.methodLink RX8 101 yX4_isEnd ∈ am_tbl := am_w 689 (by decide +kernel) rfl
theorem mk_X8_104 : Cond.methodLink RX8 104 yX4_isAsking ∈ am_tbl := am_w 734 (by decide +kernel) rfl
theorem mk_X8_107 : Cond.methodLink RX8 107 yX8_makeThing ∈ am_tbl := am_w 743 (by decide +kernel) rfl
theorem mk_X8_110 : Cond.methodLink RX8 110 yX8_useThing ∈ am_tbl := am_w 751 (by decide +kernel) rfl
theorem mk_X8_117 : Cond.methodLink RX8 117 yX8_modeOfTry ∈ am_tbl := am_w 756 (by decide +kernel) rfl
theorem mk_X8_121 : Cond.methodLink RX8 121 yX8_goOut ∈ am_tbl := am_w 661 (by decide +kernel) rfl
theorem mk_X8_125 : Cond.methodLink RX8 125 yX8_comeTo ∈ am_tbl := am_w 665 (by decide +kernel) rfl
theorem mk_X8_129 : Cond.methodLink RX8 129 yX8_freeSlot ∈ am_tbl := am_w 747 (by decide +kernel) rfl
theorem mk_X8_133 : Cond.methodLink RX8 133 yX4_after ∈ am_tbl := am_w 755 (by decide +kernel) rfl
theorem mk_X9_1 : Cond.methodLink RX9 1 Lib.objectInit ∈ am_tbl := am_w 20 (by decide +kernel) rfl
theorem mk_X9_9 : Cond.methodLink RX9 9 yX0_init ∈ am_tbl := am_w 25 (by decide +kernel) rfl
theorem mk_X9_18 : Cond.methodLinkNest RX9 18 yX2_init "StateWear" ∈ am_nest := am_wn 137 (by decide +kernel) rfl
theorem mk_X9_25 : Cond.methodLink RX9 25 yX3_init ∈ am_tbl := am_w 153 (by decide +kernel) rfl
theorem mk_X9_32 : Cond.methodLink RX9 32 yX7_init ∈ am_tbl := am_w 286 (by decide +kernel) rfl
theorem mk_X9_49 : Cond.methodLink RX9 49 yX9_areStates ∈ am_tbl := am_w 352 (by decide +kernel) rfl
theorem mk_X9_60 : Cond.methodLink RX9 60 yX4_begin ∈ am_tbl := am_w 355 (by decide +kernel) rfl
theorem mk_X9_66 : Cond.methodLink RX9 66 yX0_hasKind ∈ am_tbl := am_w 364 (by decide +kernel) rfl
theorem mk_X9_73 : Cond.methodLink RX9 73 yX4_inherit ∈ am_tbl := am_w 368 (by decide +kernel) rfl
theorem mk_X9_80 : Cond.methodLink RX9 80 yX9_isName ∈ am_tbl := am_w 384 (by decide +kernel) rfl
theorem mk_X9_77 : Cond.methodLink RX9 77 yX0_hasState ∈ am_tbl := am_w 379 (by decide +kernel) rfl
theorem mk_X9_83 : Cond.methodLink RX9 83 yX4_hasUse ∈ am_tbl := am_w 387 (by decide +kernel) rfl
theorem mk_X9_86 : Cond.methodLink RX9 86 yX4_setUse ∈ am_tbl := am_w 395 (by decide +kernel) rfl
theorem mk_X9_93 : Cond.methodLink RX9 93 yX4_after ∈ am_tbl := am_w 411 (by decide +kernel) rfl
theorem mk_X9_97 : Cond.methodLink RX9 97 yX2_usesToParting ∈ am_tbl := am_w 419 (by decide +kernel) rfl
theorem mk_X9_107 : Cond.methodLink RX9 107 yX9_isFirst ∈ am_tbl := am_w 461 (by decide +kernel) rfl
theorem mk_X9_125 : Cond.methodLink RX9 125 yX9_looksAtFirst ∈ am_tbl := am_w 464 (by decide +kernel) rfl
theorem mk_X9_128 : Cond.methodLink RX9 128 yX9_looksAtSecond ∈ am_tbl := am_w 467 (by decide +kernel) rfl
theorem mk_X9_104 : Cond.methodLink RX9 104 yX0_hasRoutine ∈ am_tbl := am_w 457 (by decide +kernel) rfl
theorem mk_X9_110 : Cond.methodLink RX9 110 yX9_isSecond ∈ am_tbl := am_w 479 (by decide +kernel) rfl
theorem mk_X9_117 : Cond.methodLink RX9 117 yX6_takes ∈ am_tbl := am_w 483 (by decide +kernel) rfl
theorem mk_X9_131 : Cond.methodLink RX9 131 yX6_append ∈ am_tbl := am_w 490 (by decide +kernel) rfl
theorem mk_X9_135 : Cond.methodLink RX9 135 yX6_removeLast ∈ am_tbl := am_w 522 (by decide +kernel) rfl
theorem mk_X9_138 : Cond.methodLink RX9 138 yX6_part ∈ am_tbl := am_w 530 (by decide +kernel) rfl
theorem mk_X9_145 : Cond.methodLink RX9 145 yX0_isWhole ∈ am_tbl := am_w 542 (by decide +kernel) rfl
theorem mk_X9_149 : Cond.methodLink RX9 149 yX3_findAll ∈ am_tbl := am_w 551 (by decide +kernel) rfl
theorem mk_X9_159 : Cond.methodLink RX9 159 yX3_partOfWrong ∈ am_tbl := am_w 768 (by decide +kernel) rfl
theorem mk_X9_165 : Cond.methodLink RX9 165 yX9_isVariable ∈ am_tbl := am_w 476 (by decide +kernel) rfl
theorem mk_X9_162 : Cond.methodLink RX9 162 yX0_hasPlace ∈ am_tbl := am_w 776 (by decide +kernel) rfl
theorem mk_X9_168 : Cond.methodLink RX9 168 yX3_statesOf ∈ am_tbl := am_w 781 (by decide +kernel) rfl
theorem mk_X9_172 : Cond.methodLink RX9 172 yX3_sameThing ∈ am_tbl := am_w 795 (by decide +kernel) rfl
theorem mk_X9_176 : Cond.methodLink RX9 176 yX9_caseCode ∈ am_tbl := am_w 807 (by decide +kernel) rfl
theorem mk_X9_179 : Cond.methodLink RX9 179 yX3_paperOf ∈ am_tbl := am_w 808 (by decide +kernel) rfl
theorem mk_X9_195 : Cond.methodLink RX9 195 yX7_play ∈ am_tbl := am_w 820 (by decide +kernel) rfl
theorem mk_X9_216 : Cond.methodLink RX9 216 yX4_digestFrom ∈ am_tbl := am_w 874 (by decide +kernel) rfl
theorem mk_X9_220 : Cond.methodLink RX9 220 yX6_digestFrom ∈ am_tbl := am_w 880 (by decide +kernel) rfl
theorem mk_X9_221 : Cond.methodLink RX9 221 yX9_usesThing ∈ am_tbl := am_w 470 (by decide +kernel) rfl
theorem mk_X9_224 : Cond.methodLink RX9 224 yX9_isCall ∈ am_tbl := am_w 473 (by decide +kernel) rfl
theorem mk_X10_1 : Cond.methodLink RX10 1 Lib.objectInit ∈ am_tbl := am_w 891 (by decide +kernel) rfl
theorem mk_X10_144 : Cond.methodLink RX10 144 yX10_in ∈ am_tbl := am_w 1086 (by decide +kernel) rfl
theorem mk_X10_148 : Cond.methodLink RX10 148 yX10_isKind ∈ am_tbl := am_w 1093 (by decide +kernel) rfl
theorem mk_X10_152 : Cond.methodLink RX10 152 yX10_useAt ∈ am_tbl := am_w 1109 (by decide +kernel) rfl
theorem mk_X10_156 : Cond.methodLink RX10 156 yX10_isState ∈ am_tbl := am_w 1101 (by decide +kernel) rfl
theorem mk_X10_160 : Cond.methodLink RX10 160 yX10_has ∈ am_tbl := am_w 1105 (by decide +kernel) rfl
theorem mk_X10_163 : Cond.methodLink RX10 163 yX10_led ∈ am_tbl := am_w 1128 (by decide +kernel) rfl
theorem mk_X10_167 : Cond.methodLink RX10 167 yX10_leadsTo ∈ am_tbl := am_w 1124 (by decide +kernel) rfl
theorem mk_X10_170 : Cond.methodLink RX10 170 yX10_isEnd ∈ am_tbl := am_w 1144 (by decide +kernel) rfl
theorem mk_X10_173 : Cond.methodLink RX10 173 yX10_asks ∈ am_tbl := am_w 1148 (by decide +kernel) rfl
theorem mk_X10_176 : Cond.methodLink RX10 176 yX10_isParted ∈ am_tbl := am_w 1140 (by decide +kernel) rfl
theorem mk_X10_180 : Cond.methodLink RX10 180 yX10_partedAt ∈ am_tbl := am_w 1136 (by decide +kernel) rfl
theorem mk_X10_184 : Cond.methodLink RX10 184 yX10_hasA ∈ am_tbl := am_w 1186 (by decide +kernel) rfl
theorem mk_X10_187 : Cond.methodLink RX10 187 yX10_isVariable ∈ am_tbl := am_w 1172 (by decide +kernel) rfl
theorem mk_X10_193 : Cond.methodLink RX10 193 yX10_opens ∈ am_tbl := am_w 1183 (by decide +kernel) rfl
theorem mk_X10_196 : Cond.methodLink RX10 196 yX10_walk ∈ am_tbl := am_w 1179 (by decide +kernel) rfl
theorem mk_X10_212 : Cond.methodLink RX10 212 yX10_hasB ∈ am_tbl := am_w 1189 (by decide +kernel) rfl
theorem mk_X10_203 : Cond.methodLink RX10 203 yX10_isRoutine ∈ am_tbl := am_w 1164 (by decide +kernel) rfl
theorem mk_X10_206 : Cond.methodLink RX10 206 yX10_isRight ∈ am_tbl := am_w 1168 (by decide +kernel) rfl
theorem mk_X10_209 : Cond.methodLink RX10 209 yX10_mayStand ∈ am_tbl := am_w 1175 (by decide +kernel) rfl
theorem mk_X10_215 : Cond.methodLink RX10 215 yX10_toldOf ∈ am_tbl := am_w 1200 (by decide +kernel) rfl
theorem mk_X10_218 : Cond.methodLink RX10 218 yX10_bits ∈ am_tbl := am_w 1242 (by decide +kernel) rfl
theorem mk_X10_225 : Cond.methodLink RX10 225 yX10_pack ∈ am_tbl := am_w 1228 (by decide +kernel) rfl
theorem mk_X10_243 : Cond.methodLink RX10 243 yX10_caseOf ∈ am_tbl := am_w 1220 (by decide +kernel) rfl
theorem mk_X10_247 : Cond.methodLink RX10 247 yX10_add ∈ am_tbl := am_w 1224 (by decide +kernel) rfl
theorem mk_X10_251 : Cond.methodLink RX10 251 yX10_moves ∈ am_tbl := am_w 1273 (by decide +kernel) rfl
theorem mk_X10_254 : Cond.methodLink RX10 254 yX10_isLeft ∈ am_tbl := am_w 1253 (by decide +kernel) rfl
theorem mk_X10_257 : Cond.methodLink RX10 257 yX10_leavesSome ∈ am_tbl := am_w 1249 (by decide +kernel) rfl
theorem mk_X10_261 : Cond.methodLink RX10 261 yX10_wrong ∈ am_tbl := am_w 1257 (by decide +kernel) rfl
theorem mk_X10_265 : Cond.methodLink RX10 265 yX10_tryAround ∈ am_tbl := am_w 1305 (by decide +kernel) rfl
theorem mk_X10_268 : Cond.methodLink RX10 268 yX10_goes ∈ am_tbl := am_w 1269 (by decide +kernel) rfl
theorem mk_X10_271 : Cond.methodLink RX10 271 yX10_ends_ ∈ am_tbl := am_w 1245 (by decide +kernel) rfl
theorem mk_X10_274 : Cond.methodLink RX10 274 yX10_codeOf ∈ am_tbl := am_w 1285 (by decide +kernel) rfl
theorem mk_X10_277 : Cond.methodLink RX10 277 yX10_freeThing ∈ am_tbl := am_w 1265 (by decide +kernel) rfl
theorem mk_X10_281 : Cond.methodLink RX10 281 yX10_against ∈ am_tbl := am_w 1281 (by decide +kernel) rfl
theorem mk_X10_284 : Cond.methodLink RX10 284 yX10_calls ∈ am_tbl := am_w 1216 (by decide +kernel) rfl
theorem mk_X10_287 : Cond.methodLink RX10 287 yX10_unpack ∈ am_tbl := am_w 1238 (by decide +kernel) rfl
theorem mk_X10_291 : Cond.methodLink RX10 291 yX10_turns ∈ am_tbl := am_w 1289 (by decide +kernel) rfl
theorem mk_X10_294 : Cond.methodLink RX10 294 yX10_out ∈ am_tbl := am_w 1301 (by decide +kernel) rfl
theorem mk_X10_297 : Cond.methodLink RX10 297 yX10_behindNo ∈ am_tbl := am_w 1293 (by decide +kernel) rfl
theorem mk_X10_300 : Cond.methodLink RX10 300 yX10_makes ∈ am_tbl := am_w 1261 (by decide +kernel) rfl
theorem mk_X10_304 : Cond.methodLink RX10 304 yX10_used ∈ am_tbl := am_w 1277 (by decide +kernel) rfl
theorem mk_X10_308 : Cond.methodLink RX10 308 yX10_closes ∈ am_tbl := am_w 1297 (by decide +kernel) rfl
theorem mk_X10_311 : Cond.methodLink RX10 311 yX10_renames ∈ am_tbl := am_w 1309 (by decide +kernel) rfl
theorem mk_X10_314 : Cond.methodLink RX10 314 yX10_called ∈ am_tbl := am_w 1313 (by decide +kernel) rfl
theorem mk_X10_318 : Cond.methodLink RX10 318 yX10_isWhole ∈ am_tbl := am_w 1212 (by decide +kernel) rfl
theorem mk_X10_324 : Cond.methodLink RX10 324 yX10_follow ∈ am_tbl := am_w 1234 (by decide +kernel) rfl
theorem mk_X10_327 : Cond.methodLink RX10 327 yX10_wrongMany ∈ am_tbl := am_w 1317 (by decide +kernel) rfl
theorem mk_X10_330 : Cond.methodLink RX10 330 yX10_isPlace ∈ am_tbl := am_w 1329 (by decide +kernel) rfl
theorem mk_X10_361 : Cond.methodLink RX10 361 yX10_isLeftOf ∈ am_tbl := am_w 1361 (by decide +kernel) rfl
theorem mk_X10_364 : Cond.methodLink RX10 364 yX10_stops ∈ am_tbl := am_w 1365 (by decide +kernel) rfl
theorem mk_X10_367 : Cond.methodLink RX10 367 yX10_runsTo ∈ am_tbl := am_w 1369 (by decide +kernel) rfl
theorem mk_X10_370 : Cond.methodLink RX10 370 yX10_outOf ∈ am_tbl := am_w 1373 (by decide +kernel) rfl
theorem mk_X10_376 : Cond.methodLink RX10 376 yX10_named ∈ am_tbl := am_w 1385 (by decide +kernel) rfl
theorem mk_X10_379 : Cond.methodLink RX10 379 yX10_againstRun ∈ am_tbl := am_w 1393 (by decide +kernel) rfl
theorem mk_X10_382 : Cond.methodLink RX10 382 yX10_answer ∈ am_tbl := am_w 1397 (by decide +kernel) rfl
theorem mk_X10_385 : Cond.methodLink RX10 385 yX10_begin ∈ am_tbl := am_w 1353 (by decide +kernel) rfl
theorem mk_X10_389 : Cond.methodLink RX10 389 yX10_runRename ∈ am_tbl := am_w 1381 (by decide +kernel) rfl
theorem mk_X10_392 : Cond.methodLink RX10 392 yX10_runUse ∈ am_tbl := am_w 1389 (by decide +kernel) rfl
theorem mk_X10_396 : Cond.methodLink RX10 396 yX10_runEnd ∈ am_tbl := am_w 1401 (by decide +kernel) rfl
theorem mk_X10_399 : Cond.methodLink RX10 399 yX10_runCall ∈ am_tbl := am_w 1405 (by decide +kernel) rfl
theorem mk_X10_406 : Cond.methodLink RX10 406 yX10_returns ∈ am_tbl := am_w 1357 (by decide +kernel) rfl
theorem mk_X10_410 : Cond.methodLink RX10 410 yX10_runStatement ∈ am_tbl := am_w 1377 (by decide +kernel) rfl
theorem mk_X10_413 : Cond.methodLink RX10 413 yX10_runs ∈ am_tbl := am_w 1349 (by decide +kernel) rfl
theorem mk_J7_150 : Cond.methodLink RJ7 150 arraycopyName ∈ am_tbl := am_w 601 (by decide +kernel) rfl
theorem mk_J7_304 : Cond.methodLink RJ7 304 yJ9_min_7cf53 ∈ am_tbl := am_w 598 (by decide +kernel) rfl
theorem mk_L_9 : Cond.methodLink RL 9 yX9_init ∈ am_tbl := am_w 17 (by decide +kernel) rfl
theorem mk_L_12 : Cond.methodLink RL 12 yX10_init ∈ am_tbl := am_w 888 (by decide +kernel) rfl
theorem mk_L_13 : Cond.methodLink RL 13 yX9_kind ∈ am_tbl := am_w 348 (by decide +kernel) rfl
theorem mk_L_17 : Cond.methodLink RL 17 yX10_kind ∈ am_tbl := am_w 1082 (by decide +kernel) rfl
theorem mk_L_18 : Cond.methodLink RL 18 yX9_heir ∈ am_tbl := am_w 360 (by decide +kernel) rfl
theorem mk_L_21 : Cond.methodLink RL 21 yX10_heir ∈ am_tbl := am_w 1089 (by decide +kernel) rfl
theorem mk_L_22 : Cond.methodLink RL 22 yX9_use ∈ am_tbl := am_w 375 (by decide +kernel) rfl
theorem mk_L_26 : Cond.methodLink RL 26 yX10_use ∈ am_tbl := am_w 1097 (by decide +kernel) rfl
theorem mk_L_27 : Cond.methodLink RL 27 yX9_drop ∈ am_tbl := am_w 399 (by decide +kernel) rfl
theorem mk_L_31 : Cond.methodLink RL 31 yX10_drop ∈ am_tbl := am_w 1112 (by decide +kernel) rfl
theorem mk_L_32 : Cond.methodLink RL 32 yX9_ends ∈ am_tbl := am_w 403 (by decide +kernel) rfl
theorem mk_L_35 : Cond.methodLink RL 35 yX10_ends ∈ am_tbl := am_w 1116 (by decide +kernel) rfl
theorem mk_L_36 : Cond.methodLink RL 36 yX9_leads ∈ am_tbl := am_w 407 (by decide +kernel) rfl
theorem mk_L_40 : Cond.methodLink RL 40 yX10_leads ∈ am_tbl := am_w 1120 (by decide +kernel) rfl
theorem mk_L_41 : Cond.methodLink RL 41 yX9_fits ∈ am_tbl := am_w 415 (by decide +kernel) rfl
theorem mk_L_44 : Cond.methodLink RL 44 yX10_fits ∈ am_tbl := am_w 1132 (by decide +kernel) rfl
theorem mk_L_45 : Cond.methodLink RL 45 yX9_parts ∈ am_tbl := am_w 445 (by decide +kernel) rfl
theorem mk_L_49 : Cond.methodLink RL 49 yX10_parts ∈ am_tbl := am_w 1152 (by decide +kernel) rfl
theorem mk_L_50 : Cond.methodLink RL 50 yX9_routine ∈ am_tbl := am_w 449 (by decide +kernel) rfl
theorem mk_L_53 : Cond.methodLink RL 53 yX10_routine ∈ am_tbl := am_w 1156 (by decide +kernel) rfl
theorem mk_L_54 : Cond.methodLink RL 54 yX9_statement ∈ am_tbl := am_w 453 (by decide +kernel) rfl
theorem mk_L_58 : Cond.methodLink RL 58 yX10_statement ∈ am_tbl := am_w 1160 (by decide +kernel) rfl
theorem mk_L_59 : Cond.methodLink RL 59 yX9_cut ∈ am_tbl := am_w 518 (by decide +kernel) rfl
theorem mk_L_63 : Cond.methodLink RL 63 yX10_cut ∈ am_tbl := am_w 1192 (by decide +kernel) rfl
theorem mk_L_64 : Cond.methodLink RL 64 yX9_told ∈ am_tbl := am_w 526 (by decide +kernel) rfl
theorem mk_L_67 : Cond.methodLink RL 67 yX10_told ∈ am_tbl := am_w 1196 (by decide +kernel) rfl
theorem mk_L_68 : Cond.methodLink RL 68 yX9_open ∈ am_tbl := am_w 534 (by decide +kernel) rfl
theorem mk_L_71 : Cond.methodLink RL 71 yX10_open ∈ am_tbl := am_w 1204 (by decide +kernel) rfl
theorem mk_L_72 : Cond.methodLink RL 72 yX9_judge ∈ am_tbl := am_w 538 (by decide +kernel) rfl
theorem mk_L_75 : Cond.methodLink RL 75 yX10_judge ∈ am_tbl := am_w 1208 (by decide +kernel) rfl
theorem mk_L_76 : Cond.methodLink RL 76 yX9_wrong ∈ am_tbl := am_w 764 (by decide +kernel) rfl
theorem mk_L_79 : Cond.methodLink RL 79 yX10_wrong_ ∈ am_tbl := am_w 1321 (by decide +kernel) rfl
theorem mk_L_80 : Cond.methodLink RL 80 yX9_may ∈ am_tbl := am_w 772 (by decide +kernel) rfl
theorem mk_L_83 : Cond.methodLink RL 83 yX10_may ∈ am_tbl := am_w 1325 (by decide +kernel) rfl
theorem mk_L_84 : Cond.methodLink RL 84 yX9_one ∈ am_tbl := am_w 791 (by decide +kernel) rfl
theorem mk_L_87 : Cond.methodLink RL 87 yX10_one ∈ am_tbl := am_w 1333 (by decide +kernel) rfl
theorem mk_L_88 : Cond.methodLink RL 88 yX9_paper ∈ am_tbl := am_w 803 (by decide +kernel) rfl
theorem mk_L_92 : Cond.methodLink RL 92 yX10_paper ∈ am_tbl := am_w 1337 (by decide +kernel) rfl
theorem mk_L_93 : Cond.methodLink RL 93 yX9_count ∈ am_tbl := am_w 812 (by decide +kernel) rfl
theorem mk_L_96 : Cond.methodLink RL 96 yX10_count ∈ am_tbl := am_w 1341 (by decide +kernel) rfl
theorem mk_L_99 : Cond.methodLink RL 99 yX9_run ∈ am_tbl := am_w 816 (by decide +kernel) rfl
theorem mk_L_103 : Cond.methodLink RL 103 yX10_run ∈ am_tbl := am_w 1345 (by decide +kernel) rfl
theorem mk_L_104 : Cond.methodLink RL 104 yX9_ended ∈ am_tbl := am_w 861 (by decide +kernel) rfl
theorem mk_L_107 : Cond.methodLink RL 107 yX10_ended ∈ am_tbl := am_w 1409 (by decide +kernel) rfl
theorem mk_L_108 : Cond.methodLink RL 108 yX9_breaks ∈ am_tbl := am_w 865 (by decide +kernel) rfl
theorem mk_L_111 : Cond.methodLink RL 111 yX10_breaks ∈ am_tbl := am_w 1413 (by decide +kernel) rfl
theorem mk_L_112 : Cond.methodLink RL 112 yX9_digest ∈ am_tbl := am_w 869 (by decide +kernel) rfl
theorem mk_L_116 : Cond.methodLink RL 116 yX10_digest ∈ am_tbl := am_w 1417 (by decide +kernel) rfl
theorem nat_copy : Cond.native arraycopyName ∈ am_tbl := am_w 374 (by decide +kernel) rfl
theorem st_copy : Cond.static arraycopyName ∈ am_tbl := am_w 373 (by decide +kernel) rfl
theorem im_obj : Cond.instanceMethod Lib.objectInit ∈ am_tbl := am_w 21 (by decide +kernel) rfl
theorem cd_obj : Cond.code Lib.objectInit ⟨#[0xb1]⟩ 1 none ∈ am_tbl := am_w 22 (by decide +kernel) rfl
