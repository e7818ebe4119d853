/-! the walk of the law (by wip/p1/law.py) -/
theorem nb_rng (n : Int32) : (¬ n < 0 ∧ n ≤ 200) ∨ (n < 0 ∨ ¬ n ≤ 200) := by
  by_cases h : n < 0
  · exact Or.inr (Or.inl h)
  · by_cases h2 : n ≤ 200
    · exact Or.inl ⟨h, h2⟩
    · exact Or.inr (Or.inr h2)
theorem nb_out10 {x : Int32} (h0 : ¬ x = 0) (h1 : ¬ x = 1) (h2 : ¬ x = 2) (h3 : ¬ x = 3) (h4 : ¬ x = 4) (h5 : ¬ x = 5) (h6 : ¬ x = 6) (h7 : ¬ x = 7) (h8 : ¬ x = 8) (h9 : ¬ x = 9) : x.toInt < 0 ∨ 9 < x.toInt := by
  have a0 := lv_neT h0 (show (0 : Int32).toInt = 0 by decide)
  have a1 := lv_neT h1 (show (1 : Int32).toInt = 1 by decide)
  have a2 := lv_neT h2 (show (2 : Int32).toInt = 2 by decide)
  have a3 := lv_neT h3 (show (3 : Int32).toInt = 3 by decide)
  have a4 := lv_neT h4 (show (4 : Int32).toInt = 4 by decide)
  have a5 := lv_neT h5 (show (5 : Int32).toInt = 5 by decide)
  have a6 := lv_neT h6 (show (6 : Int32).toInt = 6 by decide)
  have a7 := lv_neT h7 (show (7 : Int32).toInt = 7 by decide)
  have a8 := lv_neT h8 (show (8 : Int32).toInt = 8 by decide)
  have a9 := lv_neT h9 (show (9 : Int32).toInt = 9 by decide)
  omega
theorem mw_86 : (.initialized R_La : Cond) ∈ nn_gw := nn_at 86 (by decide +kernel) (by decide +kernel)
theorem mw_109 : (.classLink R_La 8 R_NP : Cond) ∈ nn_gw := nn_at 109 (by decide +kernel) (by decide +kernel)
theorem mw_110 : (.instantiable R_NP 5 : Cond) ∈ nn_gw := nn_at 110 (by decide +kernel) (by decide +kernel)
theorem mw_111 : (.methodLink R_La 19 y_NP_init : Cond) ∈ nn_gw := nn_at 111 (by decide +kernel) (by decide +kernel)
theorem mw_112 : (.instanceMethod y_NP_init : Cond) ∈ nn_gw := nn_at 112 (by decide +kernel) (by decide +kernel)
theorem mw_113 : (.code y_NP_init b_NP_init 1 none : Cond) ∈ nn_gw := nn_at 113 (by decide +kernel) (by decide +kernel)
theorem mw_287 : (.methodLink R_La 25 y_NP_write : Cond) ∈ nn_gw := nn_at 287 (by decide +kernel) (by decide +kernel)
theorem mw_288 : (.instanceMethod y_NP_write : Cond) ∈ nn_gw := nn_at 288 (by decide +kernel) (by decide +kernel)
theorem mw_289 : (.selects R_NP y_NP_write y_NP_write : Cond) ∈ nn_gw := nn_at 289 (by decide +kernel) (by decide +kernel)
theorem mw_290 : (.code y_NP_write b_NP_write 6 (some .boolean) : Cond) ∈ nn_gw := nn_at 290 (by decide +kernel) (by decide +kernel)
theorem mw_298 : (.methodLink R_La 39 y_NP_error : Cond) ∈ nn_gw := nn_at 298 (by decide +kernel) (by decide +kernel)
theorem mw_299 : (.instanceMethod y_NP_error : Cond) ∈ nn_gw := nn_at 299 (by decide +kernel) (by decide +kernel)
theorem mw_300 : (.selects R_NP y_NP_error y_NP_error : Cond) ∈ nn_gw := nn_at 300 (by decide +kernel) (by decide +kernel)
theorem mw_301 : (.code y_NP_error b_NP_error 2 (some .int) : Cond) ∈ nn_gw := nn_at 301 (by decide +kernel) (by decide +kernel)
theorem mw_310 : (.methodLink R_La 43 y_NP_code : Cond) ∈ nn_gw := nn_at 310 (by decide +kernel) (by decide +kernel)
theorem mw_311 : (.instanceMethod y_NP_code : Cond) ∈ nn_gw := nn_at 311 (by decide +kernel) (by decide +kernel)
theorem mw_312 : (.selects R_NP y_NP_code y_NP_code : Cond) ∈ nn_gw := nn_at 312 (by decide +kernel) (by decide +kernel)
theorem mw_313 : (.code y_NP_code b_NP_code 3 (some .int) : Cond) ∈ nn_gw := nn_at 313 (by decide +kernel) (by decide +kernel)
theorem mw_334 : (.methodLink R_La 48 y_NP_start : Cond) ∈ nn_gw := nn_at 334 (by decide +kernel) (by decide +kernel)
theorem mw_335 : (.instanceMethod y_NP_start : Cond) ∈ nn_gw := nn_at 335 (by decide +kernel) (by decide +kernel)
theorem mw_336 : (.selects R_NP y_NP_start y_NP_start : Cond) ∈ nn_gw := nn_at 336 (by decide +kernel) (by decide +kernel)
theorem mw_337 : (.code y_NP_start b_NP_start 1 (some .boolean) : Cond) ∈ nn_gw := nn_at 337 (by decide +kernel) (by decide +kernel)
theorem mw_349 : (.methodLink R_La 57 y_NP_about : Cond) ∈ nn_gw := nn_at 349 (by decide +kernel) (by decide +kernel)
theorem mw_350 : (.instanceMethod y_NP_about : Cond) ∈ nn_gw := nn_at 350 (by decide +kernel) (by decide +kernel)
theorem mw_351 : (.selects R_NP y_NP_about y_NP_about : Cond) ∈ nn_gw := nn_at 351 (by decide +kernel) (by decide +kernel)
theorem mw_352 : (.code y_NP_about b_NP_about 2 (some .int) : Cond) ∈ nn_gw := nn_at 352 (by decide +kernel) (by decide +kernel)
theorem mw_357 : (.methodLink R_La 61 y_NP_cell : Cond) ∈ nn_gw := nn_at 357 (by decide +kernel) (by decide +kernel)
theorem mw_358 : (.instanceMethod y_NP_cell : Cond) ∈ nn_gw := nn_at 358 (by decide +kernel) (by decide +kernel)
theorem mw_359 : (.selects R_NP y_NP_cell y_NP_cell : Cond) ∈ nn_gw := nn_at 359 (by decide +kernel) (by decide +kernel)
theorem mw_360 : (.code y_NP_cell b_NP_cell 2 (some .int) : Cond) ∈ nn_gw := nn_at 360 (by decide +kernel) (by decide +kernel)
theorem mw_369 : (.methodLink R_La 65 y_NP_written : Cond) ∈ nn_gw := nn_at 369 (by decide +kernel) (by decide +kernel)
theorem mw_370 : (.instanceMethod y_NP_written : Cond) ∈ nn_gw := nn_at 370 (by decide +kernel) (by decide +kernel)
theorem mw_371 : (.selects R_NP y_NP_written y_NP_written : Cond) ∈ nn_gw := nn_at 371 (by decide +kernel) (by decide +kernel)
theorem mw_372 : (.code y_NP_written b_NP_written 2 (some .int) : Cond) ∈ nn_gw := nn_at 372 (by decide +kernel) (by decide +kernel)
theorem mw_377 : (.methodLink R_La 69 y_NP_variable : Cond) ∈ nn_gw := nn_at 377 (by decide +kernel) (by decide +kernel)
theorem mw_378 : (.instanceMethod y_NP_variable : Cond) ∈ nn_gw := nn_at 378 (by decide +kernel) (by decide +kernel)
theorem mw_379 : (.selects R_NP y_NP_variable y_NP_variable : Cond) ∈ nn_gw := nn_at 379 (by decide +kernel) (by decide +kernel)
theorem mw_380 : (.code y_NP_variable b_NP_variable 3 (some .int) : Cond) ∈ nn_gw := nn_at 380 (by decide +kernel) (by decide +kernel)
theorem mw_389 : (.methodLink R_La 30 y_La_compile : Cond) ∈ nn_gw := nn_at 389 (by decide +kernel) (by decide +kernel)
theorem mw_390 : (.static y_La_compile : Cond) ∈ nn_gw := nn_at 390 (by decide +kernel) (by decide +kernel)
theorem mw_391 : (.codeWith y_La_compile b_La_compile 3 (some .int) [(0, 8, 11, 13)] : Cond) ∈ nn_gw := nn_at 391 (by decide +kernel) (by decide +kernel)
theorem mw_817 : (.methodLink R_La 53 y_La_run : Cond) ∈ nn_gw := nn_at 817 (by decide +kernel) (by decide +kernel)
theorem mw_818 : (.static y_La_run : Cond) ∈ nn_gw := nn_at 818 (by decide +kernel) (by decide +kernel)
theorem mw_819 : (.codeWith y_La_run b_La_run 4 (some .int) [(0, 9, 12, 13)] : Cond) ∈ nn_gw := nn_at 819 (by decide +kernel) (by decide +kernel)
theorem mw_884 : (.classLink R_La 20 R_Mo : Cond) ∈ nn_gw := nn_at 884 (by decide +kernel) (by decide +kernel)
theorem mw_885 : (.instantiable R_Mo 42 : Cond) ∈ nn_gw := nn_at 885 (by decide +kernel) (by decide +kernel)
theorem mw_886 : (.methodLink R_La 22 y_Mo_init : Cond) ∈ nn_gw := nn_at 886 (by decide +kernel) (by decide +kernel)
theorem mw_887 : (.instanceMethod y_Mo_init : Cond) ∈ nn_gw := nn_at 887 (by decide +kernel) (by decide +kernel)
theorem mw_888 : (.code y_Mo_init b_Mo_init 1 none : Cond) ∈ nn_gw := nn_at 888 (by decide +kernel) (by decide +kernel)
theorem mw_1017 : (.methodLink R_La 36 y_Mo_thrown : Cond) ∈ nn_gw := nn_at 1017 (by decide +kernel) (by decide +kernel)
theorem mw_1018 : (.instanceMethod y_Mo_thrown : Cond) ∈ nn_gw := nn_at 1018 (by decide +kernel) (by decide +kernel)
theorem mw_1019 : (.selects R_Mo y_Mo_thrown y_Mo_thrown : Cond) ∈ nn_gw := nn_at 1019 (by decide +kernel) (by decide +kernel)
theorem mw_1020 : (.code y_Mo_thrown b_Mo_thrown 1 (some .int) : Cond) ∈ nn_gw := nn_at 1020 (by decide +kernel) (by decide +kernel)
theorem mw_1021 : (.methodLink R_La 29 y_Mo_write : Cond) ∈ nn_gw := nn_at 1021 (by decide +kernel) (by decide +kernel)
theorem mw_1022 : (.instanceMethod y_Mo_write : Cond) ∈ nn_gw := nn_at 1022 (by decide +kernel) (by decide +kernel)
theorem mw_1023 : (.selects R_Mo y_Mo_write y_Mo_write : Cond) ∈ nn_gw := nn_at 1023 (by decide +kernel) (by decide +kernel)
theorem mw_1024 : (.code y_Mo_write b_Mo_write 6 (some .boolean) : Cond) ∈ nn_gw := nn_at 1024 (by decide +kernel) (by decide +kernel)
theorem mw_1025 : (.methodLink R_La 35 y_Mo_compile : Cond) ∈ nn_gw := nn_at 1025 (by decide +kernel) (by decide +kernel)
theorem mw_1026 : (.instanceMethod y_Mo_compile : Cond) ∈ nn_gw := nn_at 1026 (by decide +kernel) (by decide +kernel)
theorem mw_1027 : (.selects R_Mo y_Mo_compile y_Mo_compile : Cond) ∈ nn_gw := nn_at 1027 (by decide +kernel) (by decide +kernel)
theorem mw_1028 : (.code y_Mo_compile b_Mo_compile 2 (some .int) : Cond) ∈ nn_gw := nn_at 1028 (by decide +kernel) (by decide +kernel)
theorem mw_1165 : (.methodLink R_La 42 y_Mo_error : Cond) ∈ nn_gw := nn_at 1165 (by decide +kernel) (by decide +kernel)
theorem mw_1166 : (.instanceMethod y_Mo_error : Cond) ∈ nn_gw := nn_at 1166 (by decide +kernel) (by decide +kernel)
theorem mw_1167 : (.selects R_Mo y_Mo_error y_Mo_error : Cond) ∈ nn_gw := nn_at 1167 (by decide +kernel) (by decide +kernel)
theorem mw_1168 : (.code y_Mo_error b_Mo_error 2 (some .int) : Cond) ∈ nn_gw := nn_at 1168 (by decide +kernel) (by decide +kernel)
theorem mw_1169 : (.methodLink R_La 47 y_Mo_code : Cond) ∈ nn_gw := nn_at 1169 (by decide +kernel) (by decide +kernel)
theorem mw_1170 : (.instanceMethod y_Mo_code : Cond) ∈ nn_gw := nn_at 1170 (by decide +kernel) (by decide +kernel)
theorem mw_1171 : (.selects R_Mo y_Mo_code y_Mo_code : Cond) ∈ nn_gw := nn_at 1171 (by decide +kernel) (by decide +kernel)
theorem mw_1172 : (.code y_Mo_code b_Mo_code 3 (some .int) : Cond) ∈ nn_gw := nn_at 1172 (by decide +kernel) (by decide +kernel)
theorem mw_1173 : (.methodLink R_La 52 y_Mo_start : Cond) ∈ nn_gw := nn_at 1173 (by decide +kernel) (by decide +kernel)
theorem mw_1174 : (.instanceMethod y_Mo_start : Cond) ∈ nn_gw := nn_at 1174 (by decide +kernel) (by decide +kernel)
theorem mw_1175 : (.selects R_Mo y_Mo_start y_Mo_start : Cond) ∈ nn_gw := nn_at 1175 (by decide +kernel) (by decide +kernel)
theorem mw_1176 : (.code y_Mo_start b_Mo_start 1 (some .boolean) : Cond) ∈ nn_gw := nn_at 1176 (by decide +kernel) (by decide +kernel)
theorem mw_1177 : (.methodLink R_La 56 y_Mo_run : Cond) ∈ nn_gw := nn_at 1177 (by decide +kernel) (by decide +kernel)
theorem mw_1178 : (.instanceMethod y_Mo_run : Cond) ∈ nn_gw := nn_at 1178 (by decide +kernel) (by decide +kernel)
theorem mw_1179 : (.selects R_Mo y_Mo_run y_Mo_run : Cond) ∈ nn_gw := nn_at 1179 (by decide +kernel) (by decide +kernel)
theorem mw_1180 : (.code y_Mo_run b_Mo_run 3 (some .int) : Cond) ∈ nn_gw := nn_at 1180 (by decide +kernel) (by decide +kernel)
theorem mw_1217 : (.methodLink R_La 60 y_Mo_about : Cond) ∈ nn_gw := nn_at 1217 (by decide +kernel) (by decide +kernel)
theorem mw_1218 : (.instanceMethod y_Mo_about : Cond) ∈ nn_gw := nn_at 1218 (by decide +kernel) (by decide +kernel)
theorem mw_1219 : (.selects R_Mo y_Mo_about y_Mo_about : Cond) ∈ nn_gw := nn_at 1219 (by decide +kernel) (by decide +kernel)
theorem mw_1220 : (.code y_Mo_about b_Mo_about 2 (some .int) : Cond) ∈ nn_gw := nn_at 1220 (by decide +kernel) (by decide +kernel)
theorem mw_1221 : (.methodLink R_La 64 y_Mo_cell : Cond) ∈ nn_gw := nn_at 1221 (by decide +kernel) (by decide +kernel)
theorem mw_1222 : (.instanceMethod y_Mo_cell : Cond) ∈ nn_gw := nn_at 1222 (by decide +kernel) (by decide +kernel)
theorem mw_1223 : (.selects R_Mo y_Mo_cell y_Mo_cell : Cond) ∈ nn_gw := nn_at 1223 (by decide +kernel) (by decide +kernel)
theorem mw_1224 : (.code y_Mo_cell b_Mo_cell 3 (some .int) : Cond) ∈ nn_gw := nn_at 1224 (by decide +kernel) (by decide +kernel)
theorem mw_1225 : (.methodLink R_La 68 y_Mo_written : Cond) ∈ nn_gw := nn_at 1225 (by decide +kernel) (by decide +kernel)
theorem mw_1226 : (.instanceMethod y_Mo_written : Cond) ∈ nn_gw := nn_at 1226 (by decide +kernel) (by decide +kernel)
theorem mw_1227 : (.selects R_Mo y_Mo_written y_Mo_written : Cond) ∈ nn_gw := nn_at 1227 (by decide +kernel) (by decide +kernel)
theorem mw_1228 : (.code y_Mo_written b_Mo_written 2 (some .int) : Cond) ∈ nn_gw := nn_at 1228 (by decide +kernel) (by decide +kernel)
theorem mw_1229 : (.methodLink R_La 72 y_Mo_variable : Cond) ∈ nn_gw := nn_at 1229 (by decide +kernel) (by decide +kernel)
theorem mw_1230 : (.instanceMethod y_Mo_variable : Cond) ∈ nn_gw := nn_at 1230 (by decide +kernel) (by decide +kernel)
theorem mw_1231 : (.selects R_Mo y_Mo_variable y_Mo_variable : Cond) ∈ nn_gw := nn_at 1231 (by decide +kernel) (by decide +kernel)
theorem mw_1232 : (.code y_Mo_variable b_Mo_variable 7 (some .int) : Cond) ∈ nn_gw := nn_at 1232 (by decide +kernel) (by decide +kernel)
theorem mw_1233 : (.constantLong R_La 23 (4294967295 : Int64) : Cond) ∈ nn_gw := nn_at 1233 (by decide +kernel) (by decide +kernel)
theorem mw_1234 : (.arrayClass .long : Cond) ∈ nn_gw := nn_at 1234 (by decide +kernel) (by decide +kernel)
theorem d_La_law_0 : decode code 0 = .ok (.new 8, 3) := by decide +kernel
theorem d_La_law_3 : decode code 3 = .ok (.dup, 1) := by decide +kernel
theorem d_La_law_4 : decode code 4 = .ok (.invokespecial 19, 3) := by decide +kernel
theorem d_La_law_7 : decode code 7 = .ok (.astore_n 1, 1) := by decide +kernel
theorem d_La_law_8 : decode code 8 = .ok (.new 20, 3) := by decide +kernel
theorem d_La_law_11 : decode code 11 = .ok (.dup, 1) := by decide +kernel
theorem d_La_law_12 : decode code 12 = .ok (.invokespecial 22, 3) := by decide +kernel
theorem d_La_law_15 : decode code 15 = .ok (.astore_n 2, 1) := by decide +kernel
theorem d_La_law_16 : decode code 16 = .ok (.iconst 1, 1) := by decide +kernel
theorem d_La_law_17 : decode code 17 = .ok (.newarray .long, 2) := by decide +kernel
theorem d_La_law_19 : decode code 19 = .ok (.astore_n 3, 1) := by decide +kernel
theorem d_La_law_20 : decode code 20 = .ok (.iconst 0, 1) := by decide +kernel
theorem d_La_law_21 : decode code 21 = .ok (.istore 4, 2) := by decide +kernel
theorem d_La_law_23 : decode code 23 = .ok (.iload 4, 2) := by decide +kernel
theorem d_La_law_25 : decode code 25 = .ok (.aload_n 0, 1) := by decide +kernel
theorem d_La_law_26 : decode code 26 = .ok (.arraylength, 1) := by decide +kernel
theorem d_La_law_27 : decode code 27 = .ok (.iconst 3, 1) := by decide +kernel
theorem d_La_law_28 : decode code 28 = .ok (.isub, 1) := by decide +kernel
theorem d_La_law_29 : decode code 29 = .ok (.if_icmp .gt 413, 3) := by decide +kernel
theorem d_La_law_32 : decode code 32 = .ok (.aload_n 0, 1) := by decide +kernel
theorem d_La_law_33 : decode code 33 = .ok (.iload 4, 2) := by decide +kernel
theorem d_La_law_35 : decode code 35 = .ok (.iaload, 1) := by decide +kernel
theorem d_La_law_36 : decode code 36 = .ok (.bipush 15, 2) := by decide +kernel
theorem d_La_law_38 : decode code 38 = .ok (.iand, 1) := by decide +kernel
theorem d_La_law_39 : decode code 39 = .ok (.tableswitch 397 0 9 #[53, 110, 154, 179, 216, 229, 285, 310, 335, 360], 53) := by decide +kernel
theorem d_La_law_92 : decode code 92 = .ok (.aload_n 1, 1) := by decide +kernel
theorem d_La_law_93 : decode code 93 = .ok (.aload_n 0, 1) := by decide +kernel
theorem d_La_law_94 : decode code 94 = .ok (.iload 4, 2) := by decide +kernel
theorem d_La_law_96 : decode code 96 = .ok (.iconst 1, 1) := by decide +kernel
theorem d_La_law_97 : decode code 97 = .ok (.iadd, 1) := by decide +kernel
theorem d_La_law_98 : decode code 98 = .ok (.iaload, 1) := by decide +kernel
theorem d_La_law_99 : decode code 99 = .ok (.i2l, 1) := by decide +kernel
theorem d_La_law_100 : decode code 100 = .ok (.bipush 32, 2) := by decide +kernel
theorem d_La_law_102 : decode code 102 = .ok (.lshl, 1) := by decide +kernel
theorem d_La_law_103 : decode code 103 = .ok (.aload_n 0, 1) := by decide +kernel
theorem d_La_law_104 : decode code 104 = .ok (.iload 4, 2) := by decide +kernel
theorem d_La_law_106 : decode code 106 = .ok (.iconst 2, 1) := by decide +kernel
theorem d_La_law_107 : decode code 107 = .ok (.iadd, 1) := by decide +kernel
theorem d_La_law_108 : decode code 108 = .ok (.iaload, 1) := by decide +kernel
theorem d_La_law_109 : decode code 109 = .ok (.i2l, 1) := by decide +kernel
theorem d_La_law_110 : decode code 110 = .ok (.ldc2_w 23, 3) := by decide +kernel
theorem d_La_law_113 : decode code 113 = .ok (.land, 1) := by decide +kernel
theorem d_La_law_114 : decode code 114 = .ok (.lor, 1) := by decide +kernel
theorem d_La_law_115 : decode code 115 = .ok (.invokevirtual 25, 3) := by decide +kernel
theorem d_La_law_118 : decode code 118 = .ok (.aload_n 2, 1) := by decide +kernel
theorem d_La_law_119 : decode code 119 = .ok (.aload_n 0, 1) := by decide +kernel
theorem d_La_law_120 : decode code 120 = .ok (.iload 4, 2) := by decide +kernel
theorem d_La_law_122 : decode code 122 = .ok (.iconst 1, 1) := by decide +kernel
theorem d_La_law_123 : decode code 123 = .ok (.iadd, 1) := by decide +kernel
theorem d_La_law_124 : decode code 124 = .ok (.iaload, 1) := by decide +kernel
theorem d_La_law_125 : decode code 125 = .ok (.i2l, 1) := by decide +kernel
theorem d_La_law_126 : decode code 126 = .ok (.bipush 32, 2) := by decide +kernel
theorem d_La_law_128 : decode code 128 = .ok (.lshl, 1) := by decide +kernel
theorem d_La_law_129 : decode code 129 = .ok (.aload_n 0, 1) := by decide +kernel
theorem d_La_law_130 : decode code 130 = .ok (.iload 4, 2) := by decide +kernel
theorem d_La_law_132 : decode code 132 = .ok (.iconst 2, 1) := by decide +kernel
theorem d_La_law_133 : decode code 133 = .ok (.iadd, 1) := by decide +kernel
theorem d_La_law_134 : decode code 134 = .ok (.iaload, 1) := by decide +kernel
theorem d_La_law_135 : decode code 135 = .ok (.i2l, 1) := by decide +kernel
theorem d_La_law_136 : decode code 136 = .ok (.ldc2_w 23, 3) := by decide +kernel
theorem d_La_law_139 : decode code 139 = .ok (.land, 1) := by decide +kernel
theorem d_La_law_140 : decode code 140 = .ok (.lor, 1) := by decide +kernel
theorem d_La_law_141 : decode code 141 = .ok (.invokevirtual 29, 3) := by decide +kernel
theorem d_La_law_144 : decode code 144 = .ok (.if_icmp .eq 292, 3) := by decide +kernel
theorem d_La_law_149 : decode code 149 = .ok (.aload_n 1, 1) := by decide +kernel
theorem d_La_law_150 : decode code 150 = .ok (.aload_n 3, 1) := by decide +kernel
theorem d_La_law_151 : decode code 151 = .ok (.invokestatic 30, 3) := by decide +kernel
theorem d_La_law_154 : decode code 154 = .ok (.istore 5, 2) := by decide +kernel
theorem d_La_law_156 : decode code 156 = .ok (.aload_n 2, 1) := by decide +kernel
theorem d_La_law_157 : decode code 157 = .ok (.invokevirtual 35, 3) := by decide +kernel
theorem d_La_law_160 : decode code 160 = .ok (.istore 6, 2) := by decide +kernel
theorem d_La_law_162 : decode code 162 = .ok (.aload_n 2, 1) := by decide +kernel
theorem d_La_law_163 : decode code 163 = .ok (.invokevirtual 36, 3) := by decide +kernel
theorem d_La_law_166 : decode code 166 = .ok (.iload 5, 2) := by decide +kernel
theorem d_La_law_168 : decode code 168 = .ok (.if_icmp .eq 5, 3) := by decide +kernel
theorem d_La_law_173 : decode code 173 = .ok (.iload 5, 2) := by decide +kernel
theorem d_La_law_175 : decode code 175 = .ok (.ifCond .ne 15, 3) := by decide +kernel
theorem d_La_law_190 : decode code 190 = .ok (.goto 246, 3) := by decide +kernel
theorem d_La_law_193 : decode code 193 = .ok (.aload_n 1, 1) := by decide +kernel
theorem d_La_law_194 : decode code 194 = .ok (.aload_n 0, 1) := by decide +kernel
theorem d_La_law_195 : decode code 195 = .ok (.iload 4, 2) := by decide +kernel
theorem d_La_law_197 : decode code 197 = .ok (.iconst 1, 1) := by decide +kernel
theorem d_La_law_198 : decode code 198 = .ok (.iadd, 1) := by decide +kernel
theorem d_La_law_199 : decode code 199 = .ok (.iaload, 1) := by decide +kernel
theorem d_La_law_200 : decode code 200 = .ok (.invokevirtual 39, 3) := by decide +kernel
theorem d_La_law_203 : decode code 203 = .ok (.aload_n 2, 1) := by decide +kernel
theorem d_La_law_204 : decode code 204 = .ok (.aload_n 0, 1) := by decide +kernel
theorem d_La_law_205 : decode code 205 = .ok (.iload 4, 2) := by decide +kernel
theorem d_La_law_207 : decode code 207 = .ok (.iconst 1, 1) := by decide +kernel
theorem d_La_law_208 : decode code 208 = .ok (.iadd, 1) := by decide +kernel
theorem d_La_law_209 : decode code 209 = .ok (.iaload, 1) := by decide +kernel
theorem d_La_law_210 : decode code 210 = .ok (.invokevirtual 42, 3) := by decide +kernel
theorem d_La_law_213 : decode code 213 = .ok (.if_icmp .eq 223, 3) := by decide +kernel
theorem d_La_law_218 : decode code 218 = .ok (.aload_n 1, 1) := by decide +kernel
theorem d_La_law_219 : decode code 219 = .ok (.aload_n 0, 1) := by decide +kernel
theorem d_La_law_220 : decode code 220 = .ok (.iload 4, 2) := by decide +kernel
theorem d_La_law_222 : decode code 222 = .ok (.iconst 1, 1) := by decide +kernel
theorem d_La_law_223 : decode code 223 = .ok (.iadd, 1) := by decide +kernel
theorem d_La_law_224 : decode code 224 = .ok (.iaload, 1) := by decide +kernel
theorem d_La_law_225 : decode code 225 = .ok (.aload_n 0, 1) := by decide +kernel
theorem d_La_law_226 : decode code 226 = .ok (.iload 4, 2) := by decide +kernel
theorem d_La_law_228 : decode code 228 = .ok (.iconst 2, 1) := by decide +kernel
theorem d_La_law_229 : decode code 229 = .ok (.iadd, 1) := by decide +kernel
theorem d_La_law_230 : decode code 230 = .ok (.iaload, 1) := by decide +kernel
theorem d_La_law_231 : decode code 231 = .ok (.invokevirtual 43, 3) := by decide +kernel
theorem d_La_law_234 : decode code 234 = .ok (.aload_n 2, 1) := by decide +kernel
theorem d_La_law_235 : decode code 235 = .ok (.aload_n 0, 1) := by decide +kernel
theorem d_La_law_236 : decode code 236 = .ok (.iload 4, 2) := by decide +kernel
theorem d_La_law_238 : decode code 238 = .ok (.iconst 1, 1) := by decide +kernel
theorem d_La_law_239 : decode code 239 = .ok (.iadd, 1) := by decide +kernel
theorem d_La_law_240 : decode code 240 = .ok (.iaload, 1) := by decide +kernel
theorem d_La_law_241 : decode code 241 = .ok (.aload_n 0, 1) := by decide +kernel
theorem d_La_law_242 : decode code 242 = .ok (.iload 4, 2) := by decide +kernel
theorem d_La_law_244 : decode code 244 = .ok (.iconst 2, 1) := by decide +kernel
theorem d_La_law_245 : decode code 245 = .ok (.iadd, 1) := by decide +kernel
theorem d_La_law_246 : decode code 246 = .ok (.iaload, 1) := by decide +kernel
theorem d_La_law_247 : decode code 247 = .ok (.invokevirtual 47, 3) := by decide +kernel
theorem d_La_law_250 : decode code 250 = .ok (.if_icmp .eq 186, 3) := by decide +kernel
theorem d_La_law_255 : decode code 255 = .ok (.aload_n 1, 1) := by decide +kernel
theorem d_La_law_256 : decode code 256 = .ok (.invokevirtual 48, 3) := by decide +kernel
theorem d_La_law_259 : decode code 259 = .ok (.aload_n 2, 1) := by decide +kernel
theorem d_La_law_260 : decode code 260 = .ok (.invokevirtual 52, 3) := by decide +kernel
theorem d_La_law_263 : decode code 263 = .ok (.if_icmp .eq 173, 3) := by decide +kernel
theorem d_La_law_268 : decode code 268 = .ok (.aload_n 1, 1) := by decide +kernel
theorem d_La_law_269 : decode code 269 = .ok (.aload_n 0, 1) := by decide +kernel
theorem d_La_law_270 : decode code 270 = .ok (.iload 4, 2) := by decide +kernel
theorem d_La_law_272 : decode code 272 = .ok (.iconst 1, 1) := by decide +kernel
theorem d_La_law_273 : decode code 273 = .ok (.iadd, 1) := by decide +kernel
theorem d_La_law_274 : decode code 274 = .ok (.iaload, 1) := by decide +kernel
theorem d_La_law_275 : decode code 275 = .ok (.aload_n 3, 1) := by decide +kernel
theorem d_La_law_276 : decode code 276 = .ok (.invokestatic 53, 3) := by decide +kernel
theorem d_La_law_279 : decode code 279 = .ok (.istore 5, 2) := by decide +kernel
theorem d_La_law_281 : decode code 281 = .ok (.aload_n 2, 1) := by decide +kernel
theorem d_La_law_282 : decode code 282 = .ok (.aload_n 0, 1) := by decide +kernel
theorem d_La_law_283 : decode code 283 = .ok (.iload 4, 2) := by decide +kernel
theorem d_La_law_285 : decode code 285 = .ok (.iconst 1, 1) := by decide +kernel
theorem d_La_law_286 : decode code 286 = .ok (.iadd, 1) := by decide +kernel
theorem d_La_law_287 : decode code 287 = .ok (.iaload, 1) := by decide +kernel
theorem d_La_law_288 : decode code 288 = .ok (.invokevirtual 56, 3) := by decide +kernel
theorem d_La_law_291 : decode code 291 = .ok (.istore 6, 2) := by decide +kernel
theorem d_La_law_293 : decode code 293 = .ok (.aload_n 2, 1) := by decide +kernel
theorem d_La_law_294 : decode code 294 = .ok (.invokevirtual 36, 3) := by decide +kernel
theorem d_La_law_297 : decode code 297 = .ok (.iload 5, 2) := by decide +kernel
theorem d_La_law_299 : decode code 299 = .ok (.if_icmp .eq 5, 3) := by decide +kernel
theorem d_La_law_304 : decode code 304 = .ok (.iload 5, 2) := by decide +kernel
theorem d_La_law_306 : decode code 306 = .ok (.ifCond .ne 15, 3) := by decide +kernel
theorem d_La_law_309 : decode code 309 = .ok (.aload_n 3, 1) := by decide +kernel
theorem d_La_law_310 : decode code 310 = .ok (.iconst 0, 1) := by decide +kernel
theorem d_La_law_311 : decode code 311 = .ok (.laload, 1) := by decide +kernel
theorem d_La_law_312 : decode code 312 = .ok (.iload 6, 2) := by decide +kernel
theorem d_La_law_314 : decode code 314 = .ok (.i2l, 1) := by decide +kernel
theorem d_La_law_315 : decode code 315 = .ok (.lcmp, 1) := by decide +kernel
theorem d_La_law_316 : decode code 316 = .ok (.ifCond .eq 5, 3) := by decide +kernel
theorem d_La_law_321 : decode code 321 = .ok (.goto 115, 3) := by decide +kernel
theorem d_La_law_324 : decode code 324 = .ok (.aload_n 1, 1) := by decide +kernel
theorem d_La_law_325 : decode code 325 = .ok (.aload_n 0, 1) := by decide +kernel
theorem d_La_law_326 : decode code 326 = .ok (.iload 4, 2) := by decide +kernel
theorem d_La_law_328 : decode code 328 = .ok (.iconst 1, 1) := by decide +kernel
theorem d_La_law_329 : decode code 329 = .ok (.iadd, 1) := by decide +kernel
theorem d_La_law_330 : decode code 330 = .ok (.iaload, 1) := by decide +kernel
theorem d_La_law_331 : decode code 331 = .ok (.invokevirtual 57, 3) := by decide +kernel
theorem d_La_law_334 : decode code 334 = .ok (.aload_n 2, 1) := by decide +kernel
theorem d_La_law_335 : decode code 335 = .ok (.aload_n 0, 1) := by decide +kernel
theorem d_La_law_336 : decode code 336 = .ok (.iload 4, 2) := by decide +kernel
theorem d_La_law_338 : decode code 338 = .ok (.iconst 1, 1) := by decide +kernel
theorem d_La_law_339 : decode code 339 = .ok (.iadd, 1) := by decide +kernel
theorem d_La_law_340 : decode code 340 = .ok (.iaload, 1) := by decide +kernel
theorem d_La_law_341 : decode code 341 = .ok (.invokevirtual 60, 3) := by decide +kernel
theorem d_La_law_344 : decode code 344 = .ok (.if_icmp .eq 92, 3) := by decide +kernel
theorem d_La_law_349 : decode code 349 = .ok (.aload_n 1, 1) := by decide +kernel
theorem d_La_law_350 : decode code 350 = .ok (.aload_n 0, 1) := by decide +kernel
theorem d_La_law_351 : decode code 351 = .ok (.iload 4, 2) := by decide +kernel
theorem d_La_law_353 : decode code 353 = .ok (.iconst 1, 1) := by decide +kernel
theorem d_La_law_354 : decode code 354 = .ok (.iadd, 1) := by decide +kernel
theorem d_La_law_355 : decode code 355 = .ok (.iaload, 1) := by decide +kernel
theorem d_La_law_356 : decode code 356 = .ok (.invokevirtual 61, 3) := by decide +kernel
theorem d_La_law_359 : decode code 359 = .ok (.aload_n 2, 1) := by decide +kernel
theorem d_La_law_360 : decode code 360 = .ok (.aload_n 0, 1) := by decide +kernel
theorem d_La_law_361 : decode code 361 = .ok (.iload 4, 2) := by decide +kernel
theorem d_La_law_363 : decode code 363 = .ok (.iconst 1, 1) := by decide +kernel
theorem d_La_law_364 : decode code 364 = .ok (.iadd, 1) := by decide +kernel
theorem d_La_law_365 : decode code 365 = .ok (.iaload, 1) := by decide +kernel
theorem d_La_law_366 : decode code 366 = .ok (.invokevirtual 64, 3) := by decide +kernel
theorem d_La_law_369 : decode code 369 = .ok (.if_icmp .eq 67, 3) := by decide +kernel
theorem d_La_law_374 : decode code 374 = .ok (.aload_n 1, 1) := by decide +kernel
theorem d_La_law_375 : decode code 375 = .ok (.aload_n 0, 1) := by decide +kernel
theorem d_La_law_376 : decode code 376 = .ok (.iload 4, 2) := by decide +kernel
theorem d_La_law_378 : decode code 378 = .ok (.iconst 1, 1) := by decide +kernel
theorem d_La_law_379 : decode code 379 = .ok (.iadd, 1) := by decide +kernel
theorem d_La_law_380 : decode code 380 = .ok (.iaload, 1) := by decide +kernel
theorem d_La_law_381 : decode code 381 = .ok (.invokevirtual 65, 3) := by decide +kernel
theorem d_La_law_384 : decode code 384 = .ok (.aload_n 2, 1) := by decide +kernel
theorem d_La_law_385 : decode code 385 = .ok (.aload_n 0, 1) := by decide +kernel
theorem d_La_law_386 : decode code 386 = .ok (.iload 4, 2) := by decide +kernel
theorem d_La_law_388 : decode code 388 = .ok (.iconst 1, 1) := by decide +kernel
theorem d_La_law_389 : decode code 389 = .ok (.iadd, 1) := by decide +kernel
theorem d_La_law_390 : decode code 390 = .ok (.iaload, 1) := by decide +kernel
theorem d_La_law_391 : decode code 391 = .ok (.invokevirtual 68, 3) := by decide +kernel
theorem d_La_law_394 : decode code 394 = .ok (.if_icmp .eq 42, 3) := by decide +kernel
theorem d_La_law_399 : decode code 399 = .ok (.aload_n 1, 1) := by decide +kernel
theorem d_La_law_400 : decode code 400 = .ok (.aload_n 0, 1) := by decide +kernel
theorem d_La_law_401 : decode code 401 = .ok (.iload 4, 2) := by decide +kernel
theorem d_La_law_403 : decode code 403 = .ok (.iconst 1, 1) := by decide +kernel
theorem d_La_law_404 : decode code 404 = .ok (.iadd, 1) := by decide +kernel
theorem d_La_law_405 : decode code 405 = .ok (.iaload, 1) := by decide +kernel
theorem d_La_law_406 : decode code 406 = .ok (.aload_n 0, 1) := by decide +kernel
theorem d_La_law_407 : decode code 407 = .ok (.iload 4, 2) := by decide +kernel
theorem d_La_law_409 : decode code 409 = .ok (.iconst 2, 1) := by decide +kernel
theorem d_La_law_410 : decode code 410 = .ok (.iadd, 1) := by decide +kernel
theorem d_La_law_411 : decode code 411 = .ok (.iaload, 1) := by decide +kernel
theorem d_La_law_412 : decode code 412 = .ok (.invokevirtual 69, 3) := by decide +kernel
theorem d_La_law_415 : decode code 415 = .ok (.aload_n 2, 1) := by decide +kernel
theorem d_La_law_416 : decode code 416 = .ok (.aload_n 0, 1) := by decide +kernel
theorem d_La_law_417 : decode code 417 = .ok (.iload 4, 2) := by decide +kernel
theorem d_La_law_419 : decode code 419 = .ok (.iconst 1, 1) := by decide +kernel
theorem d_La_law_420 : decode code 420 = .ok (.iadd, 1) := by decide +kernel
theorem d_La_law_421 : decode code 421 = .ok (.iaload, 1) := by decide +kernel
theorem d_La_law_422 : decode code 422 = .ok (.aload_n 0, 1) := by decide +kernel
theorem d_La_law_423 : decode code 423 = .ok (.iload 4, 2) := by decide +kernel
theorem d_La_law_425 : decode code 425 = .ok (.iconst 2, 1) := by decide +kernel
theorem d_La_law_426 : decode code 426 = .ok (.iadd, 1) := by decide +kernel
theorem d_La_law_427 : decode code 427 = .ok (.iaload, 1) := by decide +kernel
theorem d_La_law_428 : decode code 428 = .ok (.invokevirtual 72, 3) := by decide +kernel
theorem d_La_law_431 : decode code 431 = .ok (.if_icmp .eq 5, 3) := by decide +kernel
theorem d_La_law_436 : decode code 436 = .ok (.iinc 4 3, 3) := by decide +kernel
theorem d_La_law_439 : decode code 439 = .ok (.goto (-416), 3) := by decide +kernel
theorem d_La_law_442 : decode code 442 = .ok (.iconst 1, 1) := by decide +kernel
theorem d_La_law_443 : decode code 443 = .ok (.ireturn, 1) := by decide +kernel
set_option maxHeartbeats 40000000 in
set_option maxRecDepth 100000 in
theorem whole_start {p : Program} {e : Env} {s : State} {m : MethodId} {below : List Frame} {meth : Method} {c : Code} (l : Launch) (hfl : l.flags = flags0) {b L : Nat} {xs : Nat → Int32} (hL : L ≤ 3) (C0 : lw_At p s m meth c b L xs) : W p l e room_1 s m #[Value.ref b] below meth c s.heap [] 0 0 (lw_Z below #[Value.ref b] s) (entryFrame m ([Value.ref b] : List Value).toArray 7) := by
  obtain ⟨hx, hb, hr, hml, hown0, htb, hX, hbl, hlocks, hgv⟩ := C0
  have hown : s.vm.findClass R_La = some m.cls := hown0
  have hg : ∀ w ∈ nn_gw, w.before #[Value.ref b] s = true := fun w h => htb w (List.mem_filter.mp h).1
  have hts : ∀ w ∈ (Cond.initialized R_La :: nn_gw), w.before #[Value.ref b] s = true := fun w h => (List.mem_cons.mp h).elim (fun e => by rw [e]; exact hg _ mw_86) (hg w)
  obtain ⟨G, hK⟩ := lw_K hg htb
  have hN := lw_N htb
  obtain ⟨tk, hE⟩ := lw_E htb hgv
  have hA : ∀ q : Nat, s.heap.size ≤ q → (fun q : Nat => s.heap.size ≤ q) q := fun q h => h
  generalize hAe : (fun q : Nat => s.heap.size ≤ q) = A at hA hE
  have hbA : ¬ A b := by rw [← hAe]; show ¬ s.heap.size ≤ b; omega
  have hAf : ∀ q, A q → s.heap.size ≤ q := fun q h => by rw [← hAe] at h; exact h
  have hS : va_S A s.heap s.heap [] := va_S.rf
  have hP : va_P G.1 nn_cls [] s.heap := nb_P0
  have hD : va_D A [] := nb_D0
  have hl := lv_entry ([.ref b]) (n := 7) (Nat.le_of_ble_eq_true rfl)
  rw [lg_entry_eq]
  generalize (lg_sl ([.ref b]) ++ List.replicate (7 - (lg_sl ([.ref b])).length) Slot.unset).toArray = ls at hl ⊢
  have hl : lv_has ls 7 [(0, .ref b)] := hl
  refine va_new (ci := 0) (fs := [.null, .int 0, .null, .null, .null]) (C := R_NP) (T := T_NP) (N := 5) hx hb hg in_NP t_NP ok_NP hown (hg _ mw_109) (hg _ mw_110) (hg _ mw_87) hK hP hD hS hA rfl fd_NP (Nat.le_of_ble_eq_true rfl) (Nat.le_of_ble_eq_true rfl) d_La_law_0 (fun q1 H hP hD hS => ?_)
  have hP : va_P G.1 nn_cls [(q1, .inr (0, [.null, .int 0, .null, .null, .null]))] H := hP
  have hD : va_D A [(q1, .inr (0, [.null, .int 0, .null, .null, .null]))] := hD
  refine W.widen (k := 1) (n := 5) (Nat.le_of_ble_eq_true rfl) (Nat.le_of_ble_eq_true rfl) ?_
  refine lv_dup hx hb d_La_law_3 rfl ?_
  have hPc := hP.sub (ws' := [(q1, .inr (0, [.null, .int 0, .null, .null, .null]))]) [0] rfl
  have hDc := hD.sub (ws' := [(q1, .inr (0, [.null, .int 0, .null, .null, .null]))]) [0] (by decide) rfl
  have hFc := va_free (wc := [(q1, .inr (0, [.null, .int 0, .null, .null, .null]))]) hD hS hA [0] rfl
  refine va_callv (va_runI (As := []) (rest := [.ref q1]) ⟨hx, hb, hml, hown, hts⟩ (c_NP_init l G _ q1) (cwI 0 hts (nn_gd mw_113) rfl rfl rfl (hg _ mw_87) (hg _ mw_111) (hg _ mw_112) rfl (by decide +kernel) ⟨Nat.le_of_ble_eq_true rfl, Nat.le_of_ble_eq_true rfl⟩) (nn_preS hPc hDc hK hN) rfl rfl hl.1 rfl (lv_room (Nat.le_of_ble_eq_true rfl)) d_La_law_4 ⟨(Nat.le_of_ble_eq_true rfl), (Nat.le_of_ble_eq_true rfl)⟩) hS (fun q _ h => hFc q h) hFc (fun u2 t H locs ht hvm hw hB hz1 hk1 hS => ?_)
  obtain ⟨z3, z4, z5, z6, z7, z8, z9, z10, z11, z12, z13, z14, z15, z16, z17, z18, z19, z20, z21, z22⟩ := u2
  dsimp only at hB
  obtain ⟨hP1, hD1⟩ := hB
  rw [ht] at hP1
  obtain ⟨hP, hD⟩ := va_join (wr := []) (w1 := [(q1, .inr (0, [.ref z3, .int 0, .ref z4, .ref z16, .ref z20])), (z3, .inl (G.2 1, 180, .inl (fun _ => 0))), (z4, .inr (2, [.ref z5, .ref z9, .ref z12, .int 0, .int (-1), .int (-1)])), (z5, .inr (6, [.ref z6, .ref z7, .ref z8, .int 0, .int 0])), (z6, .inl (G.2 3, 181, .inr (.inr (.inr (.inr (fun _ => none)))))), (z7, .inl (G.2 0, 181, .inl (fun _ => 0))), (z8, .inl (G.2 0, 181, .inl (fun _ => 0))), (z9, .inr (5, [.ref z10, .int 0, .ref z11, .int 0])), (z11, .inl (G.2 0, 5, .inl (fun _ => 0))), (z12, .inr (1, [.ref z13, .ref z14, .ref z15, .int 0])), (z13, .inl (G.2 0, 180, .inl (fun _ => 0))), (z14, .inl (G.2 0, 180, .inl (fun _ => 0))), (z15, .inl (G.2 0, 180, .inl (fun _ => 0))), (z16, .inr (1, [.ref z17, .ref z18, .ref z19, .int 0])), (z17, .inl (G.2 0, 180, .inl (fun _ => 0))), (z18, .inl (G.2 0, 180, .inl (fun _ => 0))), (z19, .inl (G.2 0, 180, .inl (fun _ => 0))), (z20, .inr (3, [.ref z21, .ref z22, .int 0, .int 0, .int 0, .int (-1), .int 0, .int 0])), (z21, .inl (G.2 0, 200, .inl (fun _ => 0))), (z22, .inl (G.2 0, 8, .inl (fun _ => 0)))]) hP hD [0] [] rfl rfl (by decide) (by decide) hk1 hFc hP1 hD1
  have hP : va_P G.1 nn_cls [(q1, .inr (0, [.ref z3, .int 0, .ref z4, .ref z16, .ref z20])), (z3, .inl (G.2 1, 180, .inl (fun _ => 0))), (z4, .inr (2, [.ref z5, .ref z9, .ref z12, .int 0, .int (-1), .int (-1)])), (z5, .inr (6, [.ref z6, .ref z7, .ref z8, .int 0, .int 0])), (z6, .inl (G.2 3, 181, .inr (.inr (.inr (.inr (fun _ => none)))))), (z7, .inl (G.2 0, 181, .inl (fun _ => 0))), (z8, .inl (G.2 0, 181, .inl (fun _ => 0))), (z9, .inr (5, [.ref z10, .int 0, .ref z11, .int 0])), (z11, .inl (G.2 0, 5, .inl (fun _ => 0))), (z12, .inr (1, [.ref z13, .ref z14, .ref z15, .int 0])), (z13, .inl (G.2 0, 180, .inl (fun _ => 0))), (z14, .inl (G.2 0, 180, .inl (fun _ => 0))), (z15, .inl (G.2 0, 180, .inl (fun _ => 0))), (z16, .inr (1, [.ref z17, .ref z18, .ref z19, .int 0])), (z17, .inl (G.2 0, 180, .inl (fun _ => 0))), (z18, .inl (G.2 0, 180, .inl (fun _ => 0))), (z19, .inl (G.2 0, 180, .inl (fun _ => 0))), (z20, .inr (3, [.ref z21, .ref z22, .int 0, .int 0, .int 0, .int (-1), .int 0, .int 0])), (z21, .inl (G.2 0, 200, .inl (fun _ => 0))), (z22, .inl (G.2 0, 8, .inl (fun _ => 0)))] H := hP
  have hD : va_D A [(q1, .inr (0, [.ref z3, .int 0, .ref z4, .ref z16, .ref z20])), (z3, .inl (G.2 1, 180, .inl (fun _ => 0))), (z4, .inr (2, [.ref z5, .ref z9, .ref z12, .int 0, .int (-1), .int (-1)])), (z5, .inr (6, [.ref z6, .ref z7, .ref z8, .int 0, .int 0])), (z6, .inl (G.2 3, 181, .inr (.inr (.inr (.inr (fun _ => none)))))), (z7, .inl (G.2 0, 181, .inl (fun _ => 0))), (z8, .inl (G.2 0, 181, .inl (fun _ => 0))), (z9, .inr (5, [.ref z10, .int 0, .ref z11, .int 0])), (z11, .inl (G.2 0, 5, .inl (fun _ => 0))), (z12, .inr (1, [.ref z13, .ref z14, .ref z15, .int 0])), (z13, .inl (G.2 0, 180, .inl (fun _ => 0))), (z14, .inl (G.2 0, 180, .inl (fun _ => 0))), (z15, .inl (G.2 0, 180, .inl (fun _ => 0))), (z16, .inr (1, [.ref z17, .ref z18, .ref z19, .int 0])), (z17, .inl (G.2 0, 180, .inl (fun _ => 0))), (z18, .inl (G.2 0, 180, .inl (fun _ => 0))), (z19, .inl (G.2 0, 180, .inl (fun _ => 0))), (z20, .inr (3, [.ref z21, .ref z22, .int 0, .int 0, .int 0, .int (-1), .int 0, .int 0])), (z21, .inl (G.2 0, 200, .inl (fun _ => 0))), (z22, .inl (G.2 0, 8, .inl (fun _ => 0)))] := hD
  refine W.widen (k := 111) (n := 2592) (Nat.le_of_ble_eq_true rfl) (Nat.le_of_ble_eq_true rfl) ?_
  refine lv_astore_n (lv' := [(1, .ref q1), (0, .ref b)]) hx hb d_La_law_7 rfl hl (by decide) rfl (fun ls hl => ?_)
  refine va_new (ci := 7) (fs := [.int 0, .int 0, .null, .int 0, .int 0, .int 0, .int 0, .int 0, .int 0, .int 0, .int 0, .int 0, .null, .null, .null, .int 0, .null, .null, .null, .null, .null, .int 0, .int 0, .int 0, .int 0, .int 0, .null, .null, .null, .int 0, .null, .null, .null, .int 0, .int 0, .int 0, .int 0, .int 0, .int 0, .int 0, .null, .null]) (C := R_Mo) (T := T_Mo) (N := 42) hx hb hg in_Mo t_Mo ok_Mo hown (hg _ mw_884) (hg _ mw_885) (hg _ mw_94) hK hP hD hS hA rfl fd_Mo (Nat.le_of_ble_eq_true rfl) (Nat.le_of_ble_eq_true rfl) d_La_law_8 (fun q23 H hP hD hS => ?_)
  have hP : va_P G.1 nn_cls [(q1, .inr (0, [.ref z3, .int 0, .ref z4, .ref z16, .ref z20])), (z3, .inl (G.2 1, 180, .inl (fun _ => 0))), (z4, .inr (2, [.ref z5, .ref z9, .ref z12, .int 0, .int (-1), .int (-1)])), (z5, .inr (6, [.ref z6, .ref z7, .ref z8, .int 0, .int 0])), (z6, .inl (G.2 3, 181, .inr (.inr (.inr (.inr (fun _ => none)))))), (z7, .inl (G.2 0, 181, .inl (fun _ => 0))), (z8, .inl (G.2 0, 181, .inl (fun _ => 0))), (z9, .inr (5, [.ref z10, .int 0, .ref z11, .int 0])), (z11, .inl (G.2 0, 5, .inl (fun _ => 0))), (z12, .inr (1, [.ref z13, .ref z14, .ref z15, .int 0])), (z13, .inl (G.2 0, 180, .inl (fun _ => 0))), (z14, .inl (G.2 0, 180, .inl (fun _ => 0))), (z15, .inl (G.2 0, 180, .inl (fun _ => 0))), (z16, .inr (1, [.ref z17, .ref z18, .ref z19, .int 0])), (z17, .inl (G.2 0, 180, .inl (fun _ => 0))), (z18, .inl (G.2 0, 180, .inl (fun _ => 0))), (z19, .inl (G.2 0, 180, .inl (fun _ => 0))), (z20, .inr (3, [.ref z21, .ref z22, .int 0, .int 0, .int 0, .int (-1), .int 0, .int 0])), (z21, .inl (G.2 0, 200, .inl (fun _ => 0))), (z22, .inl (G.2 0, 8, .inl (fun _ => 0))), (q23, .inr (7, [.int 0, .int 0, .null, .int 0, .int 0, .int 0, .int 0, .int 0, .int 0, .int 0, .int 0, .int 0, .null, .null, .null, .int 0, .null, .null, .null, .null, .null, .int 0, .int 0, .int 0, .int 0, .int 0, .null, .null, .null, .int 0, .null, .null, .null, .int 0, .int 0, .int 0, .int 0, .int 0, .int 0, .int 0, .null, .null]))] H := hP
  have hD : va_D A [(q1, .inr (0, [.ref z3, .int 0, .ref z4, .ref z16, .ref z20])), (z3, .inl (G.2 1, 180, .inl (fun _ => 0))), (z4, .inr (2, [.ref z5, .ref z9, .ref z12, .int 0, .int (-1), .int (-1)])), (z5, .inr (6, [.ref z6, .ref z7, .ref z8, .int 0, .int 0])), (z6, .inl (G.2 3, 181, .inr (.inr (.inr (.inr (fun _ => none)))))), (z7, .inl (G.2 0, 181, .inl (fun _ => 0))), (z8, .inl (G.2 0, 181, .inl (fun _ => 0))), (z9, .inr (5, [.ref z10, .int 0, .ref z11, .int 0])), (z11, .inl (G.2 0, 5, .inl (fun _ => 0))), (z12, .inr (1, [.ref z13, .ref z14, .ref z15, .int 0])), (z13, .inl (G.2 0, 180, .inl (fun _ => 0))), (z14, .inl (G.2 0, 180, .inl (fun _ => 0))), (z15, .inl (G.2 0, 180, .inl (fun _ => 0))), (z16, .inr (1, [.ref z17, .ref z18, .ref z19, .int 0])), (z17, .inl (G.2 0, 180, .inl (fun _ => 0))), (z18, .inl (G.2 0, 180, .inl (fun _ => 0))), (z19, .inl (G.2 0, 180, .inl (fun _ => 0))), (z20, .inr (3, [.ref z21, .ref z22, .int 0, .int 0, .int 0, .int (-1), .int 0, .int 0])), (z21, .inl (G.2 0, 200, .inl (fun _ => 0))), (z22, .inl (G.2 0, 8, .inl (fun _ => 0))), (q23, .inr (7, [.int 0, .int 0, .null, .int 0, .int 0, .int 0, .int 0, .int 0, .int 0, .int 0, .int 0, .int 0, .null, .null, .null, .int 0, .null, .null, .null, .null, .null, .int 0, .int 0, .int 0, .int 0, .int 0, .null, .null, .null, .int 0, .null, .null, .null, .int 0, .int 0, .int 0, .int 0, .int 0, .int 0, .int 0, .null, .null]))] := hD
  refine W.widen (k := 112) (n := 2634) (Nat.le_of_ble_eq_true rfl) (Nat.le_of_ble_eq_true rfl) ?_
  refine lv_dup hx hb d_La_law_11 rfl ?_
  have hPc := hP.sub (ws' := [(q23, .inr (7, [.int 0, .int 0, .null, .int 0, .int 0, .int 0, .int 0, .int 0, .int 0, .int 0, .int 0, .int 0, .null, .null, .null, .int 0, .null, .null, .null, .null, .null, .int 0, .int 0, .int 0, .int 0, .int 0, .null, .null, .null, .int 0, .null, .null, .null, .int 0, .int 0, .int 0, .int 0, .int 0, .int 0, .int 0, .null, .null]))]) [20] rfl
  have hDc := hD.sub (ws' := [(q23, .inr (7, [.int 0, .int 0, .null, .int 0, .int 0, .int 0, .int 0, .int 0, .int 0, .int 0, .int 0, .int 0, .null, .null, .null, .int 0, .null, .null, .null, .null, .null, .int 0, .int 0, .int 0, .int 0, .int 0, .null, .null, .null, .int 0, .null, .null, .null, .int 0, .int 0, .int 0, .int 0, .int 0, .int 0, .int 0, .null, .null]))]) [20] (by decide) rfl
  have hFc := va_free (wc := [(q23, .inr (7, [.int 0, .int 0, .null, .int 0, .int 0, .int 0, .int 0, .int 0, .int 0, .int 0, .int 0, .int 0, .null, .null, .null, .int 0, .null, .null, .null, .null, .null, .int 0, .int 0, .int 0, .int 0, .int 0, .null, .null, .null, .int 0, .null, .null, .null, .int 0, .int 0, .int 0, .int 0, .int 0, .int 0, .int 0, .null, .null]))]) hD hS hA [20] rfl
  refine va_callv (va_runI (As := []) (rest := [.ref q23]) ⟨hx, hb, hml, hown, hts⟩ (c_Mo_init l G _ q23) (cwI 0 hts (nn_gd mw_888) rfl rfl rfl (hg _ mw_94) (hg _ mw_886) (hg _ mw_887) rfl (by decide +kernel) ⟨Nat.le_of_ble_eq_true rfl, Nat.le_of_ble_eq_true rfl⟩) (nn_preS hPc hDc hK hN) rfl rfl hl.1 rfl (lv_room (Nat.le_of_ble_eq_true rfl)) d_La_law_12 ⟨(Nat.le_of_ble_eq_true rfl), (Nat.le_of_ble_eq_true rfl)⟩) hS (fun q _ h => hFc q h) hFc (fun u24 t H locs ht hvm hw hB hz1 hk1 hS => ?_)
  obtain ⟨z25, z26, z27, z28, z29, z30, z31, z32, z33, z34, z35, z36, z37, z38, z39, z40, z41⟩ := u24
  dsimp only at hB
  obtain ⟨hP1, hD1⟩ := hB
  rw [ht] at hP1
  obtain ⟨hP, hD⟩ := va_join (wr := [(q1, .inr (0, [.ref z3, .int 0, .ref z4, .ref z16, .ref z20])), (z3, .inl (G.2 1, 180, .inl (fun _ => 0))), (z4, .inr (2, [.ref z5, .ref z9, .ref z12, .int 0, .int (-1), .int (-1)])), (z5, .inr (6, [.ref z6, .ref z7, .ref z8, .int 0, .int 0])), (z6, .inl (G.2 3, 181, .inr (.inr (.inr (.inr (fun _ => none)))))), (z7, .inl (G.2 0, 181, .inl (fun _ => 0))), (z8, .inl (G.2 0, 181, .inl (fun _ => 0))), (z9, .inr (5, [.ref z10, .int 0, .ref z11, .int 0])), (z11, .inl (G.2 0, 5, .inl (fun _ => 0))), (z12, .inr (1, [.ref z13, .ref z14, .ref z15, .int 0])), (z13, .inl (G.2 0, 180, .inl (fun _ => 0))), (z14, .inl (G.2 0, 180, .inl (fun _ => 0))), (z15, .inl (G.2 0, 180, .inl (fun _ => 0))), (z16, .inr (1, [.ref z17, .ref z18, .ref z19, .int 0])), (z17, .inl (G.2 0, 180, .inl (fun _ => 0))), (z18, .inl (G.2 0, 180, .inl (fun _ => 0))), (z19, .inl (G.2 0, 180, .inl (fun _ => 0))), (z20, .inr (3, [.ref z21, .ref z22, .int 0, .int 0, .int 0, .int (-1), .int 0, .int 0])), (z21, .inl (G.2 0, 200, .inl (fun _ => 0))), (z22, .inl (G.2 0, 8, .inl (fun _ => 0)))]) (w1 := [(q23, .inr (7, [.int 0, .int 0, .ref z25, .int 0, .int 0, .int 0, .int 0, .int 0, .int 0, .int (-1), .int (-1), .int 0, .ref z26, .ref z27, .ref z28, .int 0, .ref z29, .ref z30, .ref z31, .ref z32, .ref z33, .int 0, .int 0, .int 0, .int 0, .int 0, .ref z34, .ref z35, .ref z36, .int 0, .ref z37, .ref z38, .ref z39, .int 0, .int 0, .int 0, .int 0, .int (-1), .int 0, .int 0, .ref z40, .ref z41])), (z25, .inl (G.2 1, 180, .inl (fun _ => 0))), (z26, .inl (G.2 0, 260, .inl (fun _ => 0))), (z27, .inl (G.2 0, 260, .inl (fun _ => 0))), (z28, .inl (G.2 0, 260, .inl (fun _ => 0))), (z34, .inl (G.2 0, 400, .inl (fun _ => 0))), (z35, .inl (G.2 0, 400, .inl (fun _ => 0))), (z36, .inl (G.2 0, 400, .inl (fun _ => 0))), (z40, .inl (G.2 0, 200, .inl (fun _ => 0))), (z41, .inl (G.2 0, 8, .inl (fun _ => 0)))]) hP hD [20] [0, 1, 2, 3, 4, 5, 6, 7, 8, 9, 10, 11, 12, 13, 14, 15, 16, 17, 18, 19] rfl rfl (by decide) (by decide) hk1 hFc hP1 hD1
  have hP : va_P G.1 nn_cls [(q1, .inr (0, [.ref z3, .int 0, .ref z4, .ref z16, .ref z20])), (z3, .inl (G.2 1, 180, .inl (fun _ => 0))), (z4, .inr (2, [.ref z5, .ref z9, .ref z12, .int 0, .int (-1), .int (-1)])), (z5, .inr (6, [.ref z6, .ref z7, .ref z8, .int 0, .int 0])), (z6, .inl (G.2 3, 181, .inr (.inr (.inr (.inr (fun _ => none)))))), (z7, .inl (G.2 0, 181, .inl (fun _ => 0))), (z8, .inl (G.2 0, 181, .inl (fun _ => 0))), (z9, .inr (5, [.ref z10, .int 0, .ref z11, .int 0])), (z11, .inl (G.2 0, 5, .inl (fun _ => 0))), (z12, .inr (1, [.ref z13, .ref z14, .ref z15, .int 0])), (z13, .inl (G.2 0, 180, .inl (fun _ => 0))), (z14, .inl (G.2 0, 180, .inl (fun _ => 0))), (z15, .inl (G.2 0, 180, .inl (fun _ => 0))), (z16, .inr (1, [.ref z17, .ref z18, .ref z19, .int 0])), (z17, .inl (G.2 0, 180, .inl (fun _ => 0))), (z18, .inl (G.2 0, 180, .inl (fun _ => 0))), (z19, .inl (G.2 0, 180, .inl (fun _ => 0))), (z20, .inr (3, [.ref z21, .ref z22, .int 0, .int 0, .int 0, .int (-1), .int 0, .int 0])), (z21, .inl (G.2 0, 200, .inl (fun _ => 0))), (z22, .inl (G.2 0, 8, .inl (fun _ => 0))), (q23, .inr (7, [.int 0, .int 0, .ref z25, .int 0, .int 0, .int 0, .int 0, .int 0, .int 0, .int (-1), .int (-1), .int 0, .ref z26, .ref z27, .ref z28, .int 0, .ref z29, .ref z30, .ref z31, .ref z32, .ref z33, .int 0, .int 0, .int 0, .int 0, .int 0, .ref z34, .ref z35, .ref z36, .int 0, .ref z37, .ref z38, .ref z39, .int 0, .int 0, .int 0, .int 0, .int (-1), .int 0, .int 0, .ref z40, .ref z41])), (z25, .inl (G.2 1, 180, .inl (fun _ => 0))), (z26, .inl (G.2 0, 260, .inl (fun _ => 0))), (z27, .inl (G.2 0, 260, .inl (fun _ => 0))), (z28, .inl (G.2 0, 260, .inl (fun _ => 0))), (z34, .inl (G.2 0, 400, .inl (fun _ => 0))), (z35, .inl (G.2 0, 400, .inl (fun _ => 0))), (z36, .inl (G.2 0, 400, .inl (fun _ => 0))), (z40, .inl (G.2 0, 200, .inl (fun _ => 0))), (z41, .inl (G.2 0, 8, .inl (fun _ => 0)))] H := hP
  have hD : va_D A [(q1, .inr (0, [.ref z3, .int 0, .ref z4, .ref z16, .ref z20])), (z3, .inl (G.2 1, 180, .inl (fun _ => 0))), (z4, .inr (2, [.ref z5, .ref z9, .ref z12, .int 0, .int (-1), .int (-1)])), (z5, .inr (6, [.ref z6, .ref z7, .ref z8, .int 0, .int 0])), (z6, .inl (G.2 3, 181, .inr (.inr (.inr (.inr (fun _ => none)))))), (z7, .inl (G.2 0, 181, .inl (fun _ => 0))), (z8, .inl (G.2 0, 181, .inl (fun _ => 0))), (z9, .inr (5, [.ref z10, .int 0, .ref z11, .int 0])), (z11, .inl (G.2 0, 5, .inl (fun _ => 0))), (z12, .inr (1, [.ref z13, .ref z14, .ref z15, .int 0])), (z13, .inl (G.2 0, 180, .inl (fun _ => 0))), (z14, .inl (G.2 0, 180, .inl (fun _ => 0))), (z15, .inl (G.2 0, 180, .inl (fun _ => 0))), (z16, .inr (1, [.ref z17, .ref z18, .ref z19, .int 0])), (z17, .inl (G.2 0, 180, .inl (fun _ => 0))), (z18, .inl (G.2 0, 180, .inl (fun _ => 0))), (z19, .inl (G.2 0, 180, .inl (fun _ => 0))), (z20, .inr (3, [.ref z21, .ref z22, .int 0, .int 0, .int 0, .int (-1), .int 0, .int 0])), (z21, .inl (G.2 0, 200, .inl (fun _ => 0))), (z22, .inl (G.2 0, 8, .inl (fun _ => 0))), (q23, .inr (7, [.int 0, .int 0, .ref z25, .int 0, .int 0, .int 0, .int 0, .int 0, .int 0, .int (-1), .int (-1), .int 0, .ref z26, .ref z27, .ref z28, .int 0, .ref z29, .ref z30, .ref z31, .ref z32, .ref z33, .int 0, .int 0, .int 0, .int 0, .int 0, .ref z34, .ref z35, .ref z36, .int 0, .ref z37, .ref z38, .ref z39, .int 0, .int 0, .int 0, .int 0, .int (-1), .int 0, .int 0, .ref z40, .ref z41])), (z25, .inl (G.2 1, 180, .inl (fun _ => 0))), (z26, .inl (G.2 0, 260, .inl (fun _ => 0))), (z27, .inl (G.2 0, 260, .inl (fun _ => 0))), (z28, .inl (G.2 0, 260, .inl (fun _ => 0))), (z34, .inl (G.2 0, 400, .inl (fun _ => 0))), (z35, .inl (G.2 0, 400, .inl (fun _ => 0))), (z36, .inl (G.2 0, 400, .inl (fun _ => 0))), (z40, .inl (G.2 0, 200, .inl (fun _ => 0))), (z41, .inl (G.2 0, 8, .inl (fun _ => 0)))] := hD
  refine W.widen (k := 129) (n := 6702) (Nat.le_of_ble_eq_true rfl) (Nat.le_of_ble_eq_true rfl) ?_
  refine lv_astore_n (lv' := [(2, .ref q23), (1, .ref q1), (0, .ref b)]) hx hb d_La_law_15 rfl hl (by decide) rfl (fun ls hl => ?_)
  refine lv_iconst (v := 1) hx hb d_La_law_16 (by decide) ?_
  refine nb_newa (atype := .long) (a0 := (1, .inr (.inl (fun _ => 0)))) (N' := 1) (ty := .long) (cA := G.2 2) hx hb (hg _ mw_1234) rfl hK hP hD hS hA 2 rfl (fun _ => rfl) (by decide) (by decide) (by decide) (Nat.le_of_ble_eq_true rfl) (Nat.le_of_ble_eq_true rfl) d_La_law_17 (fun q42 H hP hD hS => ?_)
  have hP : va_P G.1 nn_cls [(q1, .inr (0, [.ref z3, .int 0, .ref z4, .ref z16, .ref z20])), (z3, .inl (G.2 1, 180, .inl (fun _ => 0))), (z4, .inr (2, [.ref z5, .ref z9, .ref z12, .int 0, .int (-1), .int (-1)])), (z5, .inr (6, [.ref z6, .ref z7, .ref z8, .int 0, .int 0])), (z6, .inl (G.2 3, 181, .inr (.inr (.inr (.inr (fun _ => none)))))), (z7, .inl (G.2 0, 181, .inl (fun _ => 0))), (z8, .inl (G.2 0, 181, .inl (fun _ => 0))), (z9, .inr (5, [.ref z10, .int 0, .ref z11, .int 0])), (z11, .inl (G.2 0, 5, .inl (fun _ => 0))), (z12, .inr (1, [.ref z13, .ref z14, .ref z15, .int 0])), (z13, .inl (G.2 0, 180, .inl (fun _ => 0))), (z14, .inl (G.2 0, 180, .inl (fun _ => 0))), (z15, .inl (G.2 0, 180, .inl (fun _ => 0))), (z16, .inr (1, [.ref z17, .ref z18, .ref z19, .int 0])), (z17, .inl (G.2 0, 180, .inl (fun _ => 0))), (z18, .inl (G.2 0, 180, .inl (fun _ => 0))), (z19, .inl (G.2 0, 180, .inl (fun _ => 0))), (z20, .inr (3, [.ref z21, .ref z22, .int 0, .int 0, .int 0, .int (-1), .int 0, .int 0])), (z21, .inl (G.2 0, 200, .inl (fun _ => 0))), (z22, .inl (G.2 0, 8, .inl (fun _ => 0))), (q23, .inr (7, [.int 0, .int 0, .ref z25, .int 0, .int 0, .int 0, .int 0, .int 0, .int 0, .int (-1), .int (-1), .int 0, .ref z26, .ref z27, .ref z28, .int 0, .ref z29, .ref z30, .ref z31, .ref z32, .ref z33, .int 0, .int 0, .int 0, .int 0, .int 0, .ref z34, .ref z35, .ref z36, .int 0, .ref z37, .ref z38, .ref z39, .int 0, .int 0, .int 0, .int 0, .int (-1), .int 0, .int 0, .ref z40, .ref z41])), (z25, .inl (G.2 1, 180, .inl (fun _ => 0))), (z26, .inl (G.2 0, 260, .inl (fun _ => 0))), (z27, .inl (G.2 0, 260, .inl (fun _ => 0))), (z28, .inl (G.2 0, 260, .inl (fun _ => 0))), (z34, .inl (G.2 0, 400, .inl (fun _ => 0))), (z35, .inl (G.2 0, 400, .inl (fun _ => 0))), (z36, .inl (G.2 0, 400, .inl (fun _ => 0))), (z40, .inl (G.2 0, 200, .inl (fun _ => 0))), (z41, .inl (G.2 0, 8, .inl (fun _ => 0))), (q42, .inl (G.2 2, 1, .inr (.inl (fun _ => 0))))] H := hP
  have hD : va_D A [(q1, .inr (0, [.ref z3, .int 0, .ref z4, .ref z16, .ref z20])), (z3, .inl (G.2 1, 180, .inl (fun _ => 0))), (z4, .inr (2, [.ref z5, .ref z9, .ref z12, .int 0, .int (-1), .int (-1)])), (z5, .inr (6, [.ref z6, .ref z7, .ref z8, .int 0, .int 0])), (z6, .inl (G.2 3, 181, .inr (.inr (.inr (.inr (fun _ => none)))))), (z7, .inl (G.2 0, 181, .inl (fun _ => 0))), (z8, .inl (G.2 0, 181, .inl (fun _ => 0))), (z9, .inr (5, [.ref z10, .int 0, .ref z11, .int 0])), (z11, .inl (G.2 0, 5, .inl (fun _ => 0))), (z12, .inr (1, [.ref z13, .ref z14, .ref z15, .int 0])), (z13, .inl (G.2 0, 180, .inl (fun _ => 0))), (z14, .inl (G.2 0, 180, .inl (fun _ => 0))), (z15, .inl (G.2 0, 180, .inl (fun _ => 0))), (z16, .inr (1, [.ref z17, .ref z18, .ref z19, .int 0])), (z17, .inl (G.2 0, 180, .inl (fun _ => 0))), (z18, .inl (G.2 0, 180, .inl (fun _ => 0))), (z19, .inl (G.2 0, 180, .inl (fun _ => 0))), (z20, .inr (3, [.ref z21, .ref z22, .int 0, .int 0, .int 0, .int (-1), .int 0, .int 0])), (z21, .inl (G.2 0, 200, .inl (fun _ => 0))), (z22, .inl (G.2 0, 8, .inl (fun _ => 0))), (q23, .inr (7, [.int 0, .int 0, .ref z25, .int 0, .int 0, .int 0, .int 0, .int 0, .int 0, .int (-1), .int (-1), .int 0, .ref z26, .ref z27, .ref z28, .int 0, .ref z29, .ref z30, .ref z31, .ref z32, .ref z33, .int 0, .int 0, .int 0, .int 0, .int 0, .ref z34, .ref z35, .ref z36, .int 0, .ref z37, .ref z38, .ref z39, .int 0, .int 0, .int 0, .int 0, .int (-1), .int 0, .int 0, .ref z40, .ref z41])), (z25, .inl (G.2 1, 180, .inl (fun _ => 0))), (z26, .inl (G.2 0, 260, .inl (fun _ => 0))), (z27, .inl (G.2 0, 260, .inl (fun _ => 0))), (z28, .inl (G.2 0, 260, .inl (fun _ => 0))), (z34, .inl (G.2 0, 400, .inl (fun _ => 0))), (z35, .inl (G.2 0, 400, .inl (fun _ => 0))), (z36, .inl (G.2 0, 400, .inl (fun _ => 0))), (z40, .inl (G.2 0, 200, .inl (fun _ => 0))), (z41, .inl (G.2 0, 8, .inl (fun _ => 0))), (q42, .inl (G.2 2, 1, .inr (.inl (fun _ => 0))))] := hD
  refine W.widen (k := 130) (n := 6703) (Nat.le_of_ble_eq_true rfl) (Nat.le_of_ble_eq_true rfl) ?_
  refine lv_astore_n (lv' := [(3, .ref q42), (2, .ref q23), (1, .ref q1), (0, .ref b)]) hx hb d_La_law_19 rfl hl (by decide) rfl (fun ls hl => ?_)
  refine lv_iconst (v := 0) hx hb d_La_law_20 (by decide) ?_
  refine lv_istore (lv' := [(4, .int 0), (3, .ref q42), (2, .ref q23), (1, .ref q1), (0, .ref b)]) hx hb d_La_law_21 hl (by decide) rfl (fun ls hl => ?_)
  refine lv_iload hx hb d_La_law_23 (lv_at hl 0 rfl) ?_
  refine lv_aload_n hx hb d_La_law_25 rfl (lv_at hl 4 rfl) ?_
  refine va_slen hx hb hX hbl hbA hS d_La_law_26 ?_
  have hL4 : L = 0 ∨ L = 1 ∨ L = 2 ∨ L = 3 := by omega
  rcases hL4 with rfl | rfl | rfl | rfl
  · refine nb_top 0 rfl ?_
    refine lv_iconst (v := 3) hx hb d_La_law_27 (by decide) ?_
    refine lv_isub hx hb d_La_law_28 ?_
    refine nb_top (-3) (by decide) ?_
    refine lv_icmp_gt (tgt := 442) hx hb d_La_law_29 rfl (fun _ => ?_) (fun h => absurd (by decide) h)
    refine lv_iconst (v := 1) hx hb d_La_law_442 (by decide) ?_
    refine va_forget (fun q hq => hAf _ (hS.2.2 q hq)) ?_
    refine W.widen (k := 600002) (n := 7302232) (Nat.le_of_ble_eq_true rfl) (Nat.le_of_ble_eq_true rfl) ?_
    exact lw_ret hx hb hr hlocks d_La_law_443
  · refine nb_top 1 rfl ?_
    refine lv_iconst (v := 3) hx hb d_La_law_27 (by decide) ?_
    refine lv_isub hx hb d_La_law_28 ?_
    refine nb_top (-2) (by decide) ?_
    refine lv_icmp_gt (tgt := 442) hx hb d_La_law_29 rfl (fun _ => ?_) (fun h => absurd (by decide) h)
    refine lv_iconst (v := 1) hx hb d_La_law_442 (by decide) ?_
    refine va_forget (fun q hq => hAf _ (hS.2.2 q hq)) ?_
    refine W.widen (k := 600002) (n := 7302232) (Nat.le_of_ble_eq_true rfl) (Nat.le_of_ble_eq_true rfl) ?_
    exact lw_ret hx hb hr hlocks d_La_law_443
  · refine nb_top 2 rfl ?_
    refine lv_iconst (v := 3) hx hb d_La_law_27 (by decide) ?_
    refine lv_isub hx hb d_La_law_28 ?_
    refine nb_top (-1) (by decide) ?_
    refine lv_icmp_gt (tgt := 442) hx hb d_La_law_29 rfl (fun _ => ?_) (fun h => absurd (by decide) h)
    refine lv_iconst (v := 1) hx hb d_La_law_442 (by decide) ?_
    refine va_forget (fun q hq => hAf _ (hS.2.2 q hq)) ?_
    refine W.widen (k := 600002) (n := 7302232) (Nat.le_of_ble_eq_true rfl) (Nat.le_of_ble_eq_true rfl) ?_
    exact lw_ret hx hb hr hlocks d_La_law_443
  · refine nb_top 3 rfl ?_
    refine lv_iconst (v := 3) hx hb d_La_law_27 (by decide) ?_
    refine lv_isub hx hb d_La_law_28 ?_
    refine nb_top 0 (by decide) ?_
    refine lv_icmp_gt (tgt := 442) hx hb d_La_law_29 rfl (fun h => absurd h (by decide)) (fun _ => ?_)
    refine lv_aload_n hx hb d_La_law_32 rfl (lv_at hl 4 rfl) ?_
    refine lv_iload hx hb d_La_law_33 (lv_at hl 0 rfl) ?_
    refine va_sld hx hb hX hbl hbA hS (i := 0) (nb_in rfl) d_La_law_35 ?_
    refine nb_top (xs 0) rfl ?_
    refine lv_bipush (v := 15) hx hb d_La_law_36 (by decide) ?_
    refine lv_iand hx hb d_La_law_38 ?_
    by_cases hk39_0 : (xs 0) &&& 15 = 0
    · skip
      refine lv_tableIn (off := 53) (tgt := 92) hx hb d_La_law_39 (by rw [hk39_0]; decide) (by rw [hk39_0]; decide) (by rw [hk39_0]; decide) rfl ?_
      refine lv_aload_n hx hb d_La_law_92 rfl (lv_at hl 3 rfl) ?_
      refine lv_aload_n hx hb d_La_law_93 rfl (lv_at hl 4 rfl) ?_
      refine lv_iload hx hb d_La_law_94 (lv_at hl 0 rfl) ?_
      refine lv_iconst (v := 1) hx hb d_La_law_96 (by decide) ?_
      refine lv_iadd hx hb d_La_law_97 ?_
      refine nb_top 1 (by decide) ?_
      refine va_sld hx hb hX hbl hbA hS (i := 1) (nb_in rfl) d_La_law_98 ?_
      refine nb_top (xs 1) rfl ?_
      refine lv_i2l (v := (xs 1).toInt64) hx hb d_La_law_99 (rfl) ?_
      refine lv_bipush (v := 32) hx hb d_La_law_100 (by decide) ?_
      refine lv_lshl (v := ((xs 1).toInt64) <<< ((32 : Int32).toInt64 &&& 63)) hx hb d_La_law_102 rfl ?_
      refine lv_aload_n hx hb d_La_law_103 rfl (lv_at hl 4 rfl) ?_
      refine lv_iload hx hb d_La_law_104 (lv_at hl 0 rfl) ?_
      refine lv_iconst (v := 2) hx hb d_La_law_106 (by decide) ?_
      refine lv_iadd hx hb d_La_law_107 ?_
      refine nb_top 2 (by decide) ?_
      refine va_sld hx hb hX hbl hbA hS (i := 2) (nb_in rfl) d_La_law_108 ?_
      refine nb_top (xs 2) rfl ?_
      refine lv_i2l (v := (xs 2).toInt64) hx hb d_La_law_109 (rfl) ?_
      refine lv_ldc2 (v := 4294967295) hx hb hown (hg _ mw_1233) d_La_law_110 ?_
      refine lv_land hx hb d_La_law_113 ?_
      refine lv_lor hx hb d_La_law_114 ?_
      have hPc := hP.sub (ws' := [(q1, .inr (0, [.ref z3, .int 0, .ref z4, .ref z16, .ref z20])), (z3, .inl (G.2 1, 180, .inl (fun _ => 0)))]) [0, 1] rfl
      have hDc := hD.sub (ws' := [(q1, .inr (0, [.ref z3, .int 0, .ref z4, .ref z16, .ref z20])), (z3, .inl (G.2 1, 180, .inl (fun _ => 0)))]) [0, 1] (by decide) rfl
      have hFc := va_free (wc := [(q1, .inr (0, [.ref z3, .int 0, .ref z4, .ref z16, .ref z20])), (z3, .inl (G.2 1, 180, .inl (fun _ => 0)))]) hD hS hA [0, 1] rfl
      refine va_calli (va_runV (As := [.long ((((xs 1).toInt64) <<< ((32 : Int32).toInt64 &&& 63)) ||| (((xs 2).toInt64) &&& 4294967295))]) (rest := []) ⟨hx, hb, hml, hown, hts⟩ (c_NP_write l G _ q1 z3 z4 z16 z20 ((((xs 1).toInt64) <<< ((32 : Int32).toInt64 &&& 63)) ||| (((xs 2).toInt64) &&& 4294967295))) (cwV 1 hts (nn_gV mw_290 mw_287 mw_288 mw_289 mw_87) rfl rfl rfl (by decide +kernel) ⟨Nat.le_of_ble_eq_true rfl, Nat.le_of_ble_eq_true rfl⟩) (nn_preV (va_recv hK hP rfl (q0 := 0) rfl) hPc hDc hK hN) rfl rfl hl.1 rfl (lv_room (Nat.le_of_ble_eq_true rfl)) d_La_law_115 ⟨(Nat.le_of_ble_eq_true rfl), (Nat.le_of_ble_eq_true rfl)⟩) hS (fun q _ h => hFc q h) hFc (fun r44 u43 t H locs ht hvm hw hB hz1 hk1 hS => ?_)
      obtain rfl : r44 = nb_wr ((((xs 1).toInt64) <<< ((32 : Int32).toInt64 &&& 63)) ||| (((xs 2).toInt64) &&& 4294967295)) := hw
      obtain ⟨hP, hD⟩ := va_join (wr := [(z4, .inr (2, [.ref z5, .ref z9, .ref z12, .int 0, .int (-1), .int (-1)])), (z5, .inr (6, [.ref z6, .ref z7, .ref z8, .int 0, .int 0])), (z6, .inl (G.2 3, 181, .inr (.inr (.inr (.inr (fun _ => none)))))), (z7, .inl (G.2 0, 181, .inl (fun _ => 0))), (z8, .inl (G.2 0, 181, .inl (fun _ => 0))), (z9, .inr (5, [.ref z10, .int 0, .ref z11, .int 0])), (z11, .inl (G.2 0, 5, .inl (fun _ => 0))), (z12, .inr (1, [.ref z13, .ref z14, .ref z15, .int 0])), (z13, .inl (G.2 0, 180, .inl (fun _ => 0))), (z14, .inl (G.2 0, 180, .inl (fun _ => 0))), (z15, .inl (G.2 0, 180, .inl (fun _ => 0))), (z16, .inr (1, [.ref z17, .ref z18, .ref z19, .int 0])), (z17, .inl (G.2 0, 180, .inl (fun _ => 0))), (z18, .inl (G.2 0, 180, .inl (fun _ => 0))), (z19, .inl (G.2 0, 180, .inl (fun _ => 0))), (z20, .inr (3, [.ref z21, .ref z22, .int 0, .int 0, .int 0, .int (-1), .int 0, .int 0])), (z21, .inl (G.2 0, 200, .inl (fun _ => 0))), (z22, .inl (G.2 0, 8, .inl (fun _ => 0))), (q23, .inr (7, [.int 0, .int 0, .ref z25, .int 0, .int 0, .int 0, .int 0, .int 0, .int 0, .int (-1), .int (-1), .int 0, .ref z26, .ref z27, .ref z28, .int 0, .ref z29, .ref z30, .ref z31, .ref z32, .ref z33, .int 0, .int 0, .int 0, .int 0, .int 0, .ref z34, .ref z35, .ref z36, .int 0, .ref z37, .ref z38, .ref z39, .int 0, .int 0, .int 0, .int 0, .int (-1), .int 0, .int 0, .ref z40, .ref z41])), (z25, .inl (G.2 1, 180, .inl (fun _ => 0))), (z26, .inl (G.2 0, 260, .inl (fun _ => 0))), (z27, .inl (G.2 0, 260, .inl (fun _ => 0))), (z28, .inl (G.2 0, 260, .inl (fun _ => 0))), (z34, .inl (G.2 0, 400, .inl (fun _ => 0))), (z35, .inl (G.2 0, 400, .inl (fun _ => 0))), (z36, .inl (G.2 0, 400, .inl (fun _ => 0))), (z40, .inl (G.2 0, 200, .inl (fun _ => 0))), (z41, .inl (G.2 0, 8, .inl (fun _ => 0))), (q42, .inl (G.2 2, 1, .inr (.inl (fun _ => 0))))]) (w1 := []) hP hD [0, 1] [2, 3, 4, 5, 6, 7, 8, 9, 10, 11, 12, 13, 14, 15, 16, 17, 18, 19, 20, 21, 22, 23, 24, 25, 26, 27, 28, 29, 30] rfl rfl (by decide) (by decide) hk1 hFc nb_P0 nb_D0
      have hP : va_P G.1 nn_cls [(z4, .inr (2, [.ref z5, .ref z9, .ref z12, .int 0, .int (-1), .int (-1)])), (z5, .inr (6, [.ref z6, .ref z7, .ref z8, .int 0, .int 0])), (z6, .inl (G.2 3, 181, .inr (.inr (.inr (.inr (fun _ => none)))))), (z7, .inl (G.2 0, 181, .inl (fun _ => 0))), (z8, .inl (G.2 0, 181, .inl (fun _ => 0))), (z9, .inr (5, [.ref z10, .int 0, .ref z11, .int 0])), (z11, .inl (G.2 0, 5, .inl (fun _ => 0))), (z12, .inr (1, [.ref z13, .ref z14, .ref z15, .int 0])), (z13, .inl (G.2 0, 180, .inl (fun _ => 0))), (z14, .inl (G.2 0, 180, .inl (fun _ => 0))), (z15, .inl (G.2 0, 180, .inl (fun _ => 0))), (z16, .inr (1, [.ref z17, .ref z18, .ref z19, .int 0])), (z17, .inl (G.2 0, 180, .inl (fun _ => 0))), (z18, .inl (G.2 0, 180, .inl (fun _ => 0))), (z19, .inl (G.2 0, 180, .inl (fun _ => 0))), (z20, .inr (3, [.ref z21, .ref z22, .int 0, .int 0, .int 0, .int (-1), .int 0, .int 0])), (z21, .inl (G.2 0, 200, .inl (fun _ => 0))), (z22, .inl (G.2 0, 8, .inl (fun _ => 0))), (q23, .inr (7, [.int 0, .int 0, .ref z25, .int 0, .int 0, .int 0, .int 0, .int 0, .int 0, .int (-1), .int (-1), .int 0, .ref z26, .ref z27, .ref z28, .int 0, .ref z29, .ref z30, .ref z31, .ref z32, .ref z33, .int 0, .int 0, .int 0, .int 0, .int 0, .ref z34, .ref z35, .ref z36, .int 0, .ref z37, .ref z38, .ref z39, .int 0, .int 0, .int 0, .int 0, .int (-1), .int 0, .int 0, .ref z40, .ref z41])), (z25, .inl (G.2 1, 180, .inl (fun _ => 0))), (z26, .inl (G.2 0, 260, .inl (fun _ => 0))), (z27, .inl (G.2 0, 260, .inl (fun _ => 0))), (z28, .inl (G.2 0, 260, .inl (fun _ => 0))), (z34, .inl (G.2 0, 400, .inl (fun _ => 0))), (z35, .inl (G.2 0, 400, .inl (fun _ => 0))), (z36, .inl (G.2 0, 400, .inl (fun _ => 0))), (z40, .inl (G.2 0, 200, .inl (fun _ => 0))), (z41, .inl (G.2 0, 8, .inl (fun _ => 0))), (q42, .inl (G.2 2, 1, .inr (.inl (fun _ => 0))))] H := hP
      have hD : va_D A [(z4, .inr (2, [.ref z5, .ref z9, .ref z12, .int 0, .int (-1), .int (-1)])), (z5, .inr (6, [.ref z6, .ref z7, .ref z8, .int 0, .int 0])), (z6, .inl (G.2 3, 181, .inr (.inr (.inr (.inr (fun _ => none)))))), (z7, .inl (G.2 0, 181, .inl (fun _ => 0))), (z8, .inl (G.2 0, 181, .inl (fun _ => 0))), (z9, .inr (5, [.ref z10, .int 0, .ref z11, .int 0])), (z11, .inl (G.2 0, 5, .inl (fun _ => 0))), (z12, .inr (1, [.ref z13, .ref z14, .ref z15, .int 0])), (z13, .inl (G.2 0, 180, .inl (fun _ => 0))), (z14, .inl (G.2 0, 180, .inl (fun _ => 0))), (z15, .inl (G.2 0, 180, .inl (fun _ => 0))), (z16, .inr (1, [.ref z17, .ref z18, .ref z19, .int 0])), (z17, .inl (G.2 0, 180, .inl (fun _ => 0))), (z18, .inl (G.2 0, 180, .inl (fun _ => 0))), (z19, .inl (G.2 0, 180, .inl (fun _ => 0))), (z20, .inr (3, [.ref z21, .ref z22, .int 0, .int 0, .int 0, .int (-1), .int 0, .int 0])), (z21, .inl (G.2 0, 200, .inl (fun _ => 0))), (z22, .inl (G.2 0, 8, .inl (fun _ => 0))), (q23, .inr (7, [.int 0, .int 0, .ref z25, .int 0, .int 0, .int 0, .int 0, .int 0, .int 0, .int (-1), .int (-1), .int 0, .ref z26, .ref z27, .ref z28, .int 0, .ref z29, .ref z30, .ref z31, .ref z32, .ref z33, .int 0, .int 0, .int 0, .int 0, .int 0, .ref z34, .ref z35, .ref z36, .int 0, .ref z37, .ref z38, .ref z39, .int 0, .int 0, .int 0, .int 0, .int (-1), .int 0, .int 0, .ref z40, .ref z41])), (z25, .inl (G.2 1, 180, .inl (fun _ => 0))), (z26, .inl (G.2 0, 260, .inl (fun _ => 0))), (z27, .inl (G.2 0, 260, .inl (fun _ => 0))), (z28, .inl (G.2 0, 260, .inl (fun _ => 0))), (z34, .inl (G.2 0, 400, .inl (fun _ => 0))), (z35, .inl (G.2 0, 400, .inl (fun _ => 0))), (z36, .inl (G.2 0, 400, .inl (fun _ => 0))), (z40, .inl (G.2 0, 200, .inl (fun _ => 0))), (z41, .inl (G.2 0, 8, .inl (fun _ => 0))), (q42, .inl (G.2 2, 1, .inr (.inl (fun _ => 0))))] := hD
      refine W.widen (k := 130) (n := 6703) (Nat.le_of_ble_eq_true rfl) (Nat.le_of_ble_eq_true rfl) ?_
      refine lv_aload_n hx hb d_La_law_118 rfl (lv_at hl 2 rfl) ?_
      refine lv_aload_n hx hb d_La_law_119 rfl (lv_at hl 4 rfl) ?_
      refine lv_iload hx hb d_La_law_120 (lv_at hl 0 rfl) ?_
      refine lv_iconst (v := 1) hx hb d_La_law_122 (by decide) ?_
      refine lv_iadd hx hb d_La_law_123 ?_
      refine nb_top 1 (by decide) ?_
      refine va_sld hx hb hX hbl hbA hS (i := 1) (nb_in rfl) d_La_law_124 ?_
      refine nb_top (xs 1) rfl ?_
      refine lv_i2l (v := (xs 1).toInt64) hx hb d_La_law_125 (rfl) ?_
      refine lv_bipush (v := 32) hx hb d_La_law_126 (by decide) ?_
      refine lv_lshl (v := ((xs 1).toInt64) <<< ((32 : Int32).toInt64 &&& 63)) hx hb d_La_law_128 rfl ?_
      refine lv_aload_n hx hb d_La_law_129 rfl (lv_at hl 4 rfl) ?_
      refine lv_iload hx hb d_La_law_130 (lv_at hl 0 rfl) ?_
      refine lv_iconst (v := 2) hx hb d_La_law_132 (by decide) ?_
      refine lv_iadd hx hb d_La_law_133 ?_
      refine nb_top 2 (by decide) ?_
      refine va_sld hx hb hX hbl hbA hS (i := 2) (nb_in rfl) d_La_law_134 ?_
      refine nb_top (xs 2) rfl ?_
      refine lv_i2l (v := (xs 2).toInt64) hx hb d_La_law_135 (rfl) ?_
      refine lv_ldc2 (v := 4294967295) hx hb hown (hg _ mw_1233) d_La_law_136 ?_
      refine lv_land hx hb d_La_law_139 ?_
      refine lv_lor hx hb d_La_law_140 ?_
      have hPc := hP.sub (ws' := [(q23, .inr (7, [.int 0, .int 0, .ref z25, .int 0, .int 0, .int 0, .int 0, .int 0, .int 0, .int (-1), .int (-1), .int 0, .ref z26, .ref z27, .ref z28, .int 0, .ref z29, .ref z30, .ref z31, .ref z32, .ref z33, .int 0, .int 0, .int 0, .int 0, .int 0, .ref z34, .ref z35, .ref z36, .int 0, .ref z37, .ref z38, .ref z39, .int 0, .int 0, .int 0, .int 0, .int (-1), .int 0, .int 0, .ref z40, .ref z41])), (z25, .inl (G.2 1, 180, .inl (fun _ => 0)))]) [18, 19] rfl
      have hDc := hD.sub (ws' := [(q23, .inr (7, [.int 0, .int 0, .ref z25, .int 0, .int 0, .int 0, .int 0, .int 0, .int 0, .int (-1), .int (-1), .int 0, .ref z26, .ref z27, .ref z28, .int 0, .ref z29, .ref z30, .ref z31, .ref z32, .ref z33, .int 0, .int 0, .int 0, .int 0, .int 0, .ref z34, .ref z35, .ref z36, .int 0, .ref z37, .ref z38, .ref z39, .int 0, .int 0, .int 0, .int 0, .int (-1), .int 0, .int 0, .ref z40, .ref z41])), (z25, .inl (G.2 1, 180, .inl (fun _ => 0)))]) [18, 19] (by decide) rfl
      have hFc := va_free (wc := [(q23, .inr (7, [.int 0, .int 0, .ref z25, .int 0, .int 0, .int 0, .int 0, .int 0, .int 0, .int (-1), .int (-1), .int 0, .ref z26, .ref z27, .ref z28, .int 0, .ref z29, .ref z30, .ref z31, .ref z32, .ref z33, .int 0, .int 0, .int 0, .int 0, .int 0, .ref z34, .ref z35, .ref z36, .int 0, .ref z37, .ref z38, .ref z39, .int 0, .int 0, .int 0, .int 0, .int (-1), .int 0, .int 0, .ref z40, .ref z41])), (z25, .inl (G.2 1, 180, .inl (fun _ => 0)))]) hD hS hA [18, 19] rfl
      refine va_calli (va_runV (As := [.long ((((xs 1).toInt64) <<< ((32 : Int32).toInt64 &&& 63)) ||| (((xs 2).toInt64) &&& 4294967295))]) (rest := [.int (nb_wr ((((xs 1).toInt64) <<< ((32 : Int32).toInt64 &&& 63)) ||| (((xs 2).toInt64) &&& 4294967295)))]) ⟨hx, hb, hml, hown, hts⟩ (c_Mo_write l G _ q23 z25 z26 z27 z28 z29 z30 z31 z32 z33 z34 z35 z36 z37 z38 z39 z40 z41 ((((xs 1).toInt64) <<< ((32 : Int32).toInt64 &&& 63)) ||| (((xs 2).toInt64) &&& 4294967295))) (cwV 1 hts (nn_gV mw_1024 mw_1021 mw_1022 mw_1023 mw_94) rfl rfl rfl (by decide +kernel) ⟨Nat.le_of_ble_eq_true rfl, Nat.le_of_ble_eq_true rfl⟩) (nn_preV (va_recv hK hP rfl (q0 := 18) rfl) hPc hDc hK hN) rfl rfl hl.1 rfl (lv_room (Nat.le_of_ble_eq_true rfl)) d_La_law_141 ⟨(Nat.le_of_ble_eq_true rfl), (Nat.le_of_ble_eq_true rfl)⟩) hS (fun q _ h => hFc q h) hFc (fun r46 u45 t H locs ht hvm hw hB hz1 hk1 hS => ?_)
      obtain rfl : r46 = nb_wr ((((xs 1).toInt64) <<< ((32 : Int32).toInt64 &&& 63)) ||| (((xs 2).toInt64) &&& 4294967295)) := hw
      obtain ⟨hP, hD⟩ := va_join (wr := [(z4, .inr (2, [.ref z5, .ref z9, .ref z12, .int 0, .int (-1), .int (-1)])), (z5, .inr (6, [.ref z6, .ref z7, .ref z8, .int 0, .int 0])), (z6, .inl (G.2 3, 181, .inr (.inr (.inr (.inr (fun _ => none)))))), (z7, .inl (G.2 0, 181, .inl (fun _ => 0))), (z8, .inl (G.2 0, 181, .inl (fun _ => 0))), (z9, .inr (5, [.ref z10, .int 0, .ref z11, .int 0])), (z11, .inl (G.2 0, 5, .inl (fun _ => 0))), (z12, .inr (1, [.ref z13, .ref z14, .ref z15, .int 0])), (z13, .inl (G.2 0, 180, .inl (fun _ => 0))), (z14, .inl (G.2 0, 180, .inl (fun _ => 0))), (z15, .inl (G.2 0, 180, .inl (fun _ => 0))), (z16, .inr (1, [.ref z17, .ref z18, .ref z19, .int 0])), (z17, .inl (G.2 0, 180, .inl (fun _ => 0))), (z18, .inl (G.2 0, 180, .inl (fun _ => 0))), (z19, .inl (G.2 0, 180, .inl (fun _ => 0))), (z20, .inr (3, [.ref z21, .ref z22, .int 0, .int 0, .int 0, .int (-1), .int 0, .int 0])), (z21, .inl (G.2 0, 200, .inl (fun _ => 0))), (z22, .inl (G.2 0, 8, .inl (fun _ => 0))), (z26, .inl (G.2 0, 260, .inl (fun _ => 0))), (z27, .inl (G.2 0, 260, .inl (fun _ => 0))), (z28, .inl (G.2 0, 260, .inl (fun _ => 0))), (z34, .inl (G.2 0, 400, .inl (fun _ => 0))), (z35, .inl (G.2 0, 400, .inl (fun _ => 0))), (z36, .inl (G.2 0, 400, .inl (fun _ => 0))), (z40, .inl (G.2 0, 200, .inl (fun _ => 0))), (z41, .inl (G.2 0, 8, .inl (fun _ => 0))), (q42, .inl (G.2 2, 1, .inr (.inl (fun _ => 0))))]) (w1 := []) hP hD [18, 19] [0, 1, 2, 3, 4, 5, 6, 7, 8, 9, 10, 11, 12, 13, 14, 15, 16, 17, 20, 21, 22, 23, 24, 25, 26, 27, 28] rfl rfl (by decide) (by decide) hk1 hFc nb_P0 nb_D0
      have hP : va_P G.1 nn_cls [(z4, .inr (2, [.ref z5, .ref z9, .ref z12, .int 0, .int (-1), .int (-1)])), (z5, .inr (6, [.ref z6, .ref z7, .ref z8, .int 0, .int 0])), (z6, .inl (G.2 3, 181, .inr (.inr (.inr (.inr (fun _ => none)))))), (z7, .inl (G.2 0, 181, .inl (fun _ => 0))), (z8, .inl (G.2 0, 181, .inl (fun _ => 0))), (z9, .inr (5, [.ref z10, .int 0, .ref z11, .int 0])), (z11, .inl (G.2 0, 5, .inl (fun _ => 0))), (z12, .inr (1, [.ref z13, .ref z14, .ref z15, .int 0])), (z13, .inl (G.2 0, 180, .inl (fun _ => 0))), (z14, .inl (G.2 0, 180, .inl (fun _ => 0))), (z15, .inl (G.2 0, 180, .inl (fun _ => 0))), (z16, .inr (1, [.ref z17, .ref z18, .ref z19, .int 0])), (z17, .inl (G.2 0, 180, .inl (fun _ => 0))), (z18, .inl (G.2 0, 180, .inl (fun _ => 0))), (z19, .inl (G.2 0, 180, .inl (fun _ => 0))), (z20, .inr (3, [.ref z21, .ref z22, .int 0, .int 0, .int 0, .int (-1), .int 0, .int 0])), (z21, .inl (G.2 0, 200, .inl (fun _ => 0))), (z22, .inl (G.2 0, 8, .inl (fun _ => 0))), (z26, .inl (G.2 0, 260, .inl (fun _ => 0))), (z27, .inl (G.2 0, 260, .inl (fun _ => 0))), (z28, .inl (G.2 0, 260, .inl (fun _ => 0))), (z34, .inl (G.2 0, 400, .inl (fun _ => 0))), (z35, .inl (G.2 0, 400, .inl (fun _ => 0))), (z36, .inl (G.2 0, 400, .inl (fun _ => 0))), (z40, .inl (G.2 0, 200, .inl (fun _ => 0))), (z41, .inl (G.2 0, 8, .inl (fun _ => 0))), (q42, .inl (G.2 2, 1, .inr (.inl (fun _ => 0))))] H := hP
      have hD : va_D A [(z4, .inr (2, [.ref z5, .ref z9, .ref z12, .int 0, .int (-1), .int (-1)])), (z5, .inr (6, [.ref z6, .ref z7, .ref z8, .int 0, .int 0])), (z6, .inl (G.2 3, 181, .inr (.inr (.inr (.inr (fun _ => none)))))), (z7, .inl (G.2 0, 181, .inl (fun _ => 0))), (z8, .inl (G.2 0, 181, .inl (fun _ => 0))), (z9, .inr (5, [.ref z10, .int 0, .ref z11, .int 0])), (z11, .inl (G.2 0, 5, .inl (fun _ => 0))), (z12, .inr (1, [.ref z13, .ref z14, .ref z15, .int 0])), (z13, .inl (G.2 0, 180, .inl (fun _ => 0))), (z14, .inl (G.2 0, 180, .inl (fun _ => 0))), (z15, .inl (G.2 0, 180, .inl (fun _ => 0))), (z16, .inr (1, [.ref z17, .ref z18, .ref z19, .int 0])), (z17, .inl (G.2 0, 180, .inl (fun _ => 0))), (z18, .inl (G.2 0, 180, .inl (fun _ => 0))), (z19, .inl (G.2 0, 180, .inl (fun _ => 0))), (z20, .inr (3, [.ref z21, .ref z22, .int 0, .int 0, .int 0, .int (-1), .int 0, .int 0])), (z21, .inl (G.2 0, 200, .inl (fun _ => 0))), (z22, .inl (G.2 0, 8, .inl (fun _ => 0))), (z26, .inl (G.2 0, 260, .inl (fun _ => 0))), (z27, .inl (G.2 0, 260, .inl (fun _ => 0))), (z28, .inl (G.2 0, 260, .inl (fun _ => 0))), (z34, .inl (G.2 0, 400, .inl (fun _ => 0))), (z35, .inl (G.2 0, 400, .inl (fun _ => 0))), (z36, .inl (G.2 0, 400, .inl (fun _ => 0))), (z40, .inl (G.2 0, 200, .inl (fun _ => 0))), (z41, .inl (G.2 0, 8, .inl (fun _ => 0))), (q42, .inl (G.2 2, 1, .inr (.inl (fun _ => 0))))] := hD
      refine W.widen (k := 130) (n := 6703) (Nat.le_of_ble_eq_true rfl) (Nat.le_of_ble_eq_true rfl) ?_
      refine lv_icmp_eq (tgt := 436) hx hb d_La_law_144 rfl (fun _ => ?_) (fun h => absurd (rfl) h)
      refine lv_iinc (k := 0) (v := 3) (lv' := [(4, .int 3), (3, .ref q42), (2, .ref q23), (1, .ref q1), (0, .ref b)]) hx hb d_La_law_436 hl rfl (by decide) (by decide) rfl (fun ls hl => ?_)
      refine lv_goto (tgt := 23) hx hb d_La_law_439 rfl ?_
      refine lv_iload hx hb d_La_law_23 (lv_at hl 0 rfl) ?_
      refine lv_aload_n hx hb d_La_law_25 rfl (lv_at hl 4 rfl) ?_
      refine va_slen hx hb hX hbl hbA hS d_La_law_26 ?_
      refine nb_top 3 rfl ?_
      refine lv_iconst (v := 3) hx hb d_La_law_27 (by decide) ?_
      refine lv_isub hx hb d_La_law_28 ?_
      refine nb_top 0 (by decide) ?_
      refine lv_icmp_gt (tgt := 442) hx hb d_La_law_29 rfl (fun _ => ?_) (fun h => absurd (by decide) h)
      refine lv_iconst (v := 1) hx hb d_La_law_442 (by decide) ?_
      refine va_forget (fun q hq => hAf _ (hS.2.2 q hq)) ?_
      refine W.widen (k := 600002) (n := 7302232) (Nat.le_of_ble_eq_true rfl) (Nat.le_of_ble_eq_true rfl) ?_
      exact lw_ret hx hb hr hlocks d_La_law_443
    by_cases hk39_1 : (xs 0) &&& 15 = 1
    · skip
      refine lv_tableIn (off := 110) (tgt := 149) hx hb d_La_law_39 (by rw [hk39_1]; decide) (by rw [hk39_1]; decide) (by rw [hk39_1]; decide) rfl ?_
      refine lv_aload_n hx hb d_La_law_149 rfl (lv_at hl 3 rfl) ?_
      refine lv_aload_n hx hb d_La_law_150 rfl (lv_at hl 1 rfl) ?_
      have hPc := hP.sub (ws' := [(q1, .inr (0, [.ref z3, .int 0, .ref z4, .ref z16, .ref z20])), (z3, .inl (G.2 1, 180, .inl (fun _ => 0))), (z4, .inr (2, [.ref z5, .ref z9, .ref z12, .int 0, .int (-1), .int (-1)])), (z5, .inr (6, [.ref z6, .ref z7, .ref z8, .int 0, .int 0])), (z6, .inl (G.2 3, 181, .inr (.inr (.inr (.inr (fun _ => none)))))), (z7, .inl (G.2 0, 181, .inl (fun _ => 0))), (z8, .inl (G.2 0, 181, .inl (fun _ => 0))), (z9, .inr (5, [.ref z10, .int 0, .ref z11, .int 0])), (z11, .inl (G.2 0, 5, .inl (fun _ => 0))), (z12, .inr (1, [.ref z13, .ref z14, .ref z15, .int 0])), (z13, .inl (G.2 0, 180, .inl (fun _ => 0))), (z14, .inl (G.2 0, 180, .inl (fun _ => 0))), (z15, .inl (G.2 0, 180, .inl (fun _ => 0))), (q42, .inl (G.2 2, 1, .inr (.inl (fun _ => 0))))]) [0, 1, 2, 3, 4, 5, 6, 7, 8, 9, 10, 11, 12, 30] rfl
      have hDc := hD.sub (ws' := [(q1, .inr (0, [.ref z3, .int 0, .ref z4, .ref z16, .ref z20])), (z3, .inl (G.2 1, 180, .inl (fun _ => 0))), (z4, .inr (2, [.ref z5, .ref z9, .ref z12, .int 0, .int (-1), .int (-1)])), (z5, .inr (6, [.ref z6, .ref z7, .ref z8, .int 0, .int 0])), (z6, .inl (G.2 3, 181, .inr (.inr (.inr (.inr (fun _ => none)))))), (z7, .inl (G.2 0, 181, .inl (fun _ => 0))), (z8, .inl (G.2 0, 181, .inl (fun _ => 0))), (z9, .inr (5, [.ref z10, .int 0, .ref z11, .int 0])), (z11, .inl (G.2 0, 5, .inl (fun _ => 0))), (z12, .inr (1, [.ref z13, .ref z14, .ref z15, .int 0])), (z13, .inl (G.2 0, 180, .inl (fun _ => 0))), (z14, .inl (G.2 0, 180, .inl (fun _ => 0))), (z15, .inl (G.2 0, 180, .inl (fun _ => 0))), (q42, .inl (G.2 2, 1, .inr (.inl (fun _ => 0))))]) [0, 1, 2, 3, 4, 5, 6, 7, 8, 9, 10, 11, 12, 30] (by decide) rfl
      have hFc := va_free (wc := [(q1, .inr (0, [.ref z3, .int 0, .ref z4, .ref z16, .ref z20])), (z3, .inl (G.2 1, 180, .inl (fun _ => 0))), (z4, .inr (2, [.ref z5, .ref z9, .ref z12, .int 0, .int (-1), .int (-1)])), (z5, .inr (6, [.ref z6, .ref z7, .ref z8, .int 0, .int 0])), (z6, .inl (G.2 3, 181, .inr (.inr (.inr (.inr (fun _ => none)))))), (z7, .inl (G.2 0, 181, .inl (fun _ => 0))), (z8, .inl (G.2 0, 181, .inl (fun _ => 0))), (z9, .inr (5, [.ref z10, .int 0, .ref z11, .int 0])), (z11, .inl (G.2 0, 5, .inl (fun _ => 0))), (z12, .inr (1, [.ref z13, .ref z14, .ref z15, .int 0])), (z13, .inl (G.2 0, 180, .inl (fun _ => 0))), (z14, .inl (G.2 0, 180, .inl (fun _ => 0))), (z15, .inl (G.2 0, 180, .inl (fun _ => 0))), (q42, .inl (G.2 2, 1, .inr (.inl (fun _ => 0))))]) hD hS hA [0, 1, 2, 3, 4, 5, 6, 7, 8, 9, 10, 11, 12, 30] rfl
      refine va_calli (nt_runSW (n := 2) (hh := [(0, 8, 11, 13)]) (As := [.ref q1, .ref q42]) (rest := []) ⟨hx, hb, hml, hown, hts⟩ (c_La_compile l hfl G tk _ q1 z3 z4 z16 z20 z5 z6 z7 z8 z9 z10 z11 z12 z13 z14 z15 q42) rfl rfl ⟨Nat.le_of_ble_eq_true rfl, Nat.le_of_ble_eq_true rfl⟩ mw_391 mw_389 mw_390 mw_86 (by decide +kernel) (ns_preS hPc hDc hK hN hE hS hFc) rfl rfl hl.1 rfl (lv_room (Nat.le_of_ble_eq_true rfl)) d_La_law_151 ⟨Nat.le_of_ble_eq_true rfl, Nat.le_of_ble_eq_true rfl⟩) hS (fun q _ h => hFc q h) hFc (fun r48 u47 t H locs ht hvm hw hB hz1 hk1 hS => ?_)
      obtain rfl : r48 = 1 := hw
      obtain ⟨hP, hD⟩ := va_join (wr := [(z16, .inr (1, [.ref z17, .ref z18, .ref z19, .int 0])), (z17, .inl (G.2 0, 180, .inl (fun _ => 0))), (z18, .inl (G.2 0, 180, .inl (fun _ => 0))), (z19, .inl (G.2 0, 180, .inl (fun _ => 0))), (z20, .inr (3, [.ref z21, .ref z22, .int 0, .int 0, .int 0, .int (-1), .int 0, .int 0])), (z21, .inl (G.2 0, 200, .inl (fun _ => 0))), (z22, .inl (G.2 0, 8, .inl (fun _ => 0))), (q23, .inr (7, [.int 0, .int 0, .ref z25, .int 0, .int 0, .int 0, .int 0, .int 0, .int 0, .int (-1), .int (-1), .int 0, .ref z26, .ref z27, .ref z28, .int 0, .ref z29, .ref z30, .ref z31, .ref z32, .ref z33, .int 0, .int 0, .int 0, .int 0, .int 0, .ref z34, .ref z35, .ref z36, .int 0, .ref z37, .ref z38, .ref z39, .int 0, .int 0, .int 0, .int 0, .int (-1), .int 0, .int 0, .ref z40, .ref z41])), (z25, .inl (G.2 1, 180, .inl (fun _ => 0))), (z26, .inl (G.2 0, 260, .inl (fun _ => 0))), (z27, .inl (G.2 0, 260, .inl (fun _ => 0))), (z28, .inl (G.2 0, 260, .inl (fun _ => 0))), (z34, .inl (G.2 0, 400, .inl (fun _ => 0))), (z35, .inl (G.2 0, 400, .inl (fun _ => 0))), (z36, .inl (G.2 0, 400, .inl (fun _ => 0))), (z40, .inl (G.2 0, 200, .inl (fun _ => 0))), (z41, .inl (G.2 0, 8, .inl (fun _ => 0)))]) (w1 := []) hP hD [0, 1, 2, 3, 4, 5, 6, 7, 8, 9, 10, 11, 12, 30] [13, 14, 15, 16, 17, 18, 19, 20, 21, 22, 23, 24, 25, 26, 27, 28, 29] rfl rfl (by decide) (by decide) hk1 hFc nb_P0 nb_D0
      have hP : va_P G.1 nn_cls [(z16, .inr (1, [.ref z17, .ref z18, .ref z19, .int 0])), (z17, .inl (G.2 0, 180, .inl (fun _ => 0))), (z18, .inl (G.2 0, 180, .inl (fun _ => 0))), (z19, .inl (G.2 0, 180, .inl (fun _ => 0))), (z20, .inr (3, [.ref z21, .ref z22, .int 0, .int 0, .int 0, .int (-1), .int 0, .int 0])), (z21, .inl (G.2 0, 200, .inl (fun _ => 0))), (z22, .inl (G.2 0, 8, .inl (fun _ => 0))), (q23, .inr (7, [.int 0, .int 0, .ref z25, .int 0, .int 0, .int 0, .int 0, .int 0, .int 0, .int (-1), .int (-1), .int 0, .ref z26, .ref z27, .ref z28, .int 0, .ref z29, .ref z30, .ref z31, .ref z32, .ref z33, .int 0, .int 0, .int 0, .int 0, .int 0, .ref z34, .ref z35, .ref z36, .int 0, .ref z37, .ref z38, .ref z39, .int 0, .int 0, .int 0, .int 0, .int (-1), .int 0, .int 0, .ref z40, .ref z41])), (z25, .inl (G.2 1, 180, .inl (fun _ => 0))), (z26, .inl (G.2 0, 260, .inl (fun _ => 0))), (z27, .inl (G.2 0, 260, .inl (fun _ => 0))), (z28, .inl (G.2 0, 260, .inl (fun _ => 0))), (z34, .inl (G.2 0, 400, .inl (fun _ => 0))), (z35, .inl (G.2 0, 400, .inl (fun _ => 0))), (z36, .inl (G.2 0, 400, .inl (fun _ => 0))), (z40, .inl (G.2 0, 200, .inl (fun _ => 0))), (z41, .inl (G.2 0, 8, .inl (fun _ => 0)))] H := hP
      have hD : va_D A [(z16, .inr (1, [.ref z17, .ref z18, .ref z19, .int 0])), (z17, .inl (G.2 0, 180, .inl (fun _ => 0))), (z18, .inl (G.2 0, 180, .inl (fun _ => 0))), (z19, .inl (G.2 0, 180, .inl (fun _ => 0))), (z20, .inr (3, [.ref z21, .ref z22, .int 0, .int 0, .int 0, .int (-1), .int 0, .int 0])), (z21, .inl (G.2 0, 200, .inl (fun _ => 0))), (z22, .inl (G.2 0, 8, .inl (fun _ => 0))), (q23, .inr (7, [.int 0, .int 0, .ref z25, .int 0, .int 0, .int 0, .int 0, .int 0, .int 0, .int (-1), .int (-1), .int 0, .ref z26, .ref z27, .ref z28, .int 0, .ref z29, .ref z30, .ref z31, .ref z32, .ref z33, .int 0, .int 0, .int 0, .int 0, .int 0, .ref z34, .ref z35, .ref z36, .int 0, .ref z37, .ref z38, .ref z39, .int 0, .int 0, .int 0, .int 0, .int (-1), .int 0, .int 0, .ref z40, .ref z41])), (z25, .inl (G.2 1, 180, .inl (fun _ => 0))), (z26, .inl (G.2 0, 260, .inl (fun _ => 0))), (z27, .inl (G.2 0, 260, .inl (fun _ => 0))), (z28, .inl (G.2 0, 260, .inl (fun _ => 0))), (z34, .inl (G.2 0, 400, .inl (fun _ => 0))), (z35, .inl (G.2 0, 400, .inl (fun _ => 0))), (z36, .inl (G.2 0, 400, .inl (fun _ => 0))), (z40, .inl (G.2 0, 200, .inl (fun _ => 0))), (z41, .inl (G.2 0, 8, .inl (fun _ => 0)))] := hD
      refine W.widen (k := 131) (n := 6709) (Nat.le_of_ble_eq_true rfl) (Nat.le_of_ble_eq_true rfl) ?_
      refine lv_istore (lv' := [(5, .int 1), (4, .int 0), (3, .ref q42), (2, .ref q23), (1, .ref q1), (0, .ref b)]) hx hb d_La_law_154 hl (by decide) rfl (fun ls hl => ?_)
      refine lv_aload_n hx hb d_La_law_156 rfl (lv_at hl 3 rfl) ?_
      have hPc := hP.sub (ws' := [(q23, .inr (7, [.int 0, .int 0, .ref z25, .int 0, .int 0, .int 0, .int 0, .int 0, .int 0, .int (-1), .int (-1), .int 0, .ref z26, .ref z27, .ref z28, .int 0, .ref z29, .ref z30, .ref z31, .ref z32, .ref z33, .int 0, .int 0, .int 0, .int 0, .int 0, .ref z34, .ref z35, .ref z36, .int 0, .ref z37, .ref z38, .ref z39, .int 0, .int 0, .int 0, .int 0, .int (-1), .int 0, .int 0, .ref z40, .ref z41])), (z25, .inl (G.2 1, 180, .inl (fun _ => 0))), (z26, .inl (G.2 0, 260, .inl (fun _ => 0))), (z27, .inl (G.2 0, 260, .inl (fun _ => 0))), (z28, .inl (G.2 0, 260, .inl (fun _ => 0))), (z34, .inl (G.2 0, 400, .inl (fun _ => 0))), (z35, .inl (G.2 0, 400, .inl (fun _ => 0))), (z36, .inl (G.2 0, 400, .inl (fun _ => 0)))]) [7, 8, 9, 10, 11, 12, 13, 14] rfl
      have hDc := hD.sub (ws' := [(q23, .inr (7, [.int 0, .int 0, .ref z25, .int 0, .int 0, .int 0, .int 0, .int 0, .int 0, .int (-1), .int (-1), .int 0, .ref z26, .ref z27, .ref z28, .int 0, .ref z29, .ref z30, .ref z31, .ref z32, .ref z33, .int 0, .int 0, .int 0, .int 0, .int 0, .ref z34, .ref z35, .ref z36, .int 0, .ref z37, .ref z38, .ref z39, .int 0, .int 0, .int 0, .int 0, .int (-1), .int 0, .int 0, .ref z40, .ref z41])), (z25, .inl (G.2 1, 180, .inl (fun _ => 0))), (z26, .inl (G.2 0, 260, .inl (fun _ => 0))), (z27, .inl (G.2 0, 260, .inl (fun _ => 0))), (z28, .inl (G.2 0, 260, .inl (fun _ => 0))), (z34, .inl (G.2 0, 400, .inl (fun _ => 0))), (z35, .inl (G.2 0, 400, .inl (fun _ => 0))), (z36, .inl (G.2 0, 400, .inl (fun _ => 0)))]) [7, 8, 9, 10, 11, 12, 13, 14] (by decide) rfl
      have hFc := va_free (wc := [(q23, .inr (7, [.int 0, .int 0, .ref z25, .int 0, .int 0, .int 0, .int 0, .int 0, .int 0, .int (-1), .int (-1), .int 0, .ref z26, .ref z27, .ref z28, .int 0, .ref z29, .ref z30, .ref z31, .ref z32, .ref z33, .int 0, .int 0, .int 0, .int 0, .int 0, .ref z34, .ref z35, .ref z36, .int 0, .ref z37, .ref z38, .ref z39, .int 0, .int 0, .int 0, .int 0, .int (-1), .int 0, .int 0, .ref z40, .ref z41])), (z25, .inl (G.2 1, 180, .inl (fun _ => 0))), (z26, .inl (G.2 0, 260, .inl (fun _ => 0))), (z27, .inl (G.2 0, 260, .inl (fun _ => 0))), (z28, .inl (G.2 0, 260, .inl (fun _ => 0))), (z34, .inl (G.2 0, 400, .inl (fun _ => 0))), (z35, .inl (G.2 0, 400, .inl (fun _ => 0))), (z36, .inl (G.2 0, 400, .inl (fun _ => 0)))]) hD hS hA [7, 8, 9, 10, 11, 12, 13, 14] rfl
      refine va_calli (va_runV (As := []) (rest := []) ⟨hx, hb, hml, hown, hts⟩ (c_Mo_compile l G _ q23 z25 z26 z27 z28 z34 z35 z36 z29 z30 z31 z32 z33 z37 z38 z39 z40 z41) (cwV 0 hts (nn_gV mw_1028 mw_1025 mw_1026 mw_1027 mw_94) rfl rfl rfl (by decide +kernel) ⟨Nat.le_of_ble_eq_true rfl, Nat.le_of_ble_eq_true rfl⟩) (nn_preV (va_recv hK hP rfl (q0 := 7) rfl) hPc hDc hK hN) rfl rfl hl.1 rfl (lv_room (Nat.le_of_ble_eq_true rfl)) d_La_law_157 ⟨(Nat.le_of_ble_eq_true rfl), (Nat.le_of_ble_eq_true rfl)⟩) hS (fun q _ h => hFc q h) hFc (fun r50 u49 t H locs ht hvm hw hB hz1 hk1 hS => ?_)
      obtain rfl : r50 = 0 := hw
      obtain ⟨hP1, hD1⟩ := hB
      rw [ht] at hP1
      obtain ⟨hP, hD⟩ := va_join (wr := [(z16, .inr (1, [.ref z17, .ref z18, .ref z19, .int 0])), (z17, .inl (G.2 0, 180, .inl (fun _ => 0))), (z18, .inl (G.2 0, 180, .inl (fun _ => 0))), (z19, .inl (G.2 0, 180, .inl (fun _ => 0))), (z20, .inr (3, [.ref z21, .ref z22, .int 0, .int 0, .int 0, .int (-1), .int 0, .int 0])), (z21, .inl (G.2 0, 200, .inl (fun _ => 0))), (z22, .inl (G.2 0, 8, .inl (fun _ => 0))), (z40, .inl (G.2 0, 200, .inl (fun _ => 0))), (z41, .inl (G.2 0, 8, .inl (fun _ => 0)))]) (w1 := [(q23, .inr (7, [.int 1, .int 0, .ref z25, .int 0, .int 0, .int 0, .int 0, .int 1, .int 0, .int 1, .int 0, .int 1, .ref z26, .ref z27, .ref z28, .int 0, .ref z29, .ref z30, .ref z31, .ref z32, .ref z33, .int 0, .int 3, .int 0, .int 0, .int 1, .ref z34, .ref z35, .ref z36, .int 0, .ref z37, .ref z38, .ref z39, .int 0, .int 0, .int 0, .int 0, .int (-1), .int 0, .int 0, .ref z40, .ref z41])), (z25, .inl (G.2 1, 180, .inl (fun _ => 0))), (z26, .inl (G.2 0, 260, .inl (upd (upd (upd (fun _ => 0) (0 : Int32).toNatClampNeg 4) (1 : Int32).toNatClampNeg 0) (1 : Int32).toNatClampNeg 1))), (z27, .inl (G.2 0, 260, .inl (upd (upd (upd (fun _ => 0) (0 : Int32).toNatClampNeg 0) (1 : Int32).toNatClampNeg 0) (1 : Int32).toNatClampNeg 0))), (z28, .inl (G.2 0, 260, .inl (upd (upd (upd (fun _ => 0) (0 : Int32).toNatClampNeg 0) (1 : Int32).toNatClampNeg 0) (1 : Int32).toNatClampNeg 0))), (z34, .inl (G.2 0, 400, .inl (upd (fun _ => 0) (0 : Int32).toNatClampNeg 7))), (z35, .inl (G.2 0, 400, .inl (upd (fun _ => 0) (0 : Int32).toNatClampNeg 0))), (z36, .inl (G.2 0, 400, .inl (upd (fun _ => 0) (0 : Int32).toNatClampNeg 0)))]) hP hD [7, 8, 9, 10, 11, 12, 13, 14] [0, 1, 2, 3, 4, 5, 6, 15, 16] rfl rfl (by decide) (by decide) hk1 hFc hP1 hD1
      have hP : va_P G.1 nn_cls [(z16, .inr (1, [.ref z17, .ref z18, .ref z19, .int 0])), (z17, .inl (G.2 0, 180, .inl (fun _ => 0))), (z18, .inl (G.2 0, 180, .inl (fun _ => 0))), (z19, .inl (G.2 0, 180, .inl (fun _ => 0))), (z20, .inr (3, [.ref z21, .ref z22, .int 0, .int 0, .int 0, .int (-1), .int 0, .int 0])), (z21, .inl (G.2 0, 200, .inl (fun _ => 0))), (z22, .inl (G.2 0, 8, .inl (fun _ => 0))), (z40, .inl (G.2 0, 200, .inl (fun _ => 0))), (z41, .inl (G.2 0, 8, .inl (fun _ => 0))), (q23, .inr (7, [.int 1, .int 0, .ref z25, .int 0, .int 0, .int 0, .int 0, .int 1, .int 0, .int 1, .int 0, .int 1, .ref z26, .ref z27, .ref z28, .int 0, .ref z29, .ref z30, .ref z31, .ref z32, .ref z33, .int 0, .int 3, .int 0, .int 0, .int 1, .ref z34, .ref z35, .ref z36, .int 0, .ref z37, .ref z38, .ref z39, .int 0, .int 0, .int 0, .int 0, .int (-1), .int 0, .int 0, .ref z40, .ref z41])), (z25, .inl (G.2 1, 180, .inl (fun _ => 0))), (z26, .inl (G.2 0, 260, .inl (upd (upd (upd (fun _ => 0) (0 : Int32).toNatClampNeg 4) (1 : Int32).toNatClampNeg 0) (1 : Int32).toNatClampNeg 1))), (z27, .inl (G.2 0, 260, .inl (upd (upd (upd (fun _ => 0) (0 : Int32).toNatClampNeg 0) (1 : Int32).toNatClampNeg 0) (1 : Int32).toNatClampNeg 0))), (z28, .inl (G.2 0, 260, .inl (upd (upd (upd (fun _ => 0) (0 : Int32).toNatClampNeg 0) (1 : Int32).toNatClampNeg 0) (1 : Int32).toNatClampNeg 0))), (z34, .inl (G.2 0, 400, .inl (upd (fun _ => 0) (0 : Int32).toNatClampNeg 7))), (z35, .inl (G.2 0, 400, .inl (upd (fun _ => 0) (0 : Int32).toNatClampNeg 0))), (z36, .inl (G.2 0, 400, .inl (upd (fun _ => 0) (0 : Int32).toNatClampNeg 0)))] H := hP
      have hD : va_D A [(z16, .inr (1, [.ref z17, .ref z18, .ref z19, .int 0])), (z17, .inl (G.2 0, 180, .inl (fun _ => 0))), (z18, .inl (G.2 0, 180, .inl (fun _ => 0))), (z19, .inl (G.2 0, 180, .inl (fun _ => 0))), (z20, .inr (3, [.ref z21, .ref z22, .int 0, .int 0, .int 0, .int (-1), .int 0, .int 0])), (z21, .inl (G.2 0, 200, .inl (fun _ => 0))), (z22, .inl (G.2 0, 8, .inl (fun _ => 0))), (z40, .inl (G.2 0, 200, .inl (fun _ => 0))), (z41, .inl (G.2 0, 8, .inl (fun _ => 0))), (q23, .inr (7, [.int 1, .int 0, .ref z25, .int 0, .int 0, .int 0, .int 0, .int 1, .int 0, .int 1, .int 0, .int 1, .ref z26, .ref z27, .ref z28, .int 0, .ref z29, .ref z30, .ref z31, .ref z32, .ref z33, .int 0, .int 3, .int 0, .int 0, .int 1, .ref z34, .ref z35, .ref z36, .int 0, .ref z37, .ref z38, .ref z39, .int 0, .int 0, .int 0, .int 0, .int (-1), .int 0, .int 0, .ref z40, .ref z41])), (z25, .inl (G.2 1, 180, .inl (fun _ => 0))), (z26, .inl (G.2 0, 260, .inl (upd (upd (upd (fun _ => 0) (0 : Int32).toNatClampNeg 4) (1 : Int32).toNatClampNeg 0) (1 : Int32).toNatClampNeg 1))), (z27, .inl (G.2 0, 260, .inl (upd (upd (upd (fun _ => 0) (0 : Int32).toNatClampNeg 0) (1 : Int32).toNatClampNeg 0) (1 : Int32).toNatClampNeg 0))), (z28, .inl (G.2 0, 260, .inl (upd (upd (upd (fun _ => 0) (0 : Int32).toNatClampNeg 0) (1 : Int32).toNatClampNeg 0) (1 : Int32).toNatClampNeg 0))), (z34, .inl (G.2 0, 400, .inl (upd (fun _ => 0) (0 : Int32).toNatClampNeg 7))), (z35, .inl (G.2 0, 400, .inl (upd (fun _ => 0) (0 : Int32).toNatClampNeg 0))), (z36, .inl (G.2 0, 400, .inl (upd (fun _ => 0) (0 : Int32).toNatClampNeg 0)))] := hD
      refine W.widen (k := 131) (n := 6709) (Nat.le_of_ble_eq_true rfl) (Nat.le_of_ble_eq_true rfl) ?_
      refine lv_istore (lv' := [(6, .int 0), (5, .int 1), (4, .int 0), (3, .ref q42), (2, .ref q23), (1, .ref q1), (0, .ref b)]) hx hb d_La_law_160 hl (by decide) rfl (fun ls hl => ?_)
      refine lv_aload_n hx hb d_La_law_162 rfl (lv_at hl 4 rfl) ?_
      have hPc := hP.sub (ws' := [(q23, .inr (7, [.int 1, .int 0, .ref z25, .int 0, .int 0, .int 0, .int 0, .int 1, .int 0, .int 1, .int 0, .int 1, .ref z26, .ref z27, .ref z28, .int 0, .ref z29, .ref z30, .ref z31, .ref z32, .ref z33, .int 0, .int 3, .int 0, .int 0, .int 1, .ref z34, .ref z35, .ref z36, .int 0, .ref z37, .ref z38, .ref z39, .int 0, .int 0, .int 0, .int 0, .int (-1), .int 0, .int 0, .ref z40, .ref z41]))]) [9] rfl
      have hDc := hD.sub (ws' := [(q23, .inr (7, [.int 1, .int 0, .ref z25, .int 0, .int 0, .int 0, .int 0, .int 1, .int 0, .int 1, .int 0, .int 1, .ref z26, .ref z27, .ref z28, .int 0, .ref z29, .ref z30, .ref z31, .ref z32, .ref z33, .int 0, .int 3, .int 0, .int 0, .int 1, .ref z34, .ref z35, .ref z36, .int 0, .ref z37, .ref z38, .ref z39, .int 0, .int 0, .int 0, .int 0, .int (-1), .int 0, .int 0, .ref z40, .ref z41]))]) [9] (by decide) rfl
      refine vp_callSi (va_Run.run (va_runV (As := []) (rest := []) ⟨hx, hb, hml, hown, hts⟩ (c_Mo_thrown l G _ q23 1 [.int 0, .ref z25, .int 0, .int 0, .int 0, .int 0, .int 1, .int 0, .int 1, .int 0, .int 1, .ref z26, .ref z27, .ref z28, .int 0, .ref z29, .ref z30, .ref z31, .ref z32, .ref z33, .int 0, .int 3, .int 0, .int 0, .int 1, .ref z34, .ref z35, .ref z36, .int 0, .ref z37, .ref z38, .ref z39, .int 0, .int 0, .int 0, .int 0, .int (-1), .int 0, .int 0, .ref z40, .ref z41]) (cwV 0 hts (nn_gV mw_1020 mw_1017 mw_1018 mw_1019 mw_94) rfl rfl rfl (by decide +kernel) ⟨Nat.le_of_ble_eq_true rfl, Nat.le_of_ble_eq_true rfl⟩) (nn_preV (va_recv hK hP rfl (q0 := 9) rfl) hPc hDc hK hN) rfl rfl hl.1 rfl (lv_room (Nat.le_of_ble_eq_true rfl)) d_La_law_163 ⟨(Nat.le_of_ble_eq_true rfl), (Nat.le_of_ble_eq_true rfl)⟩)) (fun r51 er51 => ?_)
      subst er51
      refine lv_iload hx hb d_La_law_166 (lv_at hl 1 rfl) ?_
      refine lv_icmp_eq (tgt := 173) hx hb d_La_law_168 rfl (fun _ => ?_) (fun h => absurd (by decide) h)
      refine lv_iload hx hb d_La_law_173 (lv_at hl 1 rfl) ?_
      refine lv_if_ne (tgt := 190) hx hb d_La_law_175 rfl (fun _ => ?_) (fun h => absurd h (by decide))
      refine lv_goto (tgt := 436) hx hb d_La_law_190 rfl ?_
      refine lv_iinc (k := 2) (v := 3) (lv' := [(4, .int 3), (6, .int 0), (5, .int 1), (3, .ref q42), (2, .ref q23), (1, .ref q1), (0, .ref b)]) hx hb d_La_law_436 hl rfl (by decide) (by decide) rfl (fun ls hl => ?_)
      refine lv_goto (tgt := 23) hx hb d_La_law_439 rfl ?_
      refine lv_iload hx hb d_La_law_23 (lv_at hl 0 rfl) ?_
      refine lv_aload_n hx hb d_La_law_25 rfl (lv_at hl 6 rfl) ?_
      refine va_slen hx hb hX hbl hbA hS d_La_law_26 ?_
      refine nb_top 3 rfl ?_
      refine lv_iconst (v := 3) hx hb d_La_law_27 (by decide) ?_
      refine lv_isub hx hb d_La_law_28 ?_
      refine nb_top 0 (by decide) ?_
      refine lv_icmp_gt (tgt := 442) hx hb d_La_law_29 rfl (fun _ => ?_) (fun h => absurd (by decide) h)
      refine lv_iconst (v := 1) hx hb d_La_law_442 (by decide) ?_
      refine va_forget (fun q hq => hAf _ (hS.2.2 q hq)) ?_
      refine W.widen (k := 600002) (n := 7302232) (Nat.le_of_ble_eq_true rfl) (Nat.le_of_ble_eq_true rfl) ?_
      exact lw_ret hx hb hr hlocks d_La_law_443
    by_cases hk39_2 : (xs 0) &&& 15 = 2
    · skip
      refine lv_tableIn (off := 154) (tgt := 193) hx hb d_La_law_39 (by rw [hk39_2]; decide) (by rw [hk39_2]; decide) (by rw [hk39_2]; decide) rfl ?_
      refine lv_aload_n hx hb d_La_law_193 rfl (lv_at hl 3 rfl) ?_
      refine lv_aload_n hx hb d_La_law_194 rfl (lv_at hl 4 rfl) ?_
      refine lv_iload hx hb d_La_law_195 (lv_at hl 0 rfl) ?_
      refine lv_iconst (v := 1) hx hb d_La_law_197 (by decide) ?_
      refine lv_iadd hx hb d_La_law_198 ?_
      refine nb_top 1 (by decide) ?_
      refine va_sld hx hb hX hbl hbA hS (i := 1) (nb_in rfl) d_La_law_199 ?_
      refine nb_top (xs 1) rfl ?_
      have hPc := hP.sub (ws' := [(q1, .inr (0, [.ref z3, .int 0, .ref z4, .ref z16, .ref z20])), (z4, .inr (2, [.ref z5, .ref z9, .ref z12, .int 0, .int (-1), .int (-1)]))]) [0, 2] rfl
      have hDc := hD.sub (ws' := [(q1, .inr (0, [.ref z3, .int 0, .ref z4, .ref z16, .ref z20])), (z4, .inr (2, [.ref z5, .ref z9, .ref z12, .int 0, .int (-1), .int (-1)]))]) [0, 2] (by decide) rfl
      refine vp_callSi (va_Run.run (va_runV (As := [.int (xs 1)]) (rest := []) ⟨hx, hb, hml, hown, hts⟩ (c_NP_error l G _ q1 z3 z4 z16 z20 z5 z9 z12 (xs 1)) (cwV 1 hts (nn_gV mw_301 mw_298 mw_299 mw_300 mw_87) rfl rfl rfl (by decide +kernel) ⟨Nat.le_of_ble_eq_true rfl, Nat.le_of_ble_eq_true rfl⟩) (nn_preV (va_recv hK hP rfl (q0 := 0) rfl) hPc hDc hK hN) rfl rfl hl.1 rfl (lv_room (Nat.le_of_ble_eq_true rfl)) d_La_law_200 ⟨(Nat.le_of_ble_eq_true rfl), (Nat.le_of_ble_eq_true rfl)⟩)) (fun r52 er52 => ?_)
      subst er52
      refine lv_aload_n hx hb d_La_law_203 rfl (lv_at hl 2 rfl) ?_
      refine lv_aload_n hx hb d_La_law_204 rfl (lv_at hl 4 rfl) ?_
      refine lv_iload hx hb d_La_law_205 (lv_at hl 0 rfl) ?_
      refine lv_iconst (v := 1) hx hb d_La_law_207 (by decide) ?_
      refine lv_iadd hx hb d_La_law_208 ?_
      refine nb_top 1 (by decide) ?_
      refine va_sld hx hb hX hbl hbA hS (i := 1) (nb_in rfl) d_La_law_209 ?_
      refine nb_top (xs 1) rfl ?_
      have hPc := hP.sub (ws' := [(q23, .inr (7, [.int 0, .int 0, .ref z25, .int 0, .int 0, .int 0, .int 0, .int 0, .int 0, .int (-1), .int (-1), .int 0, .ref z26, .ref z27, .ref z28, .int 0, .ref z29, .ref z30, .ref z31, .ref z32, .ref z33, .int 0, .int 0, .int 0, .int 0, .int 0, .ref z34, .ref z35, .ref z36, .int 0, .ref z37, .ref z38, .ref z39, .int 0, .int 0, .int 0, .int 0, .int (-1), .int 0, .int 0, .ref z40, .ref z41]))]) [20] rfl
      have hDc := hD.sub (ws' := [(q23, .inr (7, [.int 0, .int 0, .ref z25, .int 0, .int 0, .int 0, .int 0, .int 0, .int 0, .int (-1), .int (-1), .int 0, .ref z26, .ref z27, .ref z28, .int 0, .ref z29, .ref z30, .ref z31, .ref z32, .ref z33, .int 0, .int 0, .int 0, .int 0, .int 0, .ref z34, .ref z35, .ref z36, .int 0, .ref z37, .ref z38, .ref z39, .int 0, .int 0, .int 0, .int 0, .int (-1), .int 0, .int 0, .ref z40, .ref z41]))]) [20] (by decide) rfl
      have hFc := va_free (wc := [(q23, .inr (7, [.int 0, .int 0, .ref z25, .int 0, .int 0, .int 0, .int 0, .int 0, .int 0, .int (-1), .int (-1), .int 0, .ref z26, .ref z27, .ref z28, .int 0, .ref z29, .ref z30, .ref z31, .ref z32, .ref z33, .int 0, .int 0, .int 0, .int 0, .int 0, .ref z34, .ref z35, .ref z36, .int 0, .ref z37, .ref z38, .ref z39, .int 0, .int 0, .int 0, .int 0, .int (-1), .int 0, .int 0, .ref z40, .ref z41]))]) hD hS hA [20] rfl
      refine va_calli (va_runV (As := [.int (xs 1)]) (rest := [.int (-1)]) ⟨hx, hb, hml, hown, hts⟩ (c_Mo_error l G _ q23 z25 z26 z27 z28 z29 z30 z31 z32 z33 z34 z35 z36 z37 z38 z39 z40 z41 (xs 1)) (cwV 1 hts (nn_gV mw_1168 mw_1165 mw_1166 mw_1167 mw_94) rfl rfl rfl (by decide +kernel) ⟨Nat.le_of_ble_eq_true rfl, Nat.le_of_ble_eq_true rfl⟩) (nn_preV (va_recv hK hP rfl (q0 := 20) rfl) hPc hDc hK hN) rfl rfl hl.1 rfl (lv_room (Nat.le_of_ble_eq_true rfl)) d_La_law_210 ⟨(Nat.le_of_ble_eq_true rfl), (Nat.le_of_ble_eq_true rfl)⟩) hS (fun q _ h => hFc q h) hFc (fun r54 u53 t H locs ht hvm hw hB hz1 hk1 hS => ?_)
      obtain rfl : r54 = (-1) := hw
      obtain ⟨hP, hD⟩ := va_join (wr := [(q1, .inr (0, [.ref z3, .int 0, .ref z4, .ref z16, .ref z20])), (z3, .inl (G.2 1, 180, .inl (fun _ => 0))), (z4, .inr (2, [.ref z5, .ref z9, .ref z12, .int 0, .int (-1), .int (-1)])), (z5, .inr (6, [.ref z6, .ref z7, .ref z8, .int 0, .int 0])), (z6, .inl (G.2 3, 181, .inr (.inr (.inr (.inr (fun _ => none)))))), (z7, .inl (G.2 0, 181, .inl (fun _ => 0))), (z8, .inl (G.2 0, 181, .inl (fun _ => 0))), (z9, .inr (5, [.ref z10, .int 0, .ref z11, .int 0])), (z11, .inl (G.2 0, 5, .inl (fun _ => 0))), (z12, .inr (1, [.ref z13, .ref z14, .ref z15, .int 0])), (z13, .inl (G.2 0, 180, .inl (fun _ => 0))), (z14, .inl (G.2 0, 180, .inl (fun _ => 0))), (z15, .inl (G.2 0, 180, .inl (fun _ => 0))), (z16, .inr (1, [.ref z17, .ref z18, .ref z19, .int 0])), (z17, .inl (G.2 0, 180, .inl (fun _ => 0))), (z18, .inl (G.2 0, 180, .inl (fun _ => 0))), (z19, .inl (G.2 0, 180, .inl (fun _ => 0))), (z20, .inr (3, [.ref z21, .ref z22, .int 0, .int 0, .int 0, .int (-1), .int 0, .int 0])), (z21, .inl (G.2 0, 200, .inl (fun _ => 0))), (z22, .inl (G.2 0, 8, .inl (fun _ => 0))), (z25, .inl (G.2 1, 180, .inl (fun _ => 0))), (z26, .inl (G.2 0, 260, .inl (fun _ => 0))), (z27, .inl (G.2 0, 260, .inl (fun _ => 0))), (z28, .inl (G.2 0, 260, .inl (fun _ => 0))), (z34, .inl (G.2 0, 400, .inl (fun _ => 0))), (z35, .inl (G.2 0, 400, .inl (fun _ => 0))), (z36, .inl (G.2 0, 400, .inl (fun _ => 0))), (z40, .inl (G.2 0, 200, .inl (fun _ => 0))), (z41, .inl (G.2 0, 8, .inl (fun _ => 0))), (q42, .inl (G.2 2, 1, .inr (.inl (fun _ => 0))))]) (w1 := []) hP hD [20] [0, 1, 2, 3, 4, 5, 6, 7, 8, 9, 10, 11, 12, 13, 14, 15, 16, 17, 18, 19, 21, 22, 23, 24, 25, 26, 27, 28, 29, 30] rfl rfl (by decide) (by decide) hk1 hFc nb_P0 nb_D0
      have hP : va_P G.1 nn_cls [(q1, .inr (0, [.ref z3, .int 0, .ref z4, .ref z16, .ref z20])), (z3, .inl (G.2 1, 180, .inl (fun _ => 0))), (z4, .inr (2, [.ref z5, .ref z9, .ref z12, .int 0, .int (-1), .int (-1)])), (z5, .inr (6, [.ref z6, .ref z7, .ref z8, .int 0, .int 0])), (z6, .inl (G.2 3, 181, .inr (.inr (.inr (.inr (fun _ => none)))))), (z7, .inl (G.2 0, 181, .inl (fun _ => 0))), (z8, .inl (G.2 0, 181, .inl (fun _ => 0))), (z9, .inr (5, [.ref z10, .int 0, .ref z11, .int 0])), (z11, .inl (G.2 0, 5, .inl (fun _ => 0))), (z12, .inr (1, [.ref z13, .ref z14, .ref z15, .int 0])), (z13, .inl (G.2 0, 180, .inl (fun _ => 0))), (z14, .inl (G.2 0, 180, .inl (fun _ => 0))), (z15, .inl (G.2 0, 180, .inl (fun _ => 0))), (z16, .inr (1, [.ref z17, .ref z18, .ref z19, .int 0])), (z17, .inl (G.2 0, 180, .inl (fun _ => 0))), (z18, .inl (G.2 0, 180, .inl (fun _ => 0))), (z19, .inl (G.2 0, 180, .inl (fun _ => 0))), (z20, .inr (3, [.ref z21, .ref z22, .int 0, .int 0, .int 0, .int (-1), .int 0, .int 0])), (z21, .inl (G.2 0, 200, .inl (fun _ => 0))), (z22, .inl (G.2 0, 8, .inl (fun _ => 0))), (z25, .inl (G.2 1, 180, .inl (fun _ => 0))), (z26, .inl (G.2 0, 260, .inl (fun _ => 0))), (z27, .inl (G.2 0, 260, .inl (fun _ => 0))), (z28, .inl (G.2 0, 260, .inl (fun _ => 0))), (z34, .inl (G.2 0, 400, .inl (fun _ => 0))), (z35, .inl (G.2 0, 400, .inl (fun _ => 0))), (z36, .inl (G.2 0, 400, .inl (fun _ => 0))), (z40, .inl (G.2 0, 200, .inl (fun _ => 0))), (z41, .inl (G.2 0, 8, .inl (fun _ => 0))), (q42, .inl (G.2 2, 1, .inr (.inl (fun _ => 0))))] H := hP
      have hD : va_D A [(q1, .inr (0, [.ref z3, .int 0, .ref z4, .ref z16, .ref z20])), (z3, .inl (G.2 1, 180, .inl (fun _ => 0))), (z4, .inr (2, [.ref z5, .ref z9, .ref z12, .int 0, .int (-1), .int (-1)])), (z5, .inr (6, [.ref z6, .ref z7, .ref z8, .int 0, .int 0])), (z6, .inl (G.2 3, 181, .inr (.inr (.inr (.inr (fun _ => none)))))), (z7, .inl (G.2 0, 181, .inl (fun _ => 0))), (z8, .inl (G.2 0, 181, .inl (fun _ => 0))), (z9, .inr (5, [.ref z10, .int 0, .ref z11, .int 0])), (z11, .inl (G.2 0, 5, .inl (fun _ => 0))), (z12, .inr (1, [.ref z13, .ref z14, .ref z15, .int 0])), (z13, .inl (G.2 0, 180, .inl (fun _ => 0))), (z14, .inl (G.2 0, 180, .inl (fun _ => 0))), (z15, .inl (G.2 0, 180, .inl (fun _ => 0))), (z16, .inr (1, [.ref z17, .ref z18, .ref z19, .int 0])), (z17, .inl (G.2 0, 180, .inl (fun _ => 0))), (z18, .inl (G.2 0, 180, .inl (fun _ => 0))), (z19, .inl (G.2 0, 180, .inl (fun _ => 0))), (z20, .inr (3, [.ref z21, .ref z22, .int 0, .int 0, .int 0, .int (-1), .int 0, .int 0])), (z21, .inl (G.2 0, 200, .inl (fun _ => 0))), (z22, .inl (G.2 0, 8, .inl (fun _ => 0))), (z25, .inl (G.2 1, 180, .inl (fun _ => 0))), (z26, .inl (G.2 0, 260, .inl (fun _ => 0))), (z27, .inl (G.2 0, 260, .inl (fun _ => 0))), (z28, .inl (G.2 0, 260, .inl (fun _ => 0))), (z34, .inl (G.2 0, 400, .inl (fun _ => 0))), (z35, .inl (G.2 0, 400, .inl (fun _ => 0))), (z36, .inl (G.2 0, 400, .inl (fun _ => 0))), (z40, .inl (G.2 0, 200, .inl (fun _ => 0))), (z41, .inl (G.2 0, 8, .inl (fun _ => 0))), (q42, .inl (G.2 2, 1, .inr (.inl (fun _ => 0))))] := hD
      refine W.widen (k := 130) (n := 6703) (Nat.le_of_ble_eq_true rfl) (Nat.le_of_ble_eq_true rfl) ?_
      refine lv_icmp_eq (tgt := 436) hx hb d_La_law_213 rfl (fun _ => ?_) (fun h => absurd (by decide) h)
      refine lv_iinc (k := 0) (v := 3) (lv' := [(4, .int 3), (3, .ref q42), (2, .ref q23), (1, .ref q1), (0, .ref b)]) hx hb d_La_law_436 hl rfl (by decide) (by decide) rfl (fun ls hl => ?_)
      refine lv_goto (tgt := 23) hx hb d_La_law_439 rfl ?_
      refine lv_iload hx hb d_La_law_23 (lv_at hl 0 rfl) ?_
      refine lv_aload_n hx hb d_La_law_25 rfl (lv_at hl 4 rfl) ?_
      refine va_slen hx hb hX hbl hbA hS d_La_law_26 ?_
      refine nb_top 3 rfl ?_
      refine lv_iconst (v := 3) hx hb d_La_law_27 (by decide) ?_
      refine lv_isub hx hb d_La_law_28 ?_
      refine nb_top 0 (by decide) ?_
      refine lv_icmp_gt (tgt := 442) hx hb d_La_law_29 rfl (fun _ => ?_) (fun h => absurd (by decide) h)
      refine lv_iconst (v := 1) hx hb d_La_law_442 (by decide) ?_
      refine va_forget (fun q hq => hAf _ (hS.2.2 q hq)) ?_
      refine W.widen (k := 600002) (n := 7302232) (Nat.le_of_ble_eq_true rfl) (Nat.le_of_ble_eq_true rfl) ?_
      exact lw_ret hx hb hr hlocks d_La_law_443
    by_cases hk39_3 : (xs 0) &&& 15 = 3
    · skip
      refine lv_tableIn (off := 179) (tgt := 218) hx hb d_La_law_39 (by rw [hk39_3]; decide) (by rw [hk39_3]; decide) (by rw [hk39_3]; decide) rfl ?_
      refine lv_aload_n hx hb d_La_law_218 rfl (lv_at hl 3 rfl) ?_
      refine lv_aload_n hx hb d_La_law_219 rfl (lv_at hl 4 rfl) ?_
      refine lv_iload hx hb d_La_law_220 (lv_at hl 0 rfl) ?_
      refine lv_iconst (v := 1) hx hb d_La_law_222 (by decide) ?_
      refine lv_iadd hx hb d_La_law_223 ?_
      refine nb_top 1 (by decide) ?_
      refine va_sld hx hb hX hbl hbA hS (i := 1) (nb_in rfl) d_La_law_224 ?_
      refine nb_top (xs 1) rfl ?_
      refine lv_aload_n hx hb d_La_law_225 rfl (lv_at hl 4 rfl) ?_
      refine lv_iload hx hb d_La_law_226 (lv_at hl 0 rfl) ?_
      refine lv_iconst (v := 2) hx hb d_La_law_228 (by decide) ?_
      refine lv_iadd hx hb d_La_law_229 ?_
      refine nb_top 2 (by decide) ?_
      refine va_sld hx hb hX hbl hbA hS (i := 2) (nb_in rfl) d_La_law_230 ?_
      refine nb_top (xs 2) rfl ?_
      have hPc := hP.sub (ws' := [(q1, .inr (0, [.ref z3, .int 0, .ref z4, .ref z16, .ref z20])), (z16, .inr (1, [.ref z17, .ref z18, .ref z19, .int 0]))]) [0, 13] rfl
      have hDc := hD.sub (ws' := [(q1, .inr (0, [.ref z3, .int 0, .ref z4, .ref z16, .ref z20])), (z16, .inr (1, [.ref z17, .ref z18, .ref z19, .int 0]))]) [0, 13] (by decide) rfl
      refine vp_callSi (va_Run.run (va_runV (As := [.int (xs 1), .int (xs 2)]) (rest := []) ⟨hx, hb, hml, hown, hts⟩ (c_NP_code l G _ q1 z3 z4 z16 z20 z17 z18 z19 (xs 1) (xs 2)) (cwV 2 hts (nn_gV mw_313 mw_310 mw_311 mw_312 mw_87) rfl rfl rfl (by decide +kernel) ⟨Nat.le_of_ble_eq_true rfl, Nat.le_of_ble_eq_true rfl⟩) (nn_preV (va_recv hK hP rfl (q0 := 0) rfl) hPc hDc hK hN) rfl rfl hl.1 rfl (lv_room (Nat.le_of_ble_eq_true rfl)) d_La_law_231 ⟨(Nat.le_of_ble_eq_true rfl), (Nat.le_of_ble_eq_true rfl)⟩)) (fun r55 er55 => ?_)
      subst er55
      refine lv_aload_n hx hb d_La_law_234 rfl (lv_at hl 2 rfl) ?_
      refine lv_aload_n hx hb d_La_law_235 rfl (lv_at hl 4 rfl) ?_
      refine lv_iload hx hb d_La_law_236 (lv_at hl 0 rfl) ?_
      refine lv_iconst (v := 1) hx hb d_La_law_238 (by decide) ?_
      refine lv_iadd hx hb d_La_law_239 ?_
      refine nb_top 1 (by decide) ?_
      refine va_sld hx hb hX hbl hbA hS (i := 1) (nb_in rfl) d_La_law_240 ?_
      refine nb_top (xs 1) rfl ?_
      refine lv_aload_n hx hb d_La_law_241 rfl (lv_at hl 4 rfl) ?_
      refine lv_iload hx hb d_La_law_242 (lv_at hl 0 rfl) ?_
      refine lv_iconst (v := 2) hx hb d_La_law_244 (by decide) ?_
      refine lv_iadd hx hb d_La_law_245 ?_
      refine nb_top 2 (by decide) ?_
      refine va_sld hx hb hX hbl hbA hS (i := 2) (nb_in rfl) d_La_law_246 ?_
      refine nb_top (xs 2) rfl ?_
      have hPc := hP.sub (ws' := [(q23, .inr (7, [.int 0, .int 0, .ref z25, .int 0, .int 0, .int 0, .int 0, .int 0, .int 0, .int (-1), .int (-1), .int 0, .ref z26, .ref z27, .ref z28, .int 0, .ref z29, .ref z30, .ref z31, .ref z32, .ref z33, .int 0, .int 0, .int 0, .int 0, .int 0, .ref z34, .ref z35, .ref z36, .int 0, .ref z37, .ref z38, .ref z39, .int 0, .int 0, .int 0, .int 0, .int (-1), .int 0, .int 0, .ref z40, .ref z41]))]) [20] rfl
      have hDc := hD.sub (ws' := [(q23, .inr (7, [.int 0, .int 0, .ref z25, .int 0, .int 0, .int 0, .int 0, .int 0, .int 0, .int (-1), .int (-1), .int 0, .ref z26, .ref z27, .ref z28, .int 0, .ref z29, .ref z30, .ref z31, .ref z32, .ref z33, .int 0, .int 0, .int 0, .int 0, .int 0, .ref z34, .ref z35, .ref z36, .int 0, .ref z37, .ref z38, .ref z39, .int 0, .int 0, .int 0, .int 0, .int (-1), .int 0, .int 0, .ref z40, .ref z41]))]) [20] (by decide) rfl
      have hFc := va_free (wc := [(q23, .inr (7, [.int 0, .int 0, .ref z25, .int 0, .int 0, .int 0, .int 0, .int 0, .int 0, .int (-1), .int (-1), .int 0, .ref z26, .ref z27, .ref z28, .int 0, .ref z29, .ref z30, .ref z31, .ref z32, .ref z33, .int 0, .int 0, .int 0, .int 0, .int 0, .ref z34, .ref z35, .ref z36, .int 0, .ref z37, .ref z38, .ref z39, .int 0, .int 0, .int 0, .int 0, .int (-1), .int 0, .int 0, .ref z40, .ref z41]))]) hD hS hA [20] rfl
      refine va_calli (va_runV (As := [.int (xs 1), .int (xs 2)]) (rest := [.int 0]) ⟨hx, hb, hml, hown, hts⟩ (c_Mo_code l G _ q23 z25 z26 z27 z28 z29 z30 z31 z32 z33 z34 z35 z36 z37 z38 z39 z40 z41 (xs 1) (xs 2)) (cwV 2 hts (nn_gV mw_1172 mw_1169 mw_1170 mw_1171 mw_94) rfl rfl rfl (by decide +kernel) ⟨Nat.le_of_ble_eq_true rfl, Nat.le_of_ble_eq_true rfl⟩) (nn_preV (va_recv hK hP rfl (q0 := 20) rfl) hPc hDc hK hN) rfl rfl hl.1 rfl (lv_room (Nat.le_of_ble_eq_true rfl)) d_La_law_247 ⟨(Nat.le_of_ble_eq_true rfl), (Nat.le_of_ble_eq_true rfl)⟩) hS (fun q _ h => hFc q h) hFc (fun r57 u56 t H locs ht hvm hw hB hz1 hk1 hS => ?_)
      obtain rfl : r57 = 0 := hw
      obtain ⟨hP, hD⟩ := va_join (wr := [(q1, .inr (0, [.ref z3, .int 0, .ref z4, .ref z16, .ref z20])), (z3, .inl (G.2 1, 180, .inl (fun _ => 0))), (z4, .inr (2, [.ref z5, .ref z9, .ref z12, .int 0, .int (-1), .int (-1)])), (z5, .inr (6, [.ref z6, .ref z7, .ref z8, .int 0, .int 0])), (z6, .inl (G.2 3, 181, .inr (.inr (.inr (.inr (fun _ => none)))))), (z7, .inl (G.2 0, 181, .inl (fun _ => 0))), (z8, .inl (G.2 0, 181, .inl (fun _ => 0))), (z9, .inr (5, [.ref z10, .int 0, .ref z11, .int 0])), (z11, .inl (G.2 0, 5, .inl (fun _ => 0))), (z12, .inr (1, [.ref z13, .ref z14, .ref z15, .int 0])), (z13, .inl (G.2 0, 180, .inl (fun _ => 0))), (z14, .inl (G.2 0, 180, .inl (fun _ => 0))), (z15, .inl (G.2 0, 180, .inl (fun _ => 0))), (z16, .inr (1, [.ref z17, .ref z18, .ref z19, .int 0])), (z17, .inl (G.2 0, 180, .inl (fun _ => 0))), (z18, .inl (G.2 0, 180, .inl (fun _ => 0))), (z19, .inl (G.2 0, 180, .inl (fun _ => 0))), (z20, .inr (3, [.ref z21, .ref z22, .int 0, .int 0, .int 0, .int (-1), .int 0, .int 0])), (z21, .inl (G.2 0, 200, .inl (fun _ => 0))), (z22, .inl (G.2 0, 8, .inl (fun _ => 0))), (z25, .inl (G.2 1, 180, .inl (fun _ => 0))), (z26, .inl (G.2 0, 260, .inl (fun _ => 0))), (z27, .inl (G.2 0, 260, .inl (fun _ => 0))), (z28, .inl (G.2 0, 260, .inl (fun _ => 0))), (z34, .inl (G.2 0, 400, .inl (fun _ => 0))), (z35, .inl (G.2 0, 400, .inl (fun _ => 0))), (z36, .inl (G.2 0, 400, .inl (fun _ => 0))), (z40, .inl (G.2 0, 200, .inl (fun _ => 0))), (z41, .inl (G.2 0, 8, .inl (fun _ => 0))), (q42, .inl (G.2 2, 1, .inr (.inl (fun _ => 0))))]) (w1 := []) hP hD [20] [0, 1, 2, 3, 4, 5, 6, 7, 8, 9, 10, 11, 12, 13, 14, 15, 16, 17, 18, 19, 21, 22, 23, 24, 25, 26, 27, 28, 29, 30] rfl rfl (by decide) (by decide) hk1 hFc nb_P0 nb_D0
      have hP : va_P G.1 nn_cls [(q1, .inr (0, [.ref z3, .int 0, .ref z4, .ref z16, .ref z20])), (z3, .inl (G.2 1, 180, .inl (fun _ => 0))), (z4, .inr (2, [.ref z5, .ref z9, .ref z12, .int 0, .int (-1), .int (-1)])), (z5, .inr (6, [.ref z6, .ref z7, .ref z8, .int 0, .int 0])), (z6, .inl (G.2 3, 181, .inr (.inr (.inr (.inr (fun _ => none)))))), (z7, .inl (G.2 0, 181, .inl (fun _ => 0))), (z8, .inl (G.2 0, 181, .inl (fun _ => 0))), (z9, .inr (5, [.ref z10, .int 0, .ref z11, .int 0])), (z11, .inl (G.2 0, 5, .inl (fun _ => 0))), (z12, .inr (1, [.ref z13, .ref z14, .ref z15, .int 0])), (z13, .inl (G.2 0, 180, .inl (fun _ => 0))), (z14, .inl (G.2 0, 180, .inl (fun _ => 0))), (z15, .inl (G.2 0, 180, .inl (fun _ => 0))), (z16, .inr (1, [.ref z17, .ref z18, .ref z19, .int 0])), (z17, .inl (G.2 0, 180, .inl (fun _ => 0))), (z18, .inl (G.2 0, 180, .inl (fun _ => 0))), (z19, .inl (G.2 0, 180, .inl (fun _ => 0))), (z20, .inr (3, [.ref z21, .ref z22, .int 0, .int 0, .int 0, .int (-1), .int 0, .int 0])), (z21, .inl (G.2 0, 200, .inl (fun _ => 0))), (z22, .inl (G.2 0, 8, .inl (fun _ => 0))), (z25, .inl (G.2 1, 180, .inl (fun _ => 0))), (z26, .inl (G.2 0, 260, .inl (fun _ => 0))), (z27, .inl (G.2 0, 260, .inl (fun _ => 0))), (z28, .inl (G.2 0, 260, .inl (fun _ => 0))), (z34, .inl (G.2 0, 400, .inl (fun _ => 0))), (z35, .inl (G.2 0, 400, .inl (fun _ => 0))), (z36, .inl (G.2 0, 400, .inl (fun _ => 0))), (z40, .inl (G.2 0, 200, .inl (fun _ => 0))), (z41, .inl (G.2 0, 8, .inl (fun _ => 0))), (q42, .inl (G.2 2, 1, .inr (.inl (fun _ => 0))))] H := hP
      have hD : va_D A [(q1, .inr (0, [.ref z3, .int 0, .ref z4, .ref z16, .ref z20])), (z3, .inl (G.2 1, 180, .inl (fun _ => 0))), (z4, .inr (2, [.ref z5, .ref z9, .ref z12, .int 0, .int (-1), .int (-1)])), (z5, .inr (6, [.ref z6, .ref z7, .ref z8, .int 0, .int 0])), (z6, .inl (G.2 3, 181, .inr (.inr (.inr (.inr (fun _ => none)))))), (z7, .inl (G.2 0, 181, .inl (fun _ => 0))), (z8, .inl (G.2 0, 181, .inl (fun _ => 0))), (z9, .inr (5, [.ref z10, .int 0, .ref z11, .int 0])), (z11, .inl (G.2 0, 5, .inl (fun _ => 0))), (z12, .inr (1, [.ref z13, .ref z14, .ref z15, .int 0])), (z13, .inl (G.2 0, 180, .inl (fun _ => 0))), (z14, .inl (G.2 0, 180, .inl (fun _ => 0))), (z15, .inl (G.2 0, 180, .inl (fun _ => 0))), (z16, .inr (1, [.ref z17, .ref z18, .ref z19, .int 0])), (z17, .inl (G.2 0, 180, .inl (fun _ => 0))), (z18, .inl (G.2 0, 180, .inl (fun _ => 0))), (z19, .inl (G.2 0, 180, .inl (fun _ => 0))), (z20, .inr (3, [.ref z21, .ref z22, .int 0, .int 0, .int 0, .int (-1), .int 0, .int 0])), (z21, .inl (G.2 0, 200, .inl (fun _ => 0))), (z22, .inl (G.2 0, 8, .inl (fun _ => 0))), (z25, .inl (G.2 1, 180, .inl (fun _ => 0))), (z26, .inl (G.2 0, 260, .inl (fun _ => 0))), (z27, .inl (G.2 0, 260, .inl (fun _ => 0))), (z28, .inl (G.2 0, 260, .inl (fun _ => 0))), (z34, .inl (G.2 0, 400, .inl (fun _ => 0))), (z35, .inl (G.2 0, 400, .inl (fun _ => 0))), (z36, .inl (G.2 0, 400, .inl (fun _ => 0))), (z40, .inl (G.2 0, 200, .inl (fun _ => 0))), (z41, .inl (G.2 0, 8, .inl (fun _ => 0))), (q42, .inl (G.2 2, 1, .inr (.inl (fun _ => 0))))] := hD
      refine W.widen (k := 130) (n := 6703) (Nat.le_of_ble_eq_true rfl) (Nat.le_of_ble_eq_true rfl) ?_
      refine lv_icmp_eq (tgt := 436) hx hb d_La_law_250 rfl (fun _ => ?_) (fun h => absurd (by decide) h)
      refine lv_iinc (k := 0) (v := 3) (lv' := [(4, .int 3), (3, .ref q42), (2, .ref q23), (1, .ref q1), (0, .ref b)]) hx hb d_La_law_436 hl rfl (by decide) (by decide) rfl (fun ls hl => ?_)
      refine lv_goto (tgt := 23) hx hb d_La_law_439 rfl ?_
      refine lv_iload hx hb d_La_law_23 (lv_at hl 0 rfl) ?_
      refine lv_aload_n hx hb d_La_law_25 rfl (lv_at hl 4 rfl) ?_
      refine va_slen hx hb hX hbl hbA hS d_La_law_26 ?_
      refine nb_top 3 rfl ?_
      refine lv_iconst (v := 3) hx hb d_La_law_27 (by decide) ?_
      refine lv_isub hx hb d_La_law_28 ?_
      refine nb_top 0 (by decide) ?_
      refine lv_icmp_gt (tgt := 442) hx hb d_La_law_29 rfl (fun _ => ?_) (fun h => absurd (by decide) h)
      refine lv_iconst (v := 1) hx hb d_La_law_442 (by decide) ?_
      refine va_forget (fun q hq => hAf _ (hS.2.2 q hq)) ?_
      refine W.widen (k := 600002) (n := 7302232) (Nat.le_of_ble_eq_true rfl) (Nat.le_of_ble_eq_true rfl) ?_
      exact lw_ret hx hb hr hlocks d_La_law_443
    by_cases hk39_4 : (xs 0) &&& 15 = 4
    · skip
      refine lv_tableIn (off := 216) (tgt := 255) hx hb d_La_law_39 (by rw [hk39_4]; decide) (by rw [hk39_4]; decide) (by rw [hk39_4]; decide) rfl ?_
      refine lv_aload_n hx hb d_La_law_255 rfl (lv_at hl 3 rfl) ?_
      have hPc := hP.sub (ws' := [(q1, .inr (0, [.ref z3, .int 0, .ref z4, .ref z16, .ref z20])), (z16, .inr (1, [.ref z17, .ref z18, .ref z19, .int 0]))]) [0, 13] rfl
      have hDc := hD.sub (ws' := [(q1, .inr (0, [.ref z3, .int 0, .ref z4, .ref z16, .ref z20])), (z16, .inr (1, [.ref z17, .ref z18, .ref z19, .int 0]))]) [0, 13] (by decide) rfl
      refine vp_callSi (va_Run.run (va_runV (As := []) (rest := []) ⟨hx, hb, hml, hown, hts⟩ (c_NP_start l G _ q1 z3 z4 z16 z20 z17 z18 z19) (cwV 0 hts (nn_gV mw_337 mw_334 mw_335 mw_336 mw_87) rfl rfl rfl (by decide +kernel) ⟨Nat.le_of_ble_eq_true rfl, Nat.le_of_ble_eq_true rfl⟩) (nn_preV (va_recv hK hP rfl (q0 := 0) rfl) hPc hDc hK hN) rfl rfl hl.1 rfl (lv_room (Nat.le_of_ble_eq_true rfl)) d_La_law_256 ⟨(Nat.le_of_ble_eq_true rfl), (Nat.le_of_ble_eq_true rfl)⟩)) (fun r58 er58 => ?_)
      subst er58
      refine lv_aload_n hx hb d_La_law_259 rfl (lv_at hl 2 rfl) ?_
      have hPc := hP.sub (ws' := [(q23, .inr (7, [.int 0, .int 0, .ref z25, .int 0, .int 0, .int 0, .int 0, .int 0, .int 0, .int (-1), .int (-1), .int 0, .ref z26, .ref z27, .ref z28, .int 0, .ref z29, .ref z30, .ref z31, .ref z32, .ref z33, .int 0, .int 0, .int 0, .int 0, .int 0, .ref z34, .ref z35, .ref z36, .int 0, .ref z37, .ref z38, .ref z39, .int 0, .int 0, .int 0, .int 0, .int (-1), .int 0, .int 0, .ref z40, .ref z41]))]) [20] rfl
      have hDc := hD.sub (ws' := [(q23, .inr (7, [.int 0, .int 0, .ref z25, .int 0, .int 0, .int 0, .int 0, .int 0, .int 0, .int (-1), .int (-1), .int 0, .ref z26, .ref z27, .ref z28, .int 0, .ref z29, .ref z30, .ref z31, .ref z32, .ref z33, .int 0, .int 0, .int 0, .int 0, .int 0, .ref z34, .ref z35, .ref z36, .int 0, .ref z37, .ref z38, .ref z39, .int 0, .int 0, .int 0, .int 0, .int (-1), .int 0, .int 0, .ref z40, .ref z41]))]) [20] (by decide) rfl
      have hFc := va_free (wc := [(q23, .inr (7, [.int 0, .int 0, .ref z25, .int 0, .int 0, .int 0, .int 0, .int 0, .int 0, .int (-1), .int (-1), .int 0, .ref z26, .ref z27, .ref z28, .int 0, .ref z29, .ref z30, .ref z31, .ref z32, .ref z33, .int 0, .int 0, .int 0, .int 0, .int 0, .ref z34, .ref z35, .ref z36, .int 0, .ref z37, .ref z38, .ref z39, .int 0, .int 0, .int 0, .int 0, .int (-1), .int 0, .int 0, .ref z40, .ref z41]))]) hD hS hA [20] rfl
      refine va_calli (va_runV (As := []) (rest := [.int 0]) ⟨hx, hb, hml, hown, hts⟩ (c_Mo_start l G _ q23 z25 z26 z27 z28 z29 z30 z31 z32 z33 z34 z35 z36 z37 z38 z39 z40 z41) (cwV 0 hts (nn_gV mw_1176 mw_1173 mw_1174 mw_1175 mw_94) rfl rfl rfl (by decide +kernel) ⟨Nat.le_of_ble_eq_true rfl, Nat.le_of_ble_eq_true rfl⟩) (nn_preV (va_recv hK hP rfl (q0 := 20) rfl) hPc hDc hK hN) rfl rfl hl.1 rfl (lv_room (Nat.le_of_ble_eq_true rfl)) d_La_law_260 ⟨(Nat.le_of_ble_eq_true rfl), (Nat.le_of_ble_eq_true rfl)⟩) hS (fun q _ h => hFc q h) hFc (fun r60 u59 t H locs ht hvm hw hB hz1 hk1 hS => ?_)
      obtain rfl : r60 = 0 := hw
      obtain ⟨hP, hD⟩ := va_join (wr := [(q1, .inr (0, [.ref z3, .int 0, .ref z4, .ref z16, .ref z20])), (z3, .inl (G.2 1, 180, .inl (fun _ => 0))), (z4, .inr (2, [.ref z5, .ref z9, .ref z12, .int 0, .int (-1), .int (-1)])), (z5, .inr (6, [.ref z6, .ref z7, .ref z8, .int 0, .int 0])), (z6, .inl (G.2 3, 181, .inr (.inr (.inr (.inr (fun _ => none)))))), (z7, .inl (G.2 0, 181, .inl (fun _ => 0))), (z8, .inl (G.2 0, 181, .inl (fun _ => 0))), (z9, .inr (5, [.ref z10, .int 0, .ref z11, .int 0])), (z11, .inl (G.2 0, 5, .inl (fun _ => 0))), (z12, .inr (1, [.ref z13, .ref z14, .ref z15, .int 0])), (z13, .inl (G.2 0, 180, .inl (fun _ => 0))), (z14, .inl (G.2 0, 180, .inl (fun _ => 0))), (z15, .inl (G.2 0, 180, .inl (fun _ => 0))), (z16, .inr (1, [.ref z17, .ref z18, .ref z19, .int 0])), (z17, .inl (G.2 0, 180, .inl (fun _ => 0))), (z18, .inl (G.2 0, 180, .inl (fun _ => 0))), (z19, .inl (G.2 0, 180, .inl (fun _ => 0))), (z20, .inr (3, [.ref z21, .ref z22, .int 0, .int 0, .int 0, .int (-1), .int 0, .int 0])), (z21, .inl (G.2 0, 200, .inl (fun _ => 0))), (z22, .inl (G.2 0, 8, .inl (fun _ => 0))), (z25, .inl (G.2 1, 180, .inl (fun _ => 0))), (z26, .inl (G.2 0, 260, .inl (fun _ => 0))), (z27, .inl (G.2 0, 260, .inl (fun _ => 0))), (z28, .inl (G.2 0, 260, .inl (fun _ => 0))), (z34, .inl (G.2 0, 400, .inl (fun _ => 0))), (z35, .inl (G.2 0, 400, .inl (fun _ => 0))), (z36, .inl (G.2 0, 400, .inl (fun _ => 0))), (z40, .inl (G.2 0, 200, .inl (fun _ => 0))), (z41, .inl (G.2 0, 8, .inl (fun _ => 0))), (q42, .inl (G.2 2, 1, .inr (.inl (fun _ => 0))))]) (w1 := []) hP hD [20] [0, 1, 2, 3, 4, 5, 6, 7, 8, 9, 10, 11, 12, 13, 14, 15, 16, 17, 18, 19, 21, 22, 23, 24, 25, 26, 27, 28, 29, 30] rfl rfl (by decide) (by decide) hk1 hFc nb_P0 nb_D0
      have hP : va_P G.1 nn_cls [(q1, .inr (0, [.ref z3, .int 0, .ref z4, .ref z16, .ref z20])), (z3, .inl (G.2 1, 180, .inl (fun _ => 0))), (z4, .inr (2, [.ref z5, .ref z9, .ref z12, .int 0, .int (-1), .int (-1)])), (z5, .inr (6, [.ref z6, .ref z7, .ref z8, .int 0, .int 0])), (z6, .inl (G.2 3, 181, .inr (.inr (.inr (.inr (fun _ => none)))))), (z7, .inl (G.2 0, 181, .inl (fun _ => 0))), (z8, .inl (G.2 0, 181, .inl (fun _ => 0))), (z9, .inr (5, [.ref z10, .int 0, .ref z11, .int 0])), (z11, .inl (G.2 0, 5, .inl (fun _ => 0))), (z12, .inr (1, [.ref z13, .ref z14, .ref z15, .int 0])), (z13, .inl (G.2 0, 180, .inl (fun _ => 0))), (z14, .inl (G.2 0, 180, .inl (fun _ => 0))), (z15, .inl (G.2 0, 180, .inl (fun _ => 0))), (z16, .inr (1, [.ref z17, .ref z18, .ref z19, .int 0])), (z17, .inl (G.2 0, 180, .inl (fun _ => 0))), (z18, .inl (G.2 0, 180, .inl (fun _ => 0))), (z19, .inl (G.2 0, 180, .inl (fun _ => 0))), (z20, .inr (3, [.ref z21, .ref z22, .int 0, .int 0, .int 0, .int (-1), .int 0, .int 0])), (z21, .inl (G.2 0, 200, .inl (fun _ => 0))), (z22, .inl (G.2 0, 8, .inl (fun _ => 0))), (z25, .inl (G.2 1, 180, .inl (fun _ => 0))), (z26, .inl (G.2 0, 260, .inl (fun _ => 0))), (z27, .inl (G.2 0, 260, .inl (fun _ => 0))), (z28, .inl (G.2 0, 260, .inl (fun _ => 0))), (z34, .inl (G.2 0, 400, .inl (fun _ => 0))), (z35, .inl (G.2 0, 400, .inl (fun _ => 0))), (z36, .inl (G.2 0, 400, .inl (fun _ => 0))), (z40, .inl (G.2 0, 200, .inl (fun _ => 0))), (z41, .inl (G.2 0, 8, .inl (fun _ => 0))), (q42, .inl (G.2 2, 1, .inr (.inl (fun _ => 0))))] H := hP
      have hD : va_D A [(q1, .inr (0, [.ref z3, .int 0, .ref z4, .ref z16, .ref z20])), (z3, .inl (G.2 1, 180, .inl (fun _ => 0))), (z4, .inr (2, [.ref z5, .ref z9, .ref z12, .int 0, .int (-1), .int (-1)])), (z5, .inr (6, [.ref z6, .ref z7, .ref z8, .int 0, .int 0])), (z6, .inl (G.2 3, 181, .inr (.inr (.inr (.inr (fun _ => none)))))), (z7, .inl (G.2 0, 181, .inl (fun _ => 0))), (z8, .inl (G.2 0, 181, .inl (fun _ => 0))), (z9, .inr (5, [.ref z10, .int 0, .ref z11, .int 0])), (z11, .inl (G.2 0, 5, .inl (fun _ => 0))), (z12, .inr (1, [.ref z13, .ref z14, .ref z15, .int 0])), (z13, .inl (G.2 0, 180, .inl (fun _ => 0))), (z14, .inl (G.2 0, 180, .inl (fun _ => 0))), (z15, .inl (G.2 0, 180, .inl (fun _ => 0))), (z16, .inr (1, [.ref z17, .ref z18, .ref z19, .int 0])), (z17, .inl (G.2 0, 180, .inl (fun _ => 0))), (z18, .inl (G.2 0, 180, .inl (fun _ => 0))), (z19, .inl (G.2 0, 180, .inl (fun _ => 0))), (z20, .inr (3, [.ref z21, .ref z22, .int 0, .int 0, .int 0, .int (-1), .int 0, .int 0])), (z21, .inl (G.2 0, 200, .inl (fun _ => 0))), (z22, .inl (G.2 0, 8, .inl (fun _ => 0))), (z25, .inl (G.2 1, 180, .inl (fun _ => 0))), (z26, .inl (G.2 0, 260, .inl (fun _ => 0))), (z27, .inl (G.2 0, 260, .inl (fun _ => 0))), (z28, .inl (G.2 0, 260, .inl (fun _ => 0))), (z34, .inl (G.2 0, 400, .inl (fun _ => 0))), (z35, .inl (G.2 0, 400, .inl (fun _ => 0))), (z36, .inl (G.2 0, 400, .inl (fun _ => 0))), (z40, .inl (G.2 0, 200, .inl (fun _ => 0))), (z41, .inl (G.2 0, 8, .inl (fun _ => 0))), (q42, .inl (G.2 2, 1, .inr (.inl (fun _ => 0))))] := hD
      refine W.widen (k := 130) (n := 6703) (Nat.le_of_ble_eq_true rfl) (Nat.le_of_ble_eq_true rfl) ?_
      refine lv_icmp_eq (tgt := 436) hx hb d_La_law_263 rfl (fun _ => ?_) (fun h => absurd (by decide) h)
      refine lv_iinc (k := 0) (v := 3) (lv' := [(4, .int 3), (3, .ref q42), (2, .ref q23), (1, .ref q1), (0, .ref b)]) hx hb d_La_law_436 hl rfl (by decide) (by decide) rfl (fun ls hl => ?_)
      refine lv_goto (tgt := 23) hx hb d_La_law_439 rfl ?_
      refine lv_iload hx hb d_La_law_23 (lv_at hl 0 rfl) ?_
      refine lv_aload_n hx hb d_La_law_25 rfl (lv_at hl 4 rfl) ?_
      refine va_slen hx hb hX hbl hbA hS d_La_law_26 ?_
      refine nb_top 3 rfl ?_
      refine lv_iconst (v := 3) hx hb d_La_law_27 (by decide) ?_
      refine lv_isub hx hb d_La_law_28 ?_
      refine nb_top 0 (by decide) ?_
      refine lv_icmp_gt (tgt := 442) hx hb d_La_law_29 rfl (fun _ => ?_) (fun h => absurd (by decide) h)
      refine lv_iconst (v := 1) hx hb d_La_law_442 (by decide) ?_
      refine va_forget (fun q hq => hAf _ (hS.2.2 q hq)) ?_
      refine W.widen (k := 600002) (n := 7302232) (Nat.le_of_ble_eq_true rfl) (Nat.le_of_ble_eq_true rfl) ?_
      exact lw_ret hx hb hr hlocks d_La_law_443
    by_cases hk39_5 : (xs 0) &&& 15 = 5
    · skip
      refine lv_tableIn (off := 229) (tgt := 268) hx hb d_La_law_39 (by rw [hk39_5]; decide) (by rw [hk39_5]; decide) (by rw [hk39_5]; decide) rfl ?_
      refine lv_aload_n hx hb d_La_law_268 rfl (lv_at hl 3 rfl) ?_
      refine lv_aload_n hx hb d_La_law_269 rfl (lv_at hl 4 rfl) ?_
      refine lv_iload hx hb d_La_law_270 (lv_at hl 0 rfl) ?_
      refine lv_iconst (v := 1) hx hb d_La_law_272 (by decide) ?_
      refine lv_iadd hx hb d_La_law_273 ?_
      refine nb_top 1 (by decide) ?_
      refine va_sld hx hb hX hbl hbA hS (i := 1) (nb_in rfl) d_La_law_274 ?_
      refine nb_top (xs 1) rfl ?_
      refine lv_aload_n hx hb d_La_law_275 rfl (lv_at hl 1 rfl) ?_
      rcases nb_rng (xs 1) with ⟨hn0, hn1⟩ | hn
      · skip
        have hPc := hP.sub (ws' := [(q1, .inr (0, [.ref z3, .int 0, .ref z4, .ref z16, .ref z20])), (z20, .inr (3, [.ref z21, .ref z22, .int 0, .int 0, .int 0, .int (-1), .int 0, .int 0])), (q42, .inl (G.2 2, 1, .inr (.inl (fun _ => 0))))]) [0, 17, 30] rfl
        have hDc := hD.sub (ws' := [(q1, .inr (0, [.ref z3, .int 0, .ref z4, .ref z16, .ref z20])), (z20, .inr (3, [.ref z21, .ref z22, .int 0, .int 0, .int 0, .int (-1), .int 0, .int 0])), (q42, .inl (G.2 2, 1, .inr (.inl (fun _ => 0))))]) [0, 17, 30] (by decide) rfl
        have hFc := va_free (wc := [(q1, .inr (0, [.ref z3, .int 0, .ref z4, .ref z16, .ref z20])), (z20, .inr (3, [.ref z21, .ref z22, .int 0, .int 0, .int 0, .int (-1), .int 0, .int 0])), (q42, .inl (G.2 2, 1, .inr (.inl (fun _ => 0))))]) hD hS hA [0, 17, 30] rfl
        refine va_calli (nt_runSW (n := 3) (hh := [(0, 9, 12, 13)]) (As := [.ref q1, .int (xs 1), .ref q42]) (rest := []) ⟨hx, hb, hml, hown, hts⟩ (c_La_run0 l hfl G tk _ q1 z3 z4 z16 z20 z21 z22 q42 (xs 1) hn0 hn1) rfl rfl ⟨Nat.le_of_ble_eq_true rfl, Nat.le_of_ble_eq_true rfl⟩ mw_819 mw_817 mw_818 mw_86 (by decide +kernel) (ns_preS hPc hDc hK hN hE hS hFc) rfl rfl hl.1 rfl (lv_room (Nat.le_of_ble_eq_true rfl)) d_La_law_276 ⟨Nat.le_of_ble_eq_true rfl, Nat.le_of_ble_eq_true rfl⟩) hS (fun q _ h => hFc q h) hFc (fun r62 u61 t H locs ht hvm hw hB hz1 hk1 hS => ?_)
        obtain rfl : r62 = 0 := hw
        obtain ⟨hP1, hD1⟩ := hB
        rw [ht] at hP1
        obtain ⟨hP, hD⟩ := va_join (wr := [(z3, .inl (G.2 1, 180, .inl (fun _ => 0))), (z4, .inr (2, [.ref z5, .ref z9, .ref z12, .int 0, .int (-1), .int (-1)])), (z5, .inr (6, [.ref z6, .ref z7, .ref z8, .int 0, .int 0])), (z6, .inl (G.2 3, 181, .inr (.inr (.inr (.inr (fun _ => none)))))), (z7, .inl (G.2 0, 181, .inl (fun _ => 0))), (z8, .inl (G.2 0, 181, .inl (fun _ => 0))), (z9, .inr (5, [.ref z10, .int 0, .ref z11, .int 0])), (z11, .inl (G.2 0, 5, .inl (fun _ => 0))), (z12, .inr (1, [.ref z13, .ref z14, .ref z15, .int 0])), (z13, .inl (G.2 0, 180, .inl (fun _ => 0))), (z14, .inl (G.2 0, 180, .inl (fun _ => 0))), (z15, .inl (G.2 0, 180, .inl (fun _ => 0))), (z16, .inr (1, [.ref z17, .ref z18, .ref z19, .int 0])), (z17, .inl (G.2 0, 180, .inl (fun _ => 0))), (z18, .inl (G.2 0, 180, .inl (fun _ => 0))), (z19, .inl (G.2 0, 180, .inl (fun _ => 0))), (z21, .inl (G.2 0, 200, .inl (fun _ => 0))), (z22, .inl (G.2 0, 8, .inl (fun _ => 0))), (q23, .inr (7, [.int 0, .int 0, .ref z25, .int 0, .int 0, .int 0, .int 0, .int 0, .int 0, .int (-1), .int (-1), .int 0, .ref z26, .ref z27, .ref z28, .int 0, .ref z29, .ref z30, .ref z31, .ref z32, .ref z33, .int 0, .int 0, .int 0, .int 0, .int 0, .ref z34, .ref z35, .ref z36, .int 0, .ref z37, .ref z38, .ref z39, .int 0, .int 0, .int 0, .int 0, .int (-1), .int 0, .int 0, .ref z40, .ref z41])), (z25, .inl (G.2 1, 180, .inl (fun _ => 0))), (z26, .inl (G.2 0, 260, .inl (fun _ => 0))), (z27, .inl (G.2 0, 260, .inl (fun _ => 0))), (z28, .inl (G.2 0, 260, .inl (fun _ => 0))), (z34, .inl (G.2 0, 400, .inl (fun _ => 0))), (z35, .inl (G.2 0, 400, .inl (fun _ => 0))), (z36, .inl (G.2 0, 400, .inl (fun _ => 0))), (z40, .inl (G.2 0, 200, .inl (fun _ => 0))), (z41, .inl (G.2 0, 8, .inl (fun _ => 0)))]) (w1 := [(q42, .inl (G.2 2, 1, .inr (.inl (vp_updL (fun _ => 0) (0 : Int32).toNatClampNeg (0 : Int64)))))]) hP hD [0, 17, 30] [1, 2, 3, 4, 5, 6, 7, 8, 9, 10, 11, 12, 13, 14, 15, 16, 18, 19, 20, 21, 22, 23, 24, 25, 26, 27, 28, 29] rfl rfl (by decide) (by decide) hk1 hFc hP1 hD1
        have hP : va_P G.1 nn_cls [(z3, .inl (G.2 1, 180, .inl (fun _ => 0))), (z4, .inr (2, [.ref z5, .ref z9, .ref z12, .int 0, .int (-1), .int (-1)])), (z5, .inr (6, [.ref z6, .ref z7, .ref z8, .int 0, .int 0])), (z6, .inl (G.2 3, 181, .inr (.inr (.inr (.inr (fun _ => none)))))), (z7, .inl (G.2 0, 181, .inl (fun _ => 0))), (z8, .inl (G.2 0, 181, .inl (fun _ => 0))), (z9, .inr (5, [.ref z10, .int 0, .ref z11, .int 0])), (z11, .inl (G.2 0, 5, .inl (fun _ => 0))), (z12, .inr (1, [.ref z13, .ref z14, .ref z15, .int 0])), (z13, .inl (G.2 0, 180, .inl (fun _ => 0))), (z14, .inl (G.2 0, 180, .inl (fun _ => 0))), (z15, .inl (G.2 0, 180, .inl (fun _ => 0))), (z16, .inr (1, [.ref z17, .ref z18, .ref z19, .int 0])), (z17, .inl (G.2 0, 180, .inl (fun _ => 0))), (z18, .inl (G.2 0, 180, .inl (fun _ => 0))), (z19, .inl (G.2 0, 180, .inl (fun _ => 0))), (z21, .inl (G.2 0, 200, .inl (fun _ => 0))), (z22, .inl (G.2 0, 8, .inl (fun _ => 0))), (q23, .inr (7, [.int 0, .int 0, .ref z25, .int 0, .int 0, .int 0, .int 0, .int 0, .int 0, .int (-1), .int (-1), .int 0, .ref z26, .ref z27, .ref z28, .int 0, .ref z29, .ref z30, .ref z31, .ref z32, .ref z33, .int 0, .int 0, .int 0, .int 0, .int 0, .ref z34, .ref z35, .ref z36, .int 0, .ref z37, .ref z38, .ref z39, .int 0, .int 0, .int 0, .int 0, .int (-1), .int 0, .int 0, .ref z40, .ref z41])), (z25, .inl (G.2 1, 180, .inl (fun _ => 0))), (z26, .inl (G.2 0, 260, .inl (fun _ => 0))), (z27, .inl (G.2 0, 260, .inl (fun _ => 0))), (z28, .inl (G.2 0, 260, .inl (fun _ => 0))), (z34, .inl (G.2 0, 400, .inl (fun _ => 0))), (z35, .inl (G.2 0, 400, .inl (fun _ => 0))), (z36, .inl (G.2 0, 400, .inl (fun _ => 0))), (z40, .inl (G.2 0, 200, .inl (fun _ => 0))), (z41, .inl (G.2 0, 8, .inl (fun _ => 0))), (q42, .inl (G.2 2, 1, .inr (.inl (vp_updL (fun _ => 0) (0 : Int32).toNatClampNeg (0 : Int64)))))] H := hP
        have hD : va_D A [(z3, .inl (G.2 1, 180, .inl (fun _ => 0))), (z4, .inr (2, [.ref z5, .ref z9, .ref z12, .int 0, .int (-1), .int (-1)])), (z5, .inr (6, [.ref z6, .ref z7, .ref z8, .int 0, .int 0])), (z6, .inl (G.2 3, 181, .inr (.inr (.inr (.inr (fun _ => none)))))), (z7, .inl (G.2 0, 181, .inl (fun _ => 0))), (z8, .inl (G.2 0, 181, .inl (fun _ => 0))), (z9, .inr (5, [.ref z10, .int 0, .ref z11, .int 0])), (z11, .inl (G.2 0, 5, .inl (fun _ => 0))), (z12, .inr (1, [.ref z13, .ref z14, .ref z15, .int 0])), (z13, .inl (G.2 0, 180, .inl (fun _ => 0))), (z14, .inl (G.2 0, 180, .inl (fun _ => 0))), (z15, .inl (G.2 0, 180, .inl (fun _ => 0))), (z16, .inr (1, [.ref z17, .ref z18, .ref z19, .int 0])), (z17, .inl (G.2 0, 180, .inl (fun _ => 0))), (z18, .inl (G.2 0, 180, .inl (fun _ => 0))), (z19, .inl (G.2 0, 180, .inl (fun _ => 0))), (z21, .inl (G.2 0, 200, .inl (fun _ => 0))), (z22, .inl (G.2 0, 8, .inl (fun _ => 0))), (q23, .inr (7, [.int 0, .int 0, .ref z25, .int 0, .int 0, .int 0, .int 0, .int 0, .int 0, .int (-1), .int (-1), .int 0, .ref z26, .ref z27, .ref z28, .int 0, .ref z29, .ref z30, .ref z31, .ref z32, .ref z33, .int 0, .int 0, .int 0, .int 0, .int 0, .ref z34, .ref z35, .ref z36, .int 0, .ref z37, .ref z38, .ref z39, .int 0, .int 0, .int 0, .int 0, .int (-1), .int 0, .int 0, .ref z40, .ref z41])), (z25, .inl (G.2 1, 180, .inl (fun _ => 0))), (z26, .inl (G.2 0, 260, .inl (fun _ => 0))), (z27, .inl (G.2 0, 260, .inl (fun _ => 0))), (z28, .inl (G.2 0, 260, .inl (fun _ => 0))), (z34, .inl (G.2 0, 400, .inl (fun _ => 0))), (z35, .inl (G.2 0, 400, .inl (fun _ => 0))), (z36, .inl (G.2 0, 400, .inl (fun _ => 0))), (z40, .inl (G.2 0, 200, .inl (fun _ => 0))), (z41, .inl (G.2 0, 8, .inl (fun _ => 0))), (q42, .inl (G.2 2, 1, .inr (.inl (vp_updL (fun _ => 0) (0 : Int32).toNatClampNeg (0 : Int64)))))] := hD
        refine W.widen (k := 130) (n := 6703) (Nat.le_of_ble_eq_true rfl) (Nat.le_of_ble_eq_true rfl) ?_
        refine lv_istore (lv' := [(5, .int 0), (4, .int 0), (3, .ref q42), (2, .ref q23), (1, .ref q1), (0, .ref b)]) hx hb d_La_law_279 hl (by decide) rfl (fun ls hl => ?_)
        refine lv_aload_n hx hb d_La_law_281 rfl (lv_at hl 3 rfl) ?_
        refine lv_aload_n hx hb d_La_law_282 rfl (lv_at hl 5 rfl) ?_
        refine lv_iload hx hb d_La_law_283 (lv_at hl 1 rfl) ?_
        refine lv_iconst (v := 1) hx hb d_La_law_285 (by decide) ?_
        refine lv_iadd hx hb d_La_law_286 ?_
        refine nb_top 1 (by decide) ?_
        refine va_sld hx hb hX hbl hbA hS (i := 1) (nb_in rfl) d_La_law_287 ?_
        refine nb_top (xs 1) rfl ?_
        have hPc := hP.sub (ws' := [(q23, .inr (7, [.int 0, .int 0, .ref z25, .int 0, .int 0, .int 0, .int 0, .int 0, .int 0, .int (-1), .int (-1), .int 0, .ref z26, .ref z27, .ref z28, .int 0, .ref z29, .ref z30, .ref z31, .ref z32, .ref z33, .int 0, .int 0, .int 0, .int 0, .int 0, .ref z34, .ref z35, .ref z36, .int 0, .ref z37, .ref z38, .ref z39, .int 0, .int 0, .int 0, .int 0, .int (-1), .int 0, .int 0, .ref z40, .ref z41]))]) [18] rfl
        have hDc := hD.sub (ws' := [(q23, .inr (7, [.int 0, .int 0, .ref z25, .int 0, .int 0, .int 0, .int 0, .int 0, .int 0, .int (-1), .int (-1), .int 0, .ref z26, .ref z27, .ref z28, .int 0, .ref z29, .ref z30, .ref z31, .ref z32, .ref z33, .int 0, .int 0, .int 0, .int 0, .int 0, .ref z34, .ref z35, .ref z36, .int 0, .ref z37, .ref z38, .ref z39, .int 0, .int 0, .int 0, .int 0, .int (-1), .int 0, .int 0, .ref z40, .ref z41]))]) [18] (by decide) rfl
        have hFc := va_free (wc := [(q23, .inr (7, [.int 0, .int 0, .ref z25, .int 0, .int 0, .int 0, .int 0, .int 0, .int 0, .int (-1), .int (-1), .int 0, .ref z26, .ref z27, .ref z28, .int 0, .ref z29, .ref z30, .ref z31, .ref z32, .ref z33, .int 0, .int 0, .int 0, .int 0, .int 0, .ref z34, .ref z35, .ref z36, .int 0, .ref z37, .ref z38, .ref z39, .int 0, .int 0, .int 0, .int 0, .int (-1), .int 0, .int 0, .ref z40, .ref z41]))]) hD hS hA [18] rfl
        refine va_calli (va_runV (As := [.int (xs 1)]) (rest := []) ⟨hx, hb, hml, hown, hts⟩ (c_Mo_run0 l G _ q23 z25 z26 z27 z28 z29 z30 z31 z32 z33 z34 z35 z36 z37 z38 z39 z40 z41 (xs 1) hn0 hn1) (cwV 1 hts (nn_gV mw_1180 mw_1177 mw_1178 mw_1179 mw_94) rfl rfl rfl (by decide +kernel) ⟨Nat.le_of_ble_eq_true rfl, Nat.le_of_ble_eq_true rfl⟩) (nn_preV (va_recv hK hP rfl (q0 := 18) rfl) hPc hDc hK hN) rfl rfl hl.1 rfl (lv_room (Nat.le_of_ble_eq_true rfl)) d_La_law_288 ⟨(Nat.le_of_ble_eq_true rfl), (Nat.le_of_ble_eq_true rfl)⟩) hS (fun q _ h => hFc q h) hFc (fun r64 u63 t H locs ht hvm hw hB hz1 hk1 hS => ?_)
        obtain rfl : r64 = 0 := hw
        obtain ⟨hP1, hD1⟩ := hB
        rw [ht] at hP1
        obtain ⟨hP, hD⟩ := va_join (wr := [(z3, .inl (G.2 1, 180, .inl (fun _ => 0))), (z4, .inr (2, [.ref z5, .ref z9, .ref z12, .int 0, .int (-1), .int (-1)])), (z5, .inr (6, [.ref z6, .ref z7, .ref z8, .int 0, .int 0])), (z6, .inl (G.2 3, 181, .inr (.inr (.inr (.inr (fun _ => none)))))), (z7, .inl (G.2 0, 181, .inl (fun _ => 0))), (z8, .inl (G.2 0, 181, .inl (fun _ => 0))), (z9, .inr (5, [.ref z10, .int 0, .ref z11, .int 0])), (z11, .inl (G.2 0, 5, .inl (fun _ => 0))), (z12, .inr (1, [.ref z13, .ref z14, .ref z15, .int 0])), (z13, .inl (G.2 0, 180, .inl (fun _ => 0))), (z14, .inl (G.2 0, 180, .inl (fun _ => 0))), (z15, .inl (G.2 0, 180, .inl (fun _ => 0))), (z16, .inr (1, [.ref z17, .ref z18, .ref z19, .int 0])), (z17, .inl (G.2 0, 180, .inl (fun _ => 0))), (z18, .inl (G.2 0, 180, .inl (fun _ => 0))), (z19, .inl (G.2 0, 180, .inl (fun _ => 0))), (z21, .inl (G.2 0, 200, .inl (fun _ => 0))), (z22, .inl (G.2 0, 8, .inl (fun _ => 0))), (z25, .inl (G.2 1, 180, .inl (fun _ => 0))), (z26, .inl (G.2 0, 260, .inl (fun _ => 0))), (z27, .inl (G.2 0, 260, .inl (fun _ => 0))), (z28, .inl (G.2 0, 260, .inl (fun _ => 0))), (z34, .inl (G.2 0, 400, .inl (fun _ => 0))), (z35, .inl (G.2 0, 400, .inl (fun _ => 0))), (z36, .inl (G.2 0, 400, .inl (fun _ => 0))), (z40, .inl (G.2 0, 200, .inl (fun _ => 0))), (z41, .inl (G.2 0, 8, .inl (fun _ => 0))), (q42, .inl (G.2 2, 1, .inr (.inl (vp_updL (fun _ => 0) (0 : Int32).toNatClampNeg (0 : Int64)))))]) (w1 := [(q23, .inr (7, [.int 0, .int 0, .ref z25, .int 0, .int 0, .int 0, .int 0, .int 0, .int 0, .int (-1), .int (-1), .int 0, .ref z26, .ref z27, .ref z28, .int 0, .ref z29, .ref z30, .ref z31, .ref z32, .ref z33, .int 0, .int 0, .int 0, .int 0, .int 0, .ref z34, .ref z35, .ref z36, .int 0, .ref z37, .ref z38, .ref z39, .int 0, .int 0, .int 0, .int 0, .int (-1), .int 0, .int 0, .ref z40, .ref z41]))]) hP hD [18] [0, 1, 2, 3, 4, 5, 6, 7, 8, 9, 10, 11, 12, 13, 14, 15, 16, 17, 19, 20, 21, 22, 23, 24, 25, 26, 27, 28] rfl rfl (by decide) (by decide) hk1 hFc hP1 hD1
        have hP : va_P G.1 nn_cls [(z3, .inl (G.2 1, 180, .inl (fun _ => 0))), (z4, .inr (2, [.ref z5, .ref z9, .ref z12, .int 0, .int (-1), .int (-1)])), (z5, .inr (6, [.ref z6, .ref z7, .ref z8, .int 0, .int 0])), (z6, .inl (G.2 3, 181, .inr (.inr (.inr (.inr (fun _ => none)))))), (z7, .inl (G.2 0, 181, .inl (fun _ => 0))), (z8, .inl (G.2 0, 181, .inl (fun _ => 0))), (z9, .inr (5, [.ref z10, .int 0, .ref z11, .int 0])), (z11, .inl (G.2 0, 5, .inl (fun _ => 0))), (z12, .inr (1, [.ref z13, .ref z14, .ref z15, .int 0])), (z13, .inl (G.2 0, 180, .inl (fun _ => 0))), (z14, .inl (G.2 0, 180, .inl (fun _ => 0))), (z15, .inl (G.2 0, 180, .inl (fun _ => 0))), (z16, .inr (1, [.ref z17, .ref z18, .ref z19, .int 0])), (z17, .inl (G.2 0, 180, .inl (fun _ => 0))), (z18, .inl (G.2 0, 180, .inl (fun _ => 0))), (z19, .inl (G.2 0, 180, .inl (fun _ => 0))), (z21, .inl (G.2 0, 200, .inl (fun _ => 0))), (z22, .inl (G.2 0, 8, .inl (fun _ => 0))), (z25, .inl (G.2 1, 180, .inl (fun _ => 0))), (z26, .inl (G.2 0, 260, .inl (fun _ => 0))), (z27, .inl (G.2 0, 260, .inl (fun _ => 0))), (z28, .inl (G.2 0, 260, .inl (fun _ => 0))), (z34, .inl (G.2 0, 400, .inl (fun _ => 0))), (z35, .inl (G.2 0, 400, .inl (fun _ => 0))), (z36, .inl (G.2 0, 400, .inl (fun _ => 0))), (z40, .inl (G.2 0, 200, .inl (fun _ => 0))), (z41, .inl (G.2 0, 8, .inl (fun _ => 0))), (q42, .inl (G.2 2, 1, .inr (.inl (vp_updL (fun _ => 0) (0 : Int32).toNatClampNeg (0 : Int64))))), (q23, .inr (7, [.int 0, .int 0, .ref z25, .int 0, .int 0, .int 0, .int 0, .int 0, .int 0, .int (-1), .int (-1), .int 0, .ref z26, .ref z27, .ref z28, .int 0, .ref z29, .ref z30, .ref z31, .ref z32, .ref z33, .int 0, .int 0, .int 0, .int 0, .int 0, .ref z34, .ref z35, .ref z36, .int 0, .ref z37, .ref z38, .ref z39, .int 0, .int 0, .int 0, .int 0, .int (-1), .int 0, .int 0, .ref z40, .ref z41]))] H := hP
        have hD : va_D A [(z3, .inl (G.2 1, 180, .inl (fun _ => 0))), (z4, .inr (2, [.ref z5, .ref z9, .ref z12, .int 0, .int (-1), .int (-1)])), (z5, .inr (6, [.ref z6, .ref z7, .ref z8, .int 0, .int 0])), (z6, .inl (G.2 3, 181, .inr (.inr (.inr (.inr (fun _ => none)))))), (z7, .inl (G.2 0, 181, .inl (fun _ => 0))), (z8, .inl (G.2 0, 181, .inl (fun _ => 0))), (z9, .inr (5, [.ref z10, .int 0, .ref z11, .int 0])), (z11, .inl (G.2 0, 5, .inl (fun _ => 0))), (z12, .inr (1, [.ref z13, .ref z14, .ref z15, .int 0])), (z13, .inl (G.2 0, 180, .inl (fun _ => 0))), (z14, .inl (G.2 0, 180, .inl (fun _ => 0))), (z15, .inl (G.2 0, 180, .inl (fun _ => 0))), (z16, .inr (1, [.ref z17, .ref z18, .ref z19, .int 0])), (z17, .inl (G.2 0, 180, .inl (fun _ => 0))), (z18, .inl (G.2 0, 180, .inl (fun _ => 0))), (z19, .inl (G.2 0, 180, .inl (fun _ => 0))), (z21, .inl (G.2 0, 200, .inl (fun _ => 0))), (z22, .inl (G.2 0, 8, .inl (fun _ => 0))), (z25, .inl (G.2 1, 180, .inl (fun _ => 0))), (z26, .inl (G.2 0, 260, .inl (fun _ => 0))), (z27, .inl (G.2 0, 260, .inl (fun _ => 0))), (z28, .inl (G.2 0, 260, .inl (fun _ => 0))), (z34, .inl (G.2 0, 400, .inl (fun _ => 0))), (z35, .inl (G.2 0, 400, .inl (fun _ => 0))), (z36, .inl (G.2 0, 400, .inl (fun _ => 0))), (z40, .inl (G.2 0, 200, .inl (fun _ => 0))), (z41, .inl (G.2 0, 8, .inl (fun _ => 0))), (q42, .inl (G.2 2, 1, .inr (.inl (vp_updL (fun _ => 0) (0 : Int32).toNatClampNeg (0 : Int64))))), (q23, .inr (7, [.int 0, .int 0, .ref z25, .int 0, .int 0, .int 0, .int 0, .int 0, .int 0, .int (-1), .int (-1), .int 0, .ref z26, .ref z27, .ref z28, .int 0, .ref z29, .ref z30, .ref z31, .ref z32, .ref z33, .int 0, .int 0, .int 0, .int 0, .int 0, .ref z34, .ref z35, .ref z36, .int 0, .ref z37, .ref z38, .ref z39, .int 0, .int 0, .int 0, .int 0, .int (-1), .int 0, .int 0, .ref z40, .ref z41]))] := hD
        refine W.widen (k := 130) (n := 6703) (Nat.le_of_ble_eq_true rfl) (Nat.le_of_ble_eq_true rfl) ?_
        refine lv_istore (lv' := [(6, .int 0), (5, .int 0), (4, .int 0), (3, .ref q42), (2, .ref q23), (1, .ref q1), (0, .ref b)]) hx hb d_La_law_291 hl (by decide) rfl (fun ls hl => ?_)
        refine lv_aload_n hx hb d_La_law_293 rfl (lv_at hl 4 rfl) ?_
        have hPc := hP.sub (ws' := [(q23, .inr (7, [.int 0, .int 0, .ref z25, .int 0, .int 0, .int 0, .int 0, .int 0, .int 0, .int (-1), .int (-1), .int 0, .ref z26, .ref z27, .ref z28, .int 0, .ref z29, .ref z30, .ref z31, .ref z32, .ref z33, .int 0, .int 0, .int 0, .int 0, .int 0, .ref z34, .ref z35, .ref z36, .int 0, .ref z37, .ref z38, .ref z39, .int 0, .int 0, .int 0, .int 0, .int (-1), .int 0, .int 0, .ref z40, .ref z41]))]) [28] rfl
        have hDc := hD.sub (ws' := [(q23, .inr (7, [.int 0, .int 0, .ref z25, .int 0, .int 0, .int 0, .int 0, .int 0, .int 0, .int (-1), .int (-1), .int 0, .ref z26, .ref z27, .ref z28, .int 0, .ref z29, .ref z30, .ref z31, .ref z32, .ref z33, .int 0, .int 0, .int 0, .int 0, .int 0, .ref z34, .ref z35, .ref z36, .int 0, .ref z37, .ref z38, .ref z39, .int 0, .int 0, .int 0, .int 0, .int (-1), .int 0, .int 0, .ref z40, .ref z41]))]) [28] (by decide) rfl
        refine vp_callSi (va_Run.run (va_runV (As := []) (rest := []) ⟨hx, hb, hml, hown, hts⟩ (c_Mo_thrown l G _ q23 0 [.int 0, .ref z25, .int 0, .int 0, .int 0, .int 0, .int 0, .int 0, .int (-1), .int (-1), .int 0, .ref z26, .ref z27, .ref z28, .int 0, .ref z29, .ref z30, .ref z31, .ref z32, .ref z33, .int 0, .int 0, .int 0, .int 0, .int 0, .ref z34, .ref z35, .ref z36, .int 0, .ref z37, .ref z38, .ref z39, .int 0, .int 0, .int 0, .int 0, .int (-1), .int 0, .int 0, .ref z40, .ref z41]) (cwV 0 hts (nn_gV mw_1020 mw_1017 mw_1018 mw_1019 mw_94) rfl rfl rfl (by decide +kernel) ⟨Nat.le_of_ble_eq_true rfl, Nat.le_of_ble_eq_true rfl⟩) (nn_preV (va_recv hK hP rfl (q0 := 28) rfl) hPc hDc hK hN) rfl rfl hl.1 rfl (lv_room (Nat.le_of_ble_eq_true rfl)) d_La_law_294 ⟨(Nat.le_of_ble_eq_true rfl), (Nat.le_of_ble_eq_true rfl)⟩)) (fun r65 er65 => ?_)
        subst er65
        refine lv_iload hx hb d_La_law_297 (lv_at hl 1 rfl) ?_
        refine lv_icmp_eq (tgt := 304) hx hb d_La_law_299 rfl (fun _ => ?_) (fun h => absurd (by decide) h)
        refine lv_iload hx hb d_La_law_304 (lv_at hl 1 rfl) ?_
        refine lv_if_ne (tgt := 321) hx hb d_La_law_306 rfl (fun h => absurd (by decide) h) (fun _ => ?_)
        refine lv_aload_n hx hb d_La_law_309 rfl (lv_at hl 3 rfl) ?_
        refine lv_iconst (v := 0) hx hb d_La_law_310 (by decide) ?_
        refine va_lald hx hb hK hP 27 2 rfl rfl (nb_in rfl) d_La_law_311 ?_
        refine nb_topl 0 (by decide) ?_
        refine lv_iload hx hb d_La_law_312 (lv_at hl 0 rfl) ?_
        refine lv_i2l (v := (0 : Int64)) hx hb d_La_law_314 (by decide) ?_
        refine W.lcmp hx hb d_La_law_315 ?_
        refine nb_top 0 (by decide) ?_
        refine lv_if_eq (tgt := 321) hx hb d_La_law_316 rfl (fun _ => ?_) (fun h => absurd (by decide) h)
        refine lv_goto (tgt := 436) hx hb d_La_law_321 rfl ?_
        refine lv_iinc (k := 2) (v := 3) (lv' := [(4, .int 3), (6, .int 0), (5, .int 0), (3, .ref q42), (2, .ref q23), (1, .ref q1), (0, .ref b)]) hx hb d_La_law_436 hl rfl (by decide) (by decide) rfl (fun ls hl => ?_)
        refine lv_goto (tgt := 23) hx hb d_La_law_439 rfl ?_
        refine lv_iload hx hb d_La_law_23 (lv_at hl 0 rfl) ?_
        refine lv_aload_n hx hb d_La_law_25 rfl (lv_at hl 6 rfl) ?_
        refine va_slen hx hb hX hbl hbA hS d_La_law_26 ?_
        refine nb_top 3 rfl ?_
        refine lv_iconst (v := 3) hx hb d_La_law_27 (by decide) ?_
        refine lv_isub hx hb d_La_law_28 ?_
        refine nb_top 0 (by decide) ?_
        refine lv_icmp_gt (tgt := 442) hx hb d_La_law_29 rfl (fun _ => ?_) (fun h => absurd (by decide) h)
        refine lv_iconst (v := 1) hx hb d_La_law_442 (by decide) ?_
        refine va_forget (fun q hq => hAf _ (hS.2.2 q hq)) ?_
        refine W.widen (k := 600002) (n := 7302232) (Nat.le_of_ble_eq_true rfl) (Nat.le_of_ble_eq_true rfl) ?_
        exact lw_ret hx hb hr hlocks d_La_law_443
      · skip
        have hPc := hP.sub (ws' := [(q1, .inr (0, [.ref z3, .int 0, .ref z4, .ref z16, .ref z20])), (z20, .inr (3, [.ref z21, .ref z22, .int 0, .int 0, .int 0, .int (-1), .int 0, .int 0])), (q42, .inl (G.2 2, 1, .inr (.inl (fun _ => 0))))]) [0, 17, 30] rfl
        have hDc := hD.sub (ws' := [(q1, .inr (0, [.ref z3, .int 0, .ref z4, .ref z16, .ref z20])), (z20, .inr (3, [.ref z21, .ref z22, .int 0, .int 0, .int 0, .int (-1), .int 0, .int 0])), (q42, .inl (G.2 2, 1, .inr (.inl (fun _ => 0))))]) [0, 17, 30] (by decide) rfl
        have hFc := va_free (wc := [(q1, .inr (0, [.ref z3, .int 0, .ref z4, .ref z16, .ref z20])), (z20, .inr (3, [.ref z21, .ref z22, .int 0, .int 0, .int 0, .int (-1), .int 0, .int 0])), (q42, .inl (G.2 2, 1, .inr (.inl (fun _ => 0))))]) hD hS hA [0, 17, 30] rfl
        refine va_calli (nt_runSW (n := 3) (hh := [(0, 9, 12, 13)]) (As := [.ref q1, .int (xs 1), .ref q42]) (rest := []) ⟨hx, hb, hml, hown, hts⟩ (c_La_run1 l hfl G tk _ q1 z3 z4 z16 z20 z21 z22 q42 (xs 1) hn) rfl rfl ⟨Nat.le_of_ble_eq_true rfl, Nat.le_of_ble_eq_true rfl⟩ mw_819 mw_817 mw_818 mw_86 (by decide +kernel) (ns_preS hPc hDc hK hN hE hS hFc) rfl rfl hl.1 rfl (lv_room (Nat.le_of_ble_eq_true rfl)) d_La_law_276 ⟨Nat.le_of_ble_eq_true rfl, Nat.le_of_ble_eq_true rfl⟩) hS (fun q _ h => hFc q h) hFc (fun r67 u66 t H locs ht hvm hw hB hz1 hk1 hS => ?_)
        obtain rfl : r67 = 1 := hw
        obtain ⟨hP, hD⟩ := va_join (wr := [(z3, .inl (G.2 1, 180, .inl (fun _ => 0))), (z4, .inr (2, [.ref z5, .ref z9, .ref z12, .int 0, .int (-1), .int (-1)])), (z5, .inr (6, [.ref z6, .ref z7, .ref z8, .int 0, .int 0])), (z6, .inl (G.2 3, 181, .inr (.inr (.inr (.inr (fun _ => none)))))), (z7, .inl (G.2 0, 181, .inl (fun _ => 0))), (z8, .inl (G.2 0, 181, .inl (fun _ => 0))), (z9, .inr (5, [.ref z10, .int 0, .ref z11, .int 0])), (z11, .inl (G.2 0, 5, .inl (fun _ => 0))), (z12, .inr (1, [.ref z13, .ref z14, .ref z15, .int 0])), (z13, .inl (G.2 0, 180, .inl (fun _ => 0))), (z14, .inl (G.2 0, 180, .inl (fun _ => 0))), (z15, .inl (G.2 0, 180, .inl (fun _ => 0))), (z16, .inr (1, [.ref z17, .ref z18, .ref z19, .int 0])), (z17, .inl (G.2 0, 180, .inl (fun _ => 0))), (z18, .inl (G.2 0, 180, .inl (fun _ => 0))), (z19, .inl (G.2 0, 180, .inl (fun _ => 0))), (z21, .inl (G.2 0, 200, .inl (fun _ => 0))), (z22, .inl (G.2 0, 8, .inl (fun _ => 0))), (q23, .inr (7, [.int 0, .int 0, .ref z25, .int 0, .int 0, .int 0, .int 0, .int 0, .int 0, .int (-1), .int (-1), .int 0, .ref z26, .ref z27, .ref z28, .int 0, .ref z29, .ref z30, .ref z31, .ref z32, .ref z33, .int 0, .int 0, .int 0, .int 0, .int 0, .ref z34, .ref z35, .ref z36, .int 0, .ref z37, .ref z38, .ref z39, .int 0, .int 0, .int 0, .int 0, .int (-1), .int 0, .int 0, .ref z40, .ref z41])), (z25, .inl (G.2 1, 180, .inl (fun _ => 0))), (z26, .inl (G.2 0, 260, .inl (fun _ => 0))), (z27, .inl (G.2 0, 260, .inl (fun _ => 0))), (z28, .inl (G.2 0, 260, .inl (fun _ => 0))), (z34, .inl (G.2 0, 400, .inl (fun _ => 0))), (z35, .inl (G.2 0, 400, .inl (fun _ => 0))), (z36, .inl (G.2 0, 400, .inl (fun _ => 0))), (z40, .inl (G.2 0, 200, .inl (fun _ => 0))), (z41, .inl (G.2 0, 8, .inl (fun _ => 0)))]) (w1 := []) hP hD [0, 17, 30] [1, 2, 3, 4, 5, 6, 7, 8, 9, 10, 11, 12, 13, 14, 15, 16, 18, 19, 20, 21, 22, 23, 24, 25, 26, 27, 28, 29] rfl rfl (by decide) (by decide) hk1 hFc nb_P0 nb_D0
        have hP : va_P G.1 nn_cls [(z3, .inl (G.2 1, 180, .inl (fun _ => 0))), (z4, .inr (2, [.ref z5, .ref z9, .ref z12, .int 0, .int (-1), .int (-1)])), (z5, .inr (6, [.ref z6, .ref z7, .ref z8, .int 0, .int 0])), (z6, .inl (G.2 3, 181, .inr (.inr (.inr (.inr (fun _ => none)))))), (z7, .inl (G.2 0, 181, .inl (fun _ => 0))), (z8, .inl (G.2 0, 181, .inl (fun _ => 0))), (z9, .inr (5, [.ref z10, .int 0, .ref z11, .int 0])), (z11, .inl (G.2 0, 5, .inl (fun _ => 0))), (z12, .inr (1, [.ref z13, .ref z14, .ref z15, .int 0])), (z13, .inl (G.2 0, 180, .inl (fun _ => 0))), (z14, .inl (G.2 0, 180, .inl (fun _ => 0))), (z15, .inl (G.2 0, 180, .inl (fun _ => 0))), (z16, .inr (1, [.ref z17, .ref z18, .ref z19, .int 0])), (z17, .inl (G.2 0, 180, .inl (fun _ => 0))), (z18, .inl (G.2 0, 180, .inl (fun _ => 0))), (z19, .inl (G.2 0, 180, .inl (fun _ => 0))), (z21, .inl (G.2 0, 200, .inl (fun _ => 0))), (z22, .inl (G.2 0, 8, .inl (fun _ => 0))), (q23, .inr (7, [.int 0, .int 0, .ref z25, .int 0, .int 0, .int 0, .int 0, .int 0, .int 0, .int (-1), .int (-1), .int 0, .ref z26, .ref z27, .ref z28, .int 0, .ref z29, .ref z30, .ref z31, .ref z32, .ref z33, .int 0, .int 0, .int 0, .int 0, .int 0, .ref z34, .ref z35, .ref z36, .int 0, .ref z37, .ref z38, .ref z39, .int 0, .int 0, .int 0, .int 0, .int (-1), .int 0, .int 0, .ref z40, .ref z41])), (z25, .inl (G.2 1, 180, .inl (fun _ => 0))), (z26, .inl (G.2 0, 260, .inl (fun _ => 0))), (z27, .inl (G.2 0, 260, .inl (fun _ => 0))), (z28, .inl (G.2 0, 260, .inl (fun _ => 0))), (z34, .inl (G.2 0, 400, .inl (fun _ => 0))), (z35, .inl (G.2 0, 400, .inl (fun _ => 0))), (z36, .inl (G.2 0, 400, .inl (fun _ => 0))), (z40, .inl (G.2 0, 200, .inl (fun _ => 0))), (z41, .inl (G.2 0, 8, .inl (fun _ => 0)))] H := hP
        have hD : va_D A [(z3, .inl (G.2 1, 180, .inl (fun _ => 0))), (z4, .inr (2, [.ref z5, .ref z9, .ref z12, .int 0, .int (-1), .int (-1)])), (z5, .inr (6, [.ref z6, .ref z7, .ref z8, .int 0, .int 0])), (z6, .inl (G.2 3, 181, .inr (.inr (.inr (.inr (fun _ => none)))))), (z7, .inl (G.2 0, 181, .inl (fun _ => 0))), (z8, .inl (G.2 0, 181, .inl (fun _ => 0))), (z9, .inr (5, [.ref z10, .int 0, .ref z11, .int 0])), (z11, .inl (G.2 0, 5, .inl (fun _ => 0))), (z12, .inr (1, [.ref z13, .ref z14, .ref z15, .int 0])), (z13, .inl (G.2 0, 180, .inl (fun _ => 0))), (z14, .inl (G.2 0, 180, .inl (fun _ => 0))), (z15, .inl (G.2 0, 180, .inl (fun _ => 0))), (z16, .inr (1, [.ref z17, .ref z18, .ref z19, .int 0])), (z17, .inl (G.2 0, 180, .inl (fun _ => 0))), (z18, .inl (G.2 0, 180, .inl (fun _ => 0))), (z19, .inl (G.2 0, 180, .inl (fun _ => 0))), (z21, .inl (G.2 0, 200, .inl (fun _ => 0))), (z22, .inl (G.2 0, 8, .inl (fun _ => 0))), (q23, .inr (7, [.int 0, .int 0, .ref z25, .int 0, .int 0, .int 0, .int 0, .int 0, .int 0, .int (-1), .int (-1), .int 0, .ref z26, .ref z27, .ref z28, .int 0, .ref z29, .ref z30, .ref z31, .ref z32, .ref z33, .int 0, .int 0, .int 0, .int 0, .int 0, .ref z34, .ref z35, .ref z36, .int 0, .ref z37, .ref z38, .ref z39, .int 0, .int 0, .int 0, .int 0, .int (-1), .int 0, .int 0, .ref z40, .ref z41])), (z25, .inl (G.2 1, 180, .inl (fun _ => 0))), (z26, .inl (G.2 0, 260, .inl (fun _ => 0))), (z27, .inl (G.2 0, 260, .inl (fun _ => 0))), (z28, .inl (G.2 0, 260, .inl (fun _ => 0))), (z34, .inl (G.2 0, 400, .inl (fun _ => 0))), (z35, .inl (G.2 0, 400, .inl (fun _ => 0))), (z36, .inl (G.2 0, 400, .inl (fun _ => 0))), (z40, .inl (G.2 0, 200, .inl (fun _ => 0))), (z41, .inl (G.2 0, 8, .inl (fun _ => 0)))] := hD
        refine W.widen (k := 131) (n := 6709) (Nat.le_of_ble_eq_true rfl) (Nat.le_of_ble_eq_true rfl) ?_
        refine lv_istore (lv' := [(5, .int 1), (4, .int 0), (3, .ref q42), (2, .ref q23), (1, .ref q1), (0, .ref b)]) hx hb d_La_law_279 hl (by decide) rfl (fun ls hl => ?_)
        refine lv_aload_n hx hb d_La_law_281 rfl (lv_at hl 3 rfl) ?_
        refine lv_aload_n hx hb d_La_law_282 rfl (lv_at hl 5 rfl) ?_
        refine lv_iload hx hb d_La_law_283 (lv_at hl 1 rfl) ?_
        refine lv_iconst (v := 1) hx hb d_La_law_285 (by decide) ?_
        refine lv_iadd hx hb d_La_law_286 ?_
        refine nb_top 1 (by decide) ?_
        refine va_sld hx hb hX hbl hbA hS (i := 1) (nb_in rfl) d_La_law_287 ?_
        refine nb_top (xs 1) rfl ?_
        have hPc := hP.sub (ws' := [(q23, .inr (7, [.int 0, .int 0, .ref z25, .int 0, .int 0, .int 0, .int 0, .int 0, .int 0, .int (-1), .int (-1), .int 0, .ref z26, .ref z27, .ref z28, .int 0, .ref z29, .ref z30, .ref z31, .ref z32, .ref z33, .int 0, .int 0, .int 0, .int 0, .int 0, .ref z34, .ref z35, .ref z36, .int 0, .ref z37, .ref z38, .ref z39, .int 0, .int 0, .int 0, .int 0, .int (-1), .int 0, .int 0, .ref z40, .ref z41]))]) [18] rfl
        have hDc := hD.sub (ws' := [(q23, .inr (7, [.int 0, .int 0, .ref z25, .int 0, .int 0, .int 0, .int 0, .int 0, .int 0, .int (-1), .int (-1), .int 0, .ref z26, .ref z27, .ref z28, .int 0, .ref z29, .ref z30, .ref z31, .ref z32, .ref z33, .int 0, .int 0, .int 0, .int 0, .int 0, .ref z34, .ref z35, .ref z36, .int 0, .ref z37, .ref z38, .ref z39, .int 0, .int 0, .int 0, .int 0, .int (-1), .int 0, .int 0, .ref z40, .ref z41]))]) [18] (by decide) rfl
        have hFc := va_free (wc := [(q23, .inr (7, [.int 0, .int 0, .ref z25, .int 0, .int 0, .int 0, .int 0, .int 0, .int 0, .int (-1), .int (-1), .int 0, .ref z26, .ref z27, .ref z28, .int 0, .ref z29, .ref z30, .ref z31, .ref z32, .ref z33, .int 0, .int 0, .int 0, .int 0, .int 0, .ref z34, .ref z35, .ref z36, .int 0, .ref z37, .ref z38, .ref z39, .int 0, .int 0, .int 0, .int 0, .int (-1), .int 0, .int 0, .ref z40, .ref z41]))]) hD hS hA [18] rfl
        refine va_calli (va_runV (As := [.int (xs 1)]) (rest := []) ⟨hx, hb, hml, hown, hts⟩ (c_Mo_run1 l G _ q23 z25 z26 z27 z28 z29 z30 z31 z32 z33 z34 z35 z36 z37 z38 z39 z40 z41 (xs 1) hn) (cwV 1 hts (nn_gV mw_1180 mw_1177 mw_1178 mw_1179 mw_94) rfl rfl rfl (by decide +kernel) ⟨Nat.le_of_ble_eq_true rfl, Nat.le_of_ble_eq_true rfl⟩) (nn_preV (va_recv hK hP rfl (q0 := 18) rfl) hPc hDc hK hN) rfl rfl hl.1 rfl (lv_room (Nat.le_of_ble_eq_true rfl)) d_La_law_288 ⟨(Nat.le_of_ble_eq_true rfl), (Nat.le_of_ble_eq_true rfl)⟩) hS (fun q _ h => hFc q h) hFc (fun r69 u68 t H locs ht hvm hw hB hz1 hk1 hS => ?_)
        obtain rfl : r69 = 0 := hw
        obtain ⟨hP1, hD1⟩ := hB
        rw [ht] at hP1
        obtain ⟨hP, hD⟩ := va_join (wr := [(z3, .inl (G.2 1, 180, .inl (fun _ => 0))), (z4, .inr (2, [.ref z5, .ref z9, .ref z12, .int 0, .int (-1), .int (-1)])), (z5, .inr (6, [.ref z6, .ref z7, .ref z8, .int 0, .int 0])), (z6, .inl (G.2 3, 181, .inr (.inr (.inr (.inr (fun _ => none)))))), (z7, .inl (G.2 0, 181, .inl (fun _ => 0))), (z8, .inl (G.2 0, 181, .inl (fun _ => 0))), (z9, .inr (5, [.ref z10, .int 0, .ref z11, .int 0])), (z11, .inl (G.2 0, 5, .inl (fun _ => 0))), (z12, .inr (1, [.ref z13, .ref z14, .ref z15, .int 0])), (z13, .inl (G.2 0, 180, .inl (fun _ => 0))), (z14, .inl (G.2 0, 180, .inl (fun _ => 0))), (z15, .inl (G.2 0, 180, .inl (fun _ => 0))), (z16, .inr (1, [.ref z17, .ref z18, .ref z19, .int 0])), (z17, .inl (G.2 0, 180, .inl (fun _ => 0))), (z18, .inl (G.2 0, 180, .inl (fun _ => 0))), (z19, .inl (G.2 0, 180, .inl (fun _ => 0))), (z21, .inl (G.2 0, 200, .inl (fun _ => 0))), (z22, .inl (G.2 0, 8, .inl (fun _ => 0))), (z25, .inl (G.2 1, 180, .inl (fun _ => 0))), (z26, .inl (G.2 0, 260, .inl (fun _ => 0))), (z27, .inl (G.2 0, 260, .inl (fun _ => 0))), (z28, .inl (G.2 0, 260, .inl (fun _ => 0))), (z34, .inl (G.2 0, 400, .inl (fun _ => 0))), (z35, .inl (G.2 0, 400, .inl (fun _ => 0))), (z36, .inl (G.2 0, 400, .inl (fun _ => 0))), (z40, .inl (G.2 0, 200, .inl (fun _ => 0))), (z41, .inl (G.2 0, 8, .inl (fun _ => 0)))]) (w1 := [(q23, .inr (7, [.int 1, .int 0, .ref z25, .int 0, .int 0, .int 0, .int 0, .int 0, .int 0, .int (-1), .int (-1), .int 0, .ref z26, .ref z27, .ref z28, .int 0, .ref z29, .ref z30, .ref z31, .ref z32, .ref z33, .int 0, .int 0, .int 0, .int 0, .int 0, .ref z34, .ref z35, .ref z36, .int 0, .ref z37, .ref z38, .ref z39, .int 0, .int 0, .int 0, .int 0, .int (-1), .int 0, .int 0, .ref z40, .ref z41]))]) hP hD [18] [0, 1, 2, 3, 4, 5, 6, 7, 8, 9, 10, 11, 12, 13, 14, 15, 16, 17, 19, 20, 21, 22, 23, 24, 25, 26, 27] rfl rfl (by decide) (by decide) hk1 hFc hP1 hD1
        have hP : va_P G.1 nn_cls [(z3, .inl (G.2 1, 180, .inl (fun _ => 0))), (z4, .inr (2, [.ref z5, .ref z9, .ref z12, .int 0, .int (-1), .int (-1)])), (z5, .inr (6, [.ref z6, .ref z7, .ref z8, .int 0, .int 0])), (z6, .inl (G.2 3, 181, .inr (.inr (.inr (.inr (fun _ => none)))))), (z7, .inl (G.2 0, 181, .inl (fun _ => 0))), (z8, .inl (G.2 0, 181, .inl (fun _ => 0))), (z9, .inr (5, [.ref z10, .int 0, .ref z11, .int 0])), (z11, .inl (G.2 0, 5, .inl (fun _ => 0))), (z12, .inr (1, [.ref z13, .ref z14, .ref z15, .int 0])), (z13, .inl (G.2 0, 180, .inl (fun _ => 0))), (z14, .inl (G.2 0, 180, .inl (fun _ => 0))), (z15, .inl (G.2 0, 180, .inl (fun _ => 0))), (z16, .inr (1, [.ref z17, .ref z18, .ref z19, .int 0])), (z17, .inl (G.2 0, 180, .inl (fun _ => 0))), (z18, .inl (G.2 0, 180, .inl (fun _ => 0))), (z19, .inl (G.2 0, 180, .inl (fun _ => 0))), (z21, .inl (G.2 0, 200, .inl (fun _ => 0))), (z22, .inl (G.2 0, 8, .inl (fun _ => 0))), (z25, .inl (G.2 1, 180, .inl (fun _ => 0))), (z26, .inl (G.2 0, 260, .inl (fun _ => 0))), (z27, .inl (G.2 0, 260, .inl (fun _ => 0))), (z28, .inl (G.2 0, 260, .inl (fun _ => 0))), (z34, .inl (G.2 0, 400, .inl (fun _ => 0))), (z35, .inl (G.2 0, 400, .inl (fun _ => 0))), (z36, .inl (G.2 0, 400, .inl (fun _ => 0))), (z40, .inl (G.2 0, 200, .inl (fun _ => 0))), (z41, .inl (G.2 0, 8, .inl (fun _ => 0))), (q23, .inr (7, [.int 1, .int 0, .ref z25, .int 0, .int 0, .int 0, .int 0, .int 0, .int 0, .int (-1), .int (-1), .int 0, .ref z26, .ref z27, .ref z28, .int 0, .ref z29, .ref z30, .ref z31, .ref z32, .ref z33, .int 0, .int 0, .int 0, .int 0, .int 0, .ref z34, .ref z35, .ref z36, .int 0, .ref z37, .ref z38, .ref z39, .int 0, .int 0, .int 0, .int 0, .int (-1), .int 0, .int 0, .ref z40, .ref z41]))] H := hP
        have hD : va_D A [(z3, .inl (G.2 1, 180, .inl (fun _ => 0))), (z4, .inr (2, [.ref z5, .ref z9, .ref z12, .int 0, .int (-1), .int (-1)])), (z5, .inr (6, [.ref z6, .ref z7, .ref z8, .int 0, .int 0])), (z6, .inl (G.2 3, 181, .inr (.inr (.inr (.inr (fun _ => none)))))), (z7, .inl (G.2 0, 181, .inl (fun _ => 0))), (z8, .inl (G.2 0, 181, .inl (fun _ => 0))), (z9, .inr (5, [.ref z10, .int 0, .ref z11, .int 0])), (z11, .inl (G.2 0, 5, .inl (fun _ => 0))), (z12, .inr (1, [.ref z13, .ref z14, .ref z15, .int 0])), (z13, .inl (G.2 0, 180, .inl (fun _ => 0))), (z14, .inl (G.2 0, 180, .inl (fun _ => 0))), (z15, .inl (G.2 0, 180, .inl (fun _ => 0))), (z16, .inr (1, [.ref z17, .ref z18, .ref z19, .int 0])), (z17, .inl (G.2 0, 180, .inl (fun _ => 0))), (z18, .inl (G.2 0, 180, .inl (fun _ => 0))), (z19, .inl (G.2 0, 180, .inl (fun _ => 0))), (z21, .inl (G.2 0, 200, .inl (fun _ => 0))), (z22, .inl (G.2 0, 8, .inl (fun _ => 0))), (z25, .inl (G.2 1, 180, .inl (fun _ => 0))), (z26, .inl (G.2 0, 260, .inl (fun _ => 0))), (z27, .inl (G.2 0, 260, .inl (fun _ => 0))), (z28, .inl (G.2 0, 260, .inl (fun _ => 0))), (z34, .inl (G.2 0, 400, .inl (fun _ => 0))), (z35, .inl (G.2 0, 400, .inl (fun _ => 0))), (z36, .inl (G.2 0, 400, .inl (fun _ => 0))), (z40, .inl (G.2 0, 200, .inl (fun _ => 0))), (z41, .inl (G.2 0, 8, .inl (fun _ => 0))), (q23, .inr (7, [.int 1, .int 0, .ref z25, .int 0, .int 0, .int 0, .int 0, .int 0, .int 0, .int (-1), .int (-1), .int 0, .ref z26, .ref z27, .ref z28, .int 0, .ref z29, .ref z30, .ref z31, .ref z32, .ref z33, .int 0, .int 0, .int 0, .int 0, .int 0, .ref z34, .ref z35, .ref z36, .int 0, .ref z37, .ref z38, .ref z39, .int 0, .int 0, .int 0, .int 0, .int (-1), .int 0, .int 0, .ref z40, .ref z41]))] := hD
        refine W.widen (k := 131) (n := 6709) (Nat.le_of_ble_eq_true rfl) (Nat.le_of_ble_eq_true rfl) ?_
        refine lv_istore (lv' := [(6, .int 0), (5, .int 1), (4, .int 0), (3, .ref q42), (2, .ref q23), (1, .ref q1), (0, .ref b)]) hx hb d_La_law_291 hl (by decide) rfl (fun ls hl => ?_)
        refine lv_aload_n hx hb d_La_law_293 rfl (lv_at hl 4 rfl) ?_
        have hPc := hP.sub (ws' := [(q23, .inr (7, [.int 1, .int 0, .ref z25, .int 0, .int 0, .int 0, .int 0, .int 0, .int 0, .int (-1), .int (-1), .int 0, .ref z26, .ref z27, .ref z28, .int 0, .ref z29, .ref z30, .ref z31, .ref z32, .ref z33, .int 0, .int 0, .int 0, .int 0, .int 0, .ref z34, .ref z35, .ref z36, .int 0, .ref z37, .ref z38, .ref z39, .int 0, .int 0, .int 0, .int 0, .int (-1), .int 0, .int 0, .ref z40, .ref z41]))]) [27] rfl
        have hDc := hD.sub (ws' := [(q23, .inr (7, [.int 1, .int 0, .ref z25, .int 0, .int 0, .int 0, .int 0, .int 0, .int 0, .int (-1), .int (-1), .int 0, .ref z26, .ref z27, .ref z28, .int 0, .ref z29, .ref z30, .ref z31, .ref z32, .ref z33, .int 0, .int 0, .int 0, .int 0, .int 0, .ref z34, .ref z35, .ref z36, .int 0, .ref z37, .ref z38, .ref z39, .int 0, .int 0, .int 0, .int 0, .int (-1), .int 0, .int 0, .ref z40, .ref z41]))]) [27] (by decide) rfl
        refine vp_callSi (va_Run.run (va_runV (As := []) (rest := []) ⟨hx, hb, hml, hown, hts⟩ (c_Mo_thrown l G _ q23 1 [.int 0, .ref z25, .int 0, .int 0, .int 0, .int 0, .int 0, .int 0, .int (-1), .int (-1), .int 0, .ref z26, .ref z27, .ref z28, .int 0, .ref z29, .ref z30, .ref z31, .ref z32, .ref z33, .int 0, .int 0, .int 0, .int 0, .int 0, .ref z34, .ref z35, .ref z36, .int 0, .ref z37, .ref z38, .ref z39, .int 0, .int 0, .int 0, .int 0, .int (-1), .int 0, .int 0, .ref z40, .ref z41]) (cwV 0 hts (nn_gV mw_1020 mw_1017 mw_1018 mw_1019 mw_94) rfl rfl rfl (by decide +kernel) ⟨Nat.le_of_ble_eq_true rfl, Nat.le_of_ble_eq_true rfl⟩) (nn_preV (va_recv hK hP rfl (q0 := 27) rfl) hPc hDc hK hN) rfl rfl hl.1 rfl (lv_room (Nat.le_of_ble_eq_true rfl)) d_La_law_294 ⟨(Nat.le_of_ble_eq_true rfl), (Nat.le_of_ble_eq_true rfl)⟩)) (fun r70 er70 => ?_)
        subst er70
        refine lv_iload hx hb d_La_law_297 (lv_at hl 1 rfl) ?_
        refine lv_icmp_eq (tgt := 304) hx hb d_La_law_299 rfl (fun _ => ?_) (fun h => absurd (by decide) h)
        refine lv_iload hx hb d_La_law_304 (lv_at hl 1 rfl) ?_
        refine lv_if_ne (tgt := 321) hx hb d_La_law_306 rfl (fun _ => ?_) (fun h => absurd h (by decide))
        refine lv_goto (tgt := 436) hx hb d_La_law_321 rfl ?_
        refine lv_iinc (k := 2) (v := 3) (lv' := [(4, .int 3), (6, .int 0), (5, .int 1), (3, .ref q42), (2, .ref q23), (1, .ref q1), (0, .ref b)]) hx hb d_La_law_436 hl rfl (by decide) (by decide) rfl (fun ls hl => ?_)
        refine lv_goto (tgt := 23) hx hb d_La_law_439 rfl ?_
        refine lv_iload hx hb d_La_law_23 (lv_at hl 0 rfl) ?_
        refine lv_aload_n hx hb d_La_law_25 rfl (lv_at hl 6 rfl) ?_
        refine va_slen hx hb hX hbl hbA hS d_La_law_26 ?_
        refine nb_top 3 rfl ?_
        refine lv_iconst (v := 3) hx hb d_La_law_27 (by decide) ?_
        refine lv_isub hx hb d_La_law_28 ?_
        refine nb_top 0 (by decide) ?_
        refine lv_icmp_gt (tgt := 442) hx hb d_La_law_29 rfl (fun _ => ?_) (fun h => absurd (by decide) h)
        refine lv_iconst (v := 1) hx hb d_La_law_442 (by decide) ?_
        refine va_forget (fun q hq => hAf _ (hS.2.2 q hq)) ?_
        refine W.widen (k := 600002) (n := 7302232) (Nat.le_of_ble_eq_true rfl) (Nat.le_of_ble_eq_true rfl) ?_
        exact lw_ret hx hb hr hlocks d_La_law_443
    by_cases hk39_6 : (xs 0) &&& 15 = 6
    · skip
      refine lv_tableIn (off := 285) (tgt := 324) hx hb d_La_law_39 (by rw [hk39_6]; decide) (by rw [hk39_6]; decide) (by rw [hk39_6]; decide) rfl ?_
      refine lv_aload_n hx hb d_La_law_324 rfl (lv_at hl 3 rfl) ?_
      refine lv_aload_n hx hb d_La_law_325 rfl (lv_at hl 4 rfl) ?_
      refine lv_iload hx hb d_La_law_326 (lv_at hl 0 rfl) ?_
      refine lv_iconst (v := 1) hx hb d_La_law_328 (by decide) ?_
      refine lv_iadd hx hb d_La_law_329 ?_
      refine nb_top 1 (by decide) ?_
      refine va_sld hx hb hX hbl hbA hS (i := 1) (nb_in rfl) d_La_law_330 ?_
      refine nb_top (xs 1) rfl ?_
      have hPc := hP.sub (ws' := [(q1, .inr (0, [.ref z3, .int 0, .ref z4, .ref z16, .ref z20])), (z20, .inr (3, [.ref z21, .ref z22, .int 0, .int 0, .int 0, .int (-1), .int 0, .int 0]))]) [0, 17] rfl
      have hDc := hD.sub (ws' := [(q1, .inr (0, [.ref z3, .int 0, .ref z4, .ref z16, .ref z20])), (z20, .inr (3, [.ref z21, .ref z22, .int 0, .int 0, .int 0, .int (-1), .int 0, .int 0]))]) [0, 17] (by decide) rfl
      refine vp_callSi (va_Run.run (va_runV (As := [.int (xs 1)]) (rest := []) ⟨hx, hb, hml, hown, hts⟩ (c_NP_about l G _ q1 z3 z4 z16 z20 z21 z22 (xs 1)) (cwV 1 hts (nn_gV mw_352 mw_349 mw_350 mw_351 mw_87) rfl rfl rfl (by decide +kernel) ⟨Nat.le_of_ble_eq_true rfl, Nat.le_of_ble_eq_true rfl⟩) (nn_preV (va_recv hK hP rfl (q0 := 0) rfl) hPc hDc hK hN) rfl rfl hl.1 rfl (lv_room (Nat.le_of_ble_eq_true rfl)) d_La_law_331 ⟨(Nat.le_of_ble_eq_true rfl), (Nat.le_of_ble_eq_true rfl)⟩)) (fun r71 er71 => ?_)
      subst er71
      refine lv_aload_n hx hb d_La_law_334 rfl (lv_at hl 2 rfl) ?_
      refine lv_aload_n hx hb d_La_law_335 rfl (lv_at hl 4 rfl) ?_
      refine lv_iload hx hb d_La_law_336 (lv_at hl 0 rfl) ?_
      refine lv_iconst (v := 1) hx hb d_La_law_338 (by decide) ?_
      refine lv_iadd hx hb d_La_law_339 ?_
      refine nb_top 1 (by decide) ?_
      refine va_sld hx hb hX hbl hbA hS (i := 1) (nb_in rfl) d_La_law_340 ?_
      refine nb_top (xs 1) rfl ?_
      have hPc := hP.sub (ws' := [(q23, .inr (7, [.int 0, .int 0, .ref z25, .int 0, .int 0, .int 0, .int 0, .int 0, .int 0, .int (-1), .int (-1), .int 0, .ref z26, .ref z27, .ref z28, .int 0, .ref z29, .ref z30, .ref z31, .ref z32, .ref z33, .int 0, .int 0, .int 0, .int 0, .int 0, .ref z34, .ref z35, .ref z36, .int 0, .ref z37, .ref z38, .ref z39, .int 0, .int 0, .int 0, .int 0, .int (-1), .int 0, .int 0, .ref z40, .ref z41]))]) [20] rfl
      have hDc := hD.sub (ws' := [(q23, .inr (7, [.int 0, .int 0, .ref z25, .int 0, .int 0, .int 0, .int 0, .int 0, .int 0, .int (-1), .int (-1), .int 0, .ref z26, .ref z27, .ref z28, .int 0, .ref z29, .ref z30, .ref z31, .ref z32, .ref z33, .int 0, .int 0, .int 0, .int 0, .int 0, .ref z34, .ref z35, .ref z36, .int 0, .ref z37, .ref z38, .ref z39, .int 0, .int 0, .int 0, .int 0, .int (-1), .int 0, .int 0, .ref z40, .ref z41]))]) [20] (by decide) rfl
      have hFc := va_free (wc := [(q23, .inr (7, [.int 0, .int 0, .ref z25, .int 0, .int 0, .int 0, .int 0, .int 0, .int 0, .int (-1), .int (-1), .int 0, .ref z26, .ref z27, .ref z28, .int 0, .ref z29, .ref z30, .ref z31, .ref z32, .ref z33, .int 0, .int 0, .int 0, .int 0, .int 0, .ref z34, .ref z35, .ref z36, .int 0, .ref z37, .ref z38, .ref z39, .int 0, .int 0, .int 0, .int 0, .int (-1), .int 0, .int 0, .ref z40, .ref z41]))]) hD hS hA [20] rfl
      refine va_calli (va_runV (As := [.int (xs 1)]) (rest := [.int (nb_ab (xs 1))]) ⟨hx, hb, hml, hown, hts⟩ (c_Mo_about l G _ q23 z25 z26 z27 z28 z29 z30 z31 z32 z33 z34 z35 z36 z37 z38 z39 z40 z41 (xs 1)) (cwV 1 hts (nn_gV mw_1220 mw_1217 mw_1218 mw_1219 mw_94) rfl rfl rfl (by decide +kernel) ⟨Nat.le_of_ble_eq_true rfl, Nat.le_of_ble_eq_true rfl⟩) (nn_preV (va_recv hK hP rfl (q0 := 20) rfl) hPc hDc hK hN) rfl rfl hl.1 rfl (lv_room (Nat.le_of_ble_eq_true rfl)) d_La_law_341 ⟨(Nat.le_of_ble_eq_true rfl), (Nat.le_of_ble_eq_true rfl)⟩) hS (fun q _ h => hFc q h) hFc (fun r73 u72 t H locs ht hvm hw hB hz1 hk1 hS => ?_)
      obtain rfl : r73 = nb_ab (xs 1) := hw
      obtain ⟨hP, hD⟩ := va_join (wr := [(q1, .inr (0, [.ref z3, .int 0, .ref z4, .ref z16, .ref z20])), (z3, .inl (G.2 1, 180, .inl (fun _ => 0))), (z4, .inr (2, [.ref z5, .ref z9, .ref z12, .int 0, .int (-1), .int (-1)])), (z5, .inr (6, [.ref z6, .ref z7, .ref z8, .int 0, .int 0])), (z6, .inl (G.2 3, 181, .inr (.inr (.inr (.inr (fun _ => none)))))), (z7, .inl (G.2 0, 181, .inl (fun _ => 0))), (z8, .inl (G.2 0, 181, .inl (fun _ => 0))), (z9, .inr (5, [.ref z10, .int 0, .ref z11, .int 0])), (z11, .inl (G.2 0, 5, .inl (fun _ => 0))), (z12, .inr (1, [.ref z13, .ref z14, .ref z15, .int 0])), (z13, .inl (G.2 0, 180, .inl (fun _ => 0))), (z14, .inl (G.2 0, 180, .inl (fun _ => 0))), (z15, .inl (G.2 0, 180, .inl (fun _ => 0))), (z16, .inr (1, [.ref z17, .ref z18, .ref z19, .int 0])), (z17, .inl (G.2 0, 180, .inl (fun _ => 0))), (z18, .inl (G.2 0, 180, .inl (fun _ => 0))), (z19, .inl (G.2 0, 180, .inl (fun _ => 0))), (z20, .inr (3, [.ref z21, .ref z22, .int 0, .int 0, .int 0, .int (-1), .int 0, .int 0])), (z21, .inl (G.2 0, 200, .inl (fun _ => 0))), (z22, .inl (G.2 0, 8, .inl (fun _ => 0))), (z25, .inl (G.2 1, 180, .inl (fun _ => 0))), (z26, .inl (G.2 0, 260, .inl (fun _ => 0))), (z27, .inl (G.2 0, 260, .inl (fun _ => 0))), (z28, .inl (G.2 0, 260, .inl (fun _ => 0))), (z34, .inl (G.2 0, 400, .inl (fun _ => 0))), (z35, .inl (G.2 0, 400, .inl (fun _ => 0))), (z36, .inl (G.2 0, 400, .inl (fun _ => 0))), (z40, .inl (G.2 0, 200, .inl (fun _ => 0))), (z41, .inl (G.2 0, 8, .inl (fun _ => 0))), (q42, .inl (G.2 2, 1, .inr (.inl (fun _ => 0))))]) (w1 := []) hP hD [20] [0, 1, 2, 3, 4, 5, 6, 7, 8, 9, 10, 11, 12, 13, 14, 15, 16, 17, 18, 19, 21, 22, 23, 24, 25, 26, 27, 28, 29, 30] rfl rfl (by decide) (by decide) hk1 hFc nb_P0 nb_D0
      have hP : va_P G.1 nn_cls [(q1, .inr (0, [.ref z3, .int 0, .ref z4, .ref z16, .ref z20])), (z3, .inl (G.2 1, 180, .inl (fun _ => 0))), (z4, .inr (2, [.ref z5, .ref z9, .ref z12, .int 0, .int (-1), .int (-1)])), (z5, .inr (6, [.ref z6, .ref z7, .ref z8, .int 0, .int 0])), (z6, .inl (G.2 3, 181, .inr (.inr (.inr (.inr (fun _ => none)))))), (z7, .inl (G.2 0, 181, .inl (fun _ => 0))), (z8, .inl (G.2 0, 181, .inl (fun _ => 0))), (z9, .inr (5, [.ref z10, .int 0, .ref z11, .int 0])), (z11, .inl (G.2 0, 5, .inl (fun _ => 0))), (z12, .inr (1, [.ref z13, .ref z14, .ref z15, .int 0])), (z13, .inl (G.2 0, 180, .inl (fun _ => 0))), (z14, .inl (G.2 0, 180, .inl (fun _ => 0))), (z15, .inl (G.2 0, 180, .inl (fun _ => 0))), (z16, .inr (1, [.ref z17, .ref z18, .ref z19, .int 0])), (z17, .inl (G.2 0, 180, .inl (fun _ => 0))), (z18, .inl (G.2 0, 180, .inl (fun _ => 0))), (z19, .inl (G.2 0, 180, .inl (fun _ => 0))), (z20, .inr (3, [.ref z21, .ref z22, .int 0, .int 0, .int 0, .int (-1), .int 0, .int 0])), (z21, .inl (G.2 0, 200, .inl (fun _ => 0))), (z22, .inl (G.2 0, 8, .inl (fun _ => 0))), (z25, .inl (G.2 1, 180, .inl (fun _ => 0))), (z26, .inl (G.2 0, 260, .inl (fun _ => 0))), (z27, .inl (G.2 0, 260, .inl (fun _ => 0))), (z28, .inl (G.2 0, 260, .inl (fun _ => 0))), (z34, .inl (G.2 0, 400, .inl (fun _ => 0))), (z35, .inl (G.2 0, 400, .inl (fun _ => 0))), (z36, .inl (G.2 0, 400, .inl (fun _ => 0))), (z40, .inl (G.2 0, 200, .inl (fun _ => 0))), (z41, .inl (G.2 0, 8, .inl (fun _ => 0))), (q42, .inl (G.2 2, 1, .inr (.inl (fun _ => 0))))] H := hP
      have hD : va_D A [(q1, .inr (0, [.ref z3, .int 0, .ref z4, .ref z16, .ref z20])), (z3, .inl (G.2 1, 180, .inl (fun _ => 0))), (z4, .inr (2, [.ref z5, .ref z9, .ref z12, .int 0, .int (-1), .int (-1)])), (z5, .inr (6, [.ref z6, .ref z7, .ref z8, .int 0, .int 0])), (z6, .inl (G.2 3, 181, .inr (.inr (.inr (.inr (fun _ => none)))))), (z7, .inl (G.2 0, 181, .inl (fun _ => 0))), (z8, .inl (G.2 0, 181, .inl (fun _ => 0))), (z9, .inr (5, [.ref z10, .int 0, .ref z11, .int 0])), (z11, .inl (G.2 0, 5, .inl (fun _ => 0))), (z12, .inr (1, [.ref z13, .ref z14, .ref z15, .int 0])), (z13, .inl (G.2 0, 180, .inl (fun _ => 0))), (z14, .inl (G.2 0, 180, .inl (fun _ => 0))), (z15, .inl (G.2 0, 180, .inl (fun _ => 0))), (z16, .inr (1, [.ref z17, .ref z18, .ref z19, .int 0])), (z17, .inl (G.2 0, 180, .inl (fun _ => 0))), (z18, .inl (G.2 0, 180, .inl (fun _ => 0))), (z19, .inl (G.2 0, 180, .inl (fun _ => 0))), (z20, .inr (3, [.ref z21, .ref z22, .int 0, .int 0, .int 0, .int (-1), .int 0, .int 0])), (z21, .inl (G.2 0, 200, .inl (fun _ => 0))), (z22, .inl (G.2 0, 8, .inl (fun _ => 0))), (z25, .inl (G.2 1, 180, .inl (fun _ => 0))), (z26, .inl (G.2 0, 260, .inl (fun _ => 0))), (z27, .inl (G.2 0, 260, .inl (fun _ => 0))), (z28, .inl (G.2 0, 260, .inl (fun _ => 0))), (z34, .inl (G.2 0, 400, .inl (fun _ => 0))), (z35, .inl (G.2 0, 400, .inl (fun _ => 0))), (z36, .inl (G.2 0, 400, .inl (fun _ => 0))), (z40, .inl (G.2 0, 200, .inl (fun _ => 0))), (z41, .inl (G.2 0, 8, .inl (fun _ => 0))), (q42, .inl (G.2 2, 1, .inr (.inl (fun _ => 0))))] := hD
      refine W.widen (k := 130) (n := 6703) (Nat.le_of_ble_eq_true rfl) (Nat.le_of_ble_eq_true rfl) ?_
      refine lv_icmp_eq (tgt := 436) hx hb d_La_law_344 rfl (fun _ => ?_) (fun h => absurd (rfl) h)
      refine lv_iinc (k := 0) (v := 3) (lv' := [(4, .int 3), (3, .ref q42), (2, .ref q23), (1, .ref q1), (0, .ref b)]) hx hb d_La_law_436 hl rfl (by decide) (by decide) rfl (fun ls hl => ?_)
      refine lv_goto (tgt := 23) hx hb d_La_law_439 rfl ?_
      refine lv_iload hx hb d_La_law_23 (lv_at hl 0 rfl) ?_
      refine lv_aload_n hx hb d_La_law_25 rfl (lv_at hl 4 rfl) ?_
      refine va_slen hx hb hX hbl hbA hS d_La_law_26 ?_
      refine nb_top 3 rfl ?_
      refine lv_iconst (v := 3) hx hb d_La_law_27 (by decide) ?_
      refine lv_isub hx hb d_La_law_28 ?_
      refine nb_top 0 (by decide) ?_
      refine lv_icmp_gt (tgt := 442) hx hb d_La_law_29 rfl (fun _ => ?_) (fun h => absurd (by decide) h)
      refine lv_iconst (v := 1) hx hb d_La_law_442 (by decide) ?_
      refine va_forget (fun q hq => hAf _ (hS.2.2 q hq)) ?_
      refine W.widen (k := 600002) (n := 7302232) (Nat.le_of_ble_eq_true rfl) (Nat.le_of_ble_eq_true rfl) ?_
      exact lw_ret hx hb hr hlocks d_La_law_443
    by_cases hk39_7 : (xs 0) &&& 15 = 7
    · skip
      refine lv_tableIn (off := 310) (tgt := 349) hx hb d_La_law_39 (by rw [hk39_7]; decide) (by rw [hk39_7]; decide) (by rw [hk39_7]; decide) rfl ?_
      refine lv_aload_n hx hb d_La_law_349 rfl (lv_at hl 3 rfl) ?_
      refine lv_aload_n hx hb d_La_law_350 rfl (lv_at hl 4 rfl) ?_
      refine lv_iload hx hb d_La_law_351 (lv_at hl 0 rfl) ?_
      refine lv_iconst (v := 1) hx hb d_La_law_353 (by decide) ?_
      refine lv_iadd hx hb d_La_law_354 ?_
      refine nb_top 1 (by decide) ?_
      refine va_sld hx hb hX hbl hbA hS (i := 1) (nb_in rfl) d_La_law_355 ?_
      refine nb_top (xs 1) rfl ?_
      have hPc := hP.sub (ws' := [(q1, .inr (0, [.ref z3, .int 0, .ref z4, .ref z16, .ref z20])), (z20, .inr (3, [.ref z21, .ref z22, .int 0, .int 0, .int 0, .int (-1), .int 0, .int 0])), (z21, .inl (G.2 0, 200, .inl (fun _ => 0)))]) [0, 17, 18] rfl
      have hDc := hD.sub (ws' := [(q1, .inr (0, [.ref z3, .int 0, .ref z4, .ref z16, .ref z20])), (z20, .inr (3, [.ref z21, .ref z22, .int 0, .int 0, .int 0, .int (-1), .int 0, .int 0])), (z21, .inl (G.2 0, 200, .inl (fun _ => 0)))]) [0, 17, 18] (by decide) rfl
      refine vp_callSi (va_Run.run (va_runV (As := [.int (xs 1)]) (rest := []) ⟨hx, hb, hml, hown, hts⟩ (c_NP_cell l G _ q1 z3 z4 z16 z20 z21 z22 (xs 1)) (cwV 1 hts (nn_gV mw_360 mw_357 mw_358 mw_359 mw_87) rfl rfl rfl (by decide +kernel) ⟨Nat.le_of_ble_eq_true rfl, Nat.le_of_ble_eq_true rfl⟩) (nn_preV (va_recv hK hP rfl (q0 := 0) rfl) hPc hDc hK hN) rfl rfl hl.1 rfl (lv_room (Nat.le_of_ble_eq_true rfl)) d_La_law_356 ⟨(Nat.le_of_ble_eq_true rfl), (Nat.le_of_ble_eq_true rfl)⟩)) (fun r74 er74 => ?_)
      subst er74
      refine lv_aload_n hx hb d_La_law_359 rfl (lv_at hl 2 rfl) ?_
      refine lv_aload_n hx hb d_La_law_360 rfl (lv_at hl 4 rfl) ?_
      refine lv_iload hx hb d_La_law_361 (lv_at hl 0 rfl) ?_
      refine lv_iconst (v := 1) hx hb d_La_law_363 (by decide) ?_
      refine lv_iadd hx hb d_La_law_364 ?_
      refine nb_top 1 (by decide) ?_
      refine va_sld hx hb hX hbl hbA hS (i := 1) (nb_in rfl) d_La_law_365 ?_
      refine nb_top (xs 1) rfl ?_
      have hPc := hP.sub (ws' := [(q23, .inr (7, [.int 0, .int 0, .ref z25, .int 0, .int 0, .int 0, .int 0, .int 0, .int 0, .int (-1), .int (-1), .int 0, .ref z26, .ref z27, .ref z28, .int 0, .ref z29, .ref z30, .ref z31, .ref z32, .ref z33, .int 0, .int 0, .int 0, .int 0, .int 0, .ref z34, .ref z35, .ref z36, .int 0, .ref z37, .ref z38, .ref z39, .int 0, .int 0, .int 0, .int 0, .int (-1), .int 0, .int 0, .ref z40, .ref z41])), (z40, .inl (G.2 0, 200, .inl (fun _ => 0)))]) [20, 28] rfl
      have hDc := hD.sub (ws' := [(q23, .inr (7, [.int 0, .int 0, .ref z25, .int 0, .int 0, .int 0, .int 0, .int 0, .int 0, .int (-1), .int (-1), .int 0, .ref z26, .ref z27, .ref z28, .int 0, .ref z29, .ref z30, .ref z31, .ref z32, .ref z33, .int 0, .int 0, .int 0, .int 0, .int 0, .ref z34, .ref z35, .ref z36, .int 0, .ref z37, .ref z38, .ref z39, .int 0, .int 0, .int 0, .int 0, .int (-1), .int 0, .int 0, .ref z40, .ref z41])), (z40, .inl (G.2 0, 200, .inl (fun _ => 0)))]) [20, 28] (by decide) rfl
      have hFc := va_free (wc := [(q23, .inr (7, [.int 0, .int 0, .ref z25, .int 0, .int 0, .int 0, .int 0, .int 0, .int 0, .int (-1), .int (-1), .int 0, .ref z26, .ref z27, .ref z28, .int 0, .ref z29, .ref z30, .ref z31, .ref z32, .ref z33, .int 0, .int 0, .int 0, .int 0, .int 0, .ref z34, .ref z35, .ref z36, .int 0, .ref z37, .ref z38, .ref z39, .int 0, .int 0, .int 0, .int 0, .int (-1), .int 0, .int 0, .ref z40, .ref z41])), (z40, .inl (G.2 0, 200, .inl (fun _ => 0)))]) hD hS hA [20, 28] rfl
      refine va_calli (va_runV (As := [.int (xs 1)]) (rest := [.int 0]) ⟨hx, hb, hml, hown, hts⟩ (c_Mo_cell l G _ q23 z25 z26 z27 z28 z29 z30 z31 z32 z33 z34 z35 z36 z37 z38 z39 z40 z41 (xs 1)) (cwV 1 hts (nn_gV mw_1224 mw_1221 mw_1222 mw_1223 mw_94) rfl rfl rfl (by decide +kernel) ⟨Nat.le_of_ble_eq_true rfl, Nat.le_of_ble_eq_true rfl⟩) (nn_preV (va_recv hK hP rfl (q0 := 20) rfl) hPc hDc hK hN) rfl rfl hl.1 rfl (lv_room (Nat.le_of_ble_eq_true rfl)) d_La_law_366 ⟨(Nat.le_of_ble_eq_true rfl), (Nat.le_of_ble_eq_true rfl)⟩) hS (fun q _ h => hFc q h) hFc (fun r76 u75 t H locs ht hvm hw hB hz1 hk1 hS => ?_)
      obtain rfl : r76 = 0 := hw
      obtain ⟨hP, hD⟩ := va_join (wr := [(q1, .inr (0, [.ref z3, .int 0, .ref z4, .ref z16, .ref z20])), (z3, .inl (G.2 1, 180, .inl (fun _ => 0))), (z4, .inr (2, [.ref z5, .ref z9, .ref z12, .int 0, .int (-1), .int (-1)])), (z5, .inr (6, [.ref z6, .ref z7, .ref z8, .int 0, .int 0])), (z6, .inl (G.2 3, 181, .inr (.inr (.inr (.inr (fun _ => none)))))), (z7, .inl (G.2 0, 181, .inl (fun _ => 0))), (z8, .inl (G.2 0, 181, .inl (fun _ => 0))), (z9, .inr (5, [.ref z10, .int 0, .ref z11, .int 0])), (z11, .inl (G.2 0, 5, .inl (fun _ => 0))), (z12, .inr (1, [.ref z13, .ref z14, .ref z15, .int 0])), (z13, .inl (G.2 0, 180, .inl (fun _ => 0))), (z14, .inl (G.2 0, 180, .inl (fun _ => 0))), (z15, .inl (G.2 0, 180, .inl (fun _ => 0))), (z16, .inr (1, [.ref z17, .ref z18, .ref z19, .int 0])), (z17, .inl (G.2 0, 180, .inl (fun _ => 0))), (z18, .inl (G.2 0, 180, .inl (fun _ => 0))), (z19, .inl (G.2 0, 180, .inl (fun _ => 0))), (z20, .inr (3, [.ref z21, .ref z22, .int 0, .int 0, .int 0, .int (-1), .int 0, .int 0])), (z21, .inl (G.2 0, 200, .inl (fun _ => 0))), (z22, .inl (G.2 0, 8, .inl (fun _ => 0))), (z25, .inl (G.2 1, 180, .inl (fun _ => 0))), (z26, .inl (G.2 0, 260, .inl (fun _ => 0))), (z27, .inl (G.2 0, 260, .inl (fun _ => 0))), (z28, .inl (G.2 0, 260, .inl (fun _ => 0))), (z34, .inl (G.2 0, 400, .inl (fun _ => 0))), (z35, .inl (G.2 0, 400, .inl (fun _ => 0))), (z36, .inl (G.2 0, 400, .inl (fun _ => 0))), (z41, .inl (G.2 0, 8, .inl (fun _ => 0))), (q42, .inl (G.2 2, 1, .inr (.inl (fun _ => 0))))]) (w1 := []) hP hD [20, 28] [0, 1, 2, 3, 4, 5, 6, 7, 8, 9, 10, 11, 12, 13, 14, 15, 16, 17, 18, 19, 21, 22, 23, 24, 25, 26, 27, 29, 30] rfl rfl (by decide) (by decide) hk1 hFc nb_P0 nb_D0
      have hP : va_P G.1 nn_cls [(q1, .inr (0, [.ref z3, .int 0, .ref z4, .ref z16, .ref z20])), (z3, .inl (G.2 1, 180, .inl (fun _ => 0))), (z4, .inr (2, [.ref z5, .ref z9, .ref z12, .int 0, .int (-1), .int (-1)])), (z5, .inr (6, [.ref z6, .ref z7, .ref z8, .int 0, .int 0])), (z6, .inl (G.2 3, 181, .inr (.inr (.inr (.inr (fun _ => none)))))), (z7, .inl (G.2 0, 181, .inl (fun _ => 0))), (z8, .inl (G.2 0, 181, .inl (fun _ => 0))), (z9, .inr (5, [.ref z10, .int 0, .ref z11, .int 0])), (z11, .inl (G.2 0, 5, .inl (fun _ => 0))), (z12, .inr (1, [.ref z13, .ref z14, .ref z15, .int 0])), (z13, .inl (G.2 0, 180, .inl (fun _ => 0))), (z14, .inl (G.2 0, 180, .inl (fun _ => 0))), (z15, .inl (G.2 0, 180, .inl (fun _ => 0))), (z16, .inr (1, [.ref z17, .ref z18, .ref z19, .int 0])), (z17, .inl (G.2 0, 180, .inl (fun _ => 0))), (z18, .inl (G.2 0, 180, .inl (fun _ => 0))), (z19, .inl (G.2 0, 180, .inl (fun _ => 0))), (z20, .inr (3, [.ref z21, .ref z22, .int 0, .int 0, .int 0, .int (-1), .int 0, .int 0])), (z21, .inl (G.2 0, 200, .inl (fun _ => 0))), (z22, .inl (G.2 0, 8, .inl (fun _ => 0))), (z25, .inl (G.2 1, 180, .inl (fun _ => 0))), (z26, .inl (G.2 0, 260, .inl (fun _ => 0))), (z27, .inl (G.2 0, 260, .inl (fun _ => 0))), (z28, .inl (G.2 0, 260, .inl (fun _ => 0))), (z34, .inl (G.2 0, 400, .inl (fun _ => 0))), (z35, .inl (G.2 0, 400, .inl (fun _ => 0))), (z36, .inl (G.2 0, 400, .inl (fun _ => 0))), (z41, .inl (G.2 0, 8, .inl (fun _ => 0))), (q42, .inl (G.2 2, 1, .inr (.inl (fun _ => 0))))] H := hP
      have hD : va_D A [(q1, .inr (0, [.ref z3, .int 0, .ref z4, .ref z16, .ref z20])), (z3, .inl (G.2 1, 180, .inl (fun _ => 0))), (z4, .inr (2, [.ref z5, .ref z9, .ref z12, .int 0, .int (-1), .int (-1)])), (z5, .inr (6, [.ref z6, .ref z7, .ref z8, .int 0, .int 0])), (z6, .inl (G.2 3, 181, .inr (.inr (.inr (.inr (fun _ => none)))))), (z7, .inl (G.2 0, 181, .inl (fun _ => 0))), (z8, .inl (G.2 0, 181, .inl (fun _ => 0))), (z9, .inr (5, [.ref z10, .int 0, .ref z11, .int 0])), (z11, .inl (G.2 0, 5, .inl (fun _ => 0))), (z12, .inr (1, [.ref z13, .ref z14, .ref z15, .int 0])), (z13, .inl (G.2 0, 180, .inl (fun _ => 0))), (z14, .inl (G.2 0, 180, .inl (fun _ => 0))), (z15, .inl (G.2 0, 180, .inl (fun _ => 0))), (z16, .inr (1, [.ref z17, .ref z18, .ref z19, .int 0])), (z17, .inl (G.2 0, 180, .inl (fun _ => 0))), (z18, .inl (G.2 0, 180, .inl (fun _ => 0))), (z19, .inl (G.2 0, 180, .inl (fun _ => 0))), (z20, .inr (3, [.ref z21, .ref z22, .int 0, .int 0, .int 0, .int (-1), .int 0, .int 0])), (z21, .inl (G.2 0, 200, .inl (fun _ => 0))), (z22, .inl (G.2 0, 8, .inl (fun _ => 0))), (z25, .inl (G.2 1, 180, .inl (fun _ => 0))), (z26, .inl (G.2 0, 260, .inl (fun _ => 0))), (z27, .inl (G.2 0, 260, .inl (fun _ => 0))), (z28, .inl (G.2 0, 260, .inl (fun _ => 0))), (z34, .inl (G.2 0, 400, .inl (fun _ => 0))), (z35, .inl (G.2 0, 400, .inl (fun _ => 0))), (z36, .inl (G.2 0, 400, .inl (fun _ => 0))), (z41, .inl (G.2 0, 8, .inl (fun _ => 0))), (q42, .inl (G.2 2, 1, .inr (.inl (fun _ => 0))))] := hD
      refine W.widen (k := 130) (n := 6703) (Nat.le_of_ble_eq_true rfl) (Nat.le_of_ble_eq_true rfl) ?_
      refine lv_icmp_eq (tgt := 436) hx hb d_La_law_369 rfl (fun _ => ?_) (fun h => absurd (by decide) h)
      refine lv_iinc (k := 0) (v := 3) (lv' := [(4, .int 3), (3, .ref q42), (2, .ref q23), (1, .ref q1), (0, .ref b)]) hx hb d_La_law_436 hl rfl (by decide) (by decide) rfl (fun ls hl => ?_)
      refine lv_goto (tgt := 23) hx hb d_La_law_439 rfl ?_
      refine lv_iload hx hb d_La_law_23 (lv_at hl 0 rfl) ?_
      refine lv_aload_n hx hb d_La_law_25 rfl (lv_at hl 4 rfl) ?_
      refine va_slen hx hb hX hbl hbA hS d_La_law_26 ?_
      refine nb_top 3 rfl ?_
      refine lv_iconst (v := 3) hx hb d_La_law_27 (by decide) ?_
      refine lv_isub hx hb d_La_law_28 ?_
      refine nb_top 0 (by decide) ?_
      refine lv_icmp_gt (tgt := 442) hx hb d_La_law_29 rfl (fun _ => ?_) (fun h => absurd (by decide) h)
      refine lv_iconst (v := 1) hx hb d_La_law_442 (by decide) ?_
      refine va_forget (fun q hq => hAf _ (hS.2.2 q hq)) ?_
      refine W.widen (k := 600002) (n := 7302232) (Nat.le_of_ble_eq_true rfl) (Nat.le_of_ble_eq_true rfl) ?_
      exact lw_ret hx hb hr hlocks d_La_law_443
    by_cases hk39_8 : (xs 0) &&& 15 = 8
    · skip
      refine lv_tableIn (off := 335) (tgt := 374) hx hb d_La_law_39 (by rw [hk39_8]; decide) (by rw [hk39_8]; decide) (by rw [hk39_8]; decide) rfl ?_
      refine lv_aload_n hx hb d_La_law_374 rfl (lv_at hl 3 rfl) ?_
      refine lv_aload_n hx hb d_La_law_375 rfl (lv_at hl 4 rfl) ?_
      refine lv_iload hx hb d_La_law_376 (lv_at hl 0 rfl) ?_
      refine lv_iconst (v := 1) hx hb d_La_law_378 (by decide) ?_
      refine lv_iadd hx hb d_La_law_379 ?_
      refine nb_top 1 (by decide) ?_
      refine va_sld hx hb hX hbl hbA hS (i := 1) (nb_in rfl) d_La_law_380 ?_
      refine nb_top (xs 1) rfl ?_
      have hPc := hP.sub (ws' := [(q1, .inr (0, [.ref z3, .int 0, .ref z4, .ref z16, .ref z20])), (z20, .inr (3, [.ref z21, .ref z22, .int 0, .int 0, .int 0, .int (-1), .int 0, .int 0]))]) [0, 17] rfl
      have hDc := hD.sub (ws' := [(q1, .inr (0, [.ref z3, .int 0, .ref z4, .ref z16, .ref z20])), (z20, .inr (3, [.ref z21, .ref z22, .int 0, .int 0, .int 0, .int (-1), .int 0, .int 0]))]) [0, 17] (by decide) rfl
      refine vp_callSi (va_Run.run (va_runV (As := [.int (xs 1)]) (rest := []) ⟨hx, hb, hml, hown, hts⟩ (c_NP_written l G _ q1 z3 z4 z16 z20 z21 z22 (xs 1)) (cwV 1 hts (nn_gV mw_372 mw_369 mw_370 mw_371 mw_87) rfl rfl rfl (by decide +kernel) ⟨Nat.le_of_ble_eq_true rfl, Nat.le_of_ble_eq_true rfl⟩) (nn_preV (va_recv hK hP rfl (q0 := 0) rfl) hPc hDc hK hN) rfl rfl hl.1 rfl (lv_room (Nat.le_of_ble_eq_true rfl)) d_La_law_381 ⟨(Nat.le_of_ble_eq_true rfl), (Nat.le_of_ble_eq_true rfl)⟩)) (fun r77 er77 => ?_)
      subst er77
      refine lv_aload_n hx hb d_La_law_384 rfl (lv_at hl 2 rfl) ?_
      refine lv_aload_n hx hb d_La_law_385 rfl (lv_at hl 4 rfl) ?_
      refine lv_iload hx hb d_La_law_386 (lv_at hl 0 rfl) ?_
      refine lv_iconst (v := 1) hx hb d_La_law_388 (by decide) ?_
      refine lv_iadd hx hb d_La_law_389 ?_
      refine nb_top 1 (by decide) ?_
      refine va_sld hx hb hX hbl hbA hS (i := 1) (nb_in rfl) d_La_law_390 ?_
      refine nb_top (xs 1) rfl ?_
      have hPc := hP.sub (ws' := [(q23, .inr (7, [.int 0, .int 0, .ref z25, .int 0, .int 0, .int 0, .int 0, .int 0, .int 0, .int (-1), .int (-1), .int 0, .ref z26, .ref z27, .ref z28, .int 0, .ref z29, .ref z30, .ref z31, .ref z32, .ref z33, .int 0, .int 0, .int 0, .int 0, .int 0, .ref z34, .ref z35, .ref z36, .int 0, .ref z37, .ref z38, .ref z39, .int 0, .int 0, .int 0, .int 0, .int (-1), .int 0, .int 0, .ref z40, .ref z41])), (z41, .inl (G.2 0, 8, .inl (fun _ => 0)))]) [20, 29] rfl
      have hDc := hD.sub (ws' := [(q23, .inr (7, [.int 0, .int 0, .ref z25, .int 0, .int 0, .int 0, .int 0, .int 0, .int 0, .int (-1), .int (-1), .int 0, .ref z26, .ref z27, .ref z28, .int 0, .ref z29, .ref z30, .ref z31, .ref z32, .ref z33, .int 0, .int 0, .int 0, .int 0, .int 0, .ref z34, .ref z35, .ref z36, .int 0, .ref z37, .ref z38, .ref z39, .int 0, .int 0, .int 0, .int 0, .int (-1), .int 0, .int 0, .ref z40, .ref z41])), (z41, .inl (G.2 0, 8, .inl (fun _ => 0)))]) [20, 29] (by decide) rfl
      have hFc := va_free (wc := [(q23, .inr (7, [.int 0, .int 0, .ref z25, .int 0, .int 0, .int 0, .int 0, .int 0, .int 0, .int (-1), .int (-1), .int 0, .ref z26, .ref z27, .ref z28, .int 0, .ref z29, .ref z30, .ref z31, .ref z32, .ref z33, .int 0, .int 0, .int 0, .int 0, .int 0, .ref z34, .ref z35, .ref z36, .int 0, .ref z37, .ref z38, .ref z39, .int 0, .int 0, .int 0, .int 0, .int (-1), .int 0, .int 0, .ref z40, .ref z41])), (z41, .inl (G.2 0, 8, .inl (fun _ => 0)))]) hD hS hA [20, 29] rfl
      refine va_calli (va_runV (As := [.int (xs 1)]) (rest := [.int 0]) ⟨hx, hb, hml, hown, hts⟩ (c_Mo_written l G _ q23 z25 z26 z27 z28 z29 z30 z31 z32 z33 z34 z35 z36 z37 z38 z39 z40 z41 (xs 1)) (cwV 1 hts (nn_gV mw_1228 mw_1225 mw_1226 mw_1227 mw_94) rfl rfl rfl (by decide +kernel) ⟨Nat.le_of_ble_eq_true rfl, Nat.le_of_ble_eq_true rfl⟩) (nn_preV (va_recv hK hP rfl (q0 := 20) rfl) hPc hDc hK hN) rfl rfl hl.1 rfl (lv_room (Nat.le_of_ble_eq_true rfl)) d_La_law_391 ⟨(Nat.le_of_ble_eq_true rfl), (Nat.le_of_ble_eq_true rfl)⟩) hS (fun q _ h => hFc q h) hFc (fun r79 u78 t H locs ht hvm hw hB hz1 hk1 hS => ?_)
      obtain rfl : r79 = 0 := hw
      obtain ⟨hP, hD⟩ := va_join (wr := [(q1, .inr (0, [.ref z3, .int 0, .ref z4, .ref z16, .ref z20])), (z3, .inl (G.2 1, 180, .inl (fun _ => 0))), (z4, .inr (2, [.ref z5, .ref z9, .ref z12, .int 0, .int (-1), .int (-1)])), (z5, .inr (6, [.ref z6, .ref z7, .ref z8, .int 0, .int 0])), (z6, .inl (G.2 3, 181, .inr (.inr (.inr (.inr (fun _ => none)))))), (z7, .inl (G.2 0, 181, .inl (fun _ => 0))), (z8, .inl (G.2 0, 181, .inl (fun _ => 0))), (z9, .inr (5, [.ref z10, .int 0, .ref z11, .int 0])), (z11, .inl (G.2 0, 5, .inl (fun _ => 0))), (z12, .inr (1, [.ref z13, .ref z14, .ref z15, .int 0])), (z13, .inl (G.2 0, 180, .inl (fun _ => 0))), (z14, .inl (G.2 0, 180, .inl (fun _ => 0))), (z15, .inl (G.2 0, 180, .inl (fun _ => 0))), (z16, .inr (1, [.ref z17, .ref z18, .ref z19, .int 0])), (z17, .inl (G.2 0, 180, .inl (fun _ => 0))), (z18, .inl (G.2 0, 180, .inl (fun _ => 0))), (z19, .inl (G.2 0, 180, .inl (fun _ => 0))), (z20, .inr (3, [.ref z21, .ref z22, .int 0, .int 0, .int 0, .int (-1), .int 0, .int 0])), (z21, .inl (G.2 0, 200, .inl (fun _ => 0))), (z22, .inl (G.2 0, 8, .inl (fun _ => 0))), (z25, .inl (G.2 1, 180, .inl (fun _ => 0))), (z26, .inl (G.2 0, 260, .inl (fun _ => 0))), (z27, .inl (G.2 0, 260, .inl (fun _ => 0))), (z28, .inl (G.2 0, 260, .inl (fun _ => 0))), (z34, .inl (G.2 0, 400, .inl (fun _ => 0))), (z35, .inl (G.2 0, 400, .inl (fun _ => 0))), (z36, .inl (G.2 0, 400, .inl (fun _ => 0))), (z40, .inl (G.2 0, 200, .inl (fun _ => 0))), (q42, .inl (G.2 2, 1, .inr (.inl (fun _ => 0))))]) (w1 := []) hP hD [20, 29] [0, 1, 2, 3, 4, 5, 6, 7, 8, 9, 10, 11, 12, 13, 14, 15, 16, 17, 18, 19, 21, 22, 23, 24, 25, 26, 27, 28, 30] rfl rfl (by decide) (by decide) hk1 hFc nb_P0 nb_D0
      have hP : va_P G.1 nn_cls [(q1, .inr (0, [.ref z3, .int 0, .ref z4, .ref z16, .ref z20])), (z3, .inl (G.2 1, 180, .inl (fun _ => 0))), (z4, .inr (2, [.ref z5, .ref z9, .ref z12, .int 0, .int (-1), .int (-1)])), (z5, .inr (6, [.ref z6, .ref z7, .ref z8, .int 0, .int 0])), (z6, .inl (G.2 3, 181, .inr (.inr (.inr (.inr (fun _ => none)))))), (z7, .inl (G.2 0, 181, .inl (fun _ => 0))), (z8, .inl (G.2 0, 181, .inl (fun _ => 0))), (z9, .inr (5, [.ref z10, .int 0, .ref z11, .int 0])), (z11, .inl (G.2 0, 5, .inl (fun _ => 0))), (z12, .inr (1, [.ref z13, .ref z14, .ref z15, .int 0])), (z13, .inl (G.2 0, 180, .inl (fun _ => 0))), (z14, .inl (G.2 0, 180, .inl (fun _ => 0))), (z15, .inl (G.2 0, 180, .inl (fun _ => 0))), (z16, .inr (1, [.ref z17, .ref z18, .ref z19, .int 0])), (z17, .inl (G.2 0, 180, .inl (fun _ => 0))), (z18, .inl (G.2 0, 180, .inl (fun _ => 0))), (z19, .inl (G.2 0, 180, .inl (fun _ => 0))), (z20, .inr (3, [.ref z21, .ref z22, .int 0, .int 0, .int 0, .int (-1), .int 0, .int 0])), (z21, .inl (G.2 0, 200, .inl (fun _ => 0))), (z22, .inl (G.2 0, 8, .inl (fun _ => 0))), (z25, .inl (G.2 1, 180, .inl (fun _ => 0))), (z26, .inl (G.2 0, 260, .inl (fun _ => 0))), (z27, .inl (G.2 0, 260, .inl (fun _ => 0))), (z28, .inl (G.2 0, 260, .inl (fun _ => 0))), (z34, .inl (G.2 0, 400, .inl (fun _ => 0))), (z35, .inl (G.2 0, 400, .inl (fun _ => 0))), (z36, .inl (G.2 0, 400, .inl (fun _ => 0))), (z40, .inl (G.2 0, 200, .inl (fun _ => 0))), (q42, .inl (G.2 2, 1, .inr (.inl (fun _ => 0))))] H := hP
      have hD : va_D A [(q1, .inr (0, [.ref z3, .int 0, .ref z4, .ref z16, .ref z20])), (z3, .inl (G.2 1, 180, .inl (fun _ => 0))), (z4, .inr (2, [.ref z5, .ref z9, .ref z12, .int 0, .int (-1), .int (-1)])), (z5, .inr (6, [.ref z6, .ref z7, .ref z8, .int 0, .int 0])), (z6, .inl (G.2 3, 181, .inr (.inr (.inr (.inr (fun _ => none)))))), (z7, .inl (G.2 0, 181, .inl (fun _ => 0))), (z8, .inl (G.2 0, 181, .inl (fun _ => 0))), (z9, .inr (5, [.ref z10, .int 0, .ref z11, .int 0])), (z11, .inl (G.2 0, 5, .inl (fun _ => 0))), (z12, .inr (1, [.ref z13, .ref z14, .ref z15, .int 0])), (z13, .inl (G.2 0, 180, .inl (fun _ => 0))), (z14, .inl (G.2 0, 180, .inl (fun _ => 0))), (z15, .inl (G.2 0, 180, .inl (fun _ => 0))), (z16, .inr (1, [.ref z17, .ref z18, .ref z19, .int 0])), (z17, .inl (G.2 0, 180, .inl (fun _ => 0))), (z18, .inl (G.2 0, 180, .inl (fun _ => 0))), (z19, .inl (G.2 0, 180, .inl (fun _ => 0))), (z20, .inr (3, [.ref z21, .ref z22, .int 0, .int 0, .int 0, .int (-1), .int 0, .int 0])), (z21, .inl (G.2 0, 200, .inl (fun _ => 0))), (z22, .inl (G.2 0, 8, .inl (fun _ => 0))), (z25, .inl (G.2 1, 180, .inl (fun _ => 0))), (z26, .inl (G.2 0, 260, .inl (fun _ => 0))), (z27, .inl (G.2 0, 260, .inl (fun _ => 0))), (z28, .inl (G.2 0, 260, .inl (fun _ => 0))), (z34, .inl (G.2 0, 400, .inl (fun _ => 0))), (z35, .inl (G.2 0, 400, .inl (fun _ => 0))), (z36, .inl (G.2 0, 400, .inl (fun _ => 0))), (z40, .inl (G.2 0, 200, .inl (fun _ => 0))), (q42, .inl (G.2 2, 1, .inr (.inl (fun _ => 0))))] := hD
      refine W.widen (k := 130) (n := 6703) (Nat.le_of_ble_eq_true rfl) (Nat.le_of_ble_eq_true rfl) ?_
      refine lv_icmp_eq (tgt := 436) hx hb d_La_law_394 rfl (fun _ => ?_) (fun h => absurd (by decide) h)
      refine lv_iinc (k := 0) (v := 3) (lv' := [(4, .int 3), (3, .ref q42), (2, .ref q23), (1, .ref q1), (0, .ref b)]) hx hb d_La_law_436 hl rfl (by decide) (by decide) rfl (fun ls hl => ?_)
      refine lv_goto (tgt := 23) hx hb d_La_law_439 rfl ?_
      refine lv_iload hx hb d_La_law_23 (lv_at hl 0 rfl) ?_
      refine lv_aload_n hx hb d_La_law_25 rfl (lv_at hl 4 rfl) ?_
      refine va_slen hx hb hX hbl hbA hS d_La_law_26 ?_
      refine nb_top 3 rfl ?_
      refine lv_iconst (v := 3) hx hb d_La_law_27 (by decide) ?_
      refine lv_isub hx hb d_La_law_28 ?_
      refine nb_top 0 (by decide) ?_
      refine lv_icmp_gt (tgt := 442) hx hb d_La_law_29 rfl (fun _ => ?_) (fun h => absurd (by decide) h)
      refine lv_iconst (v := 1) hx hb d_La_law_442 (by decide) ?_
      refine va_forget (fun q hq => hAf _ (hS.2.2 q hq)) ?_
      refine W.widen (k := 600002) (n := 7302232) (Nat.le_of_ble_eq_true rfl) (Nat.le_of_ble_eq_true rfl) ?_
      exact lw_ret hx hb hr hlocks d_La_law_443
    by_cases hk39_9 : (xs 0) &&& 15 = 9
    · skip
      refine lv_tableIn (off := 360) (tgt := 399) hx hb d_La_law_39 (by rw [hk39_9]; decide) (by rw [hk39_9]; decide) (by rw [hk39_9]; decide) rfl ?_
      refine lv_aload_n hx hb d_La_law_399 rfl (lv_at hl 3 rfl) ?_
      refine lv_aload_n hx hb d_La_law_400 rfl (lv_at hl 4 rfl) ?_
      refine lv_iload hx hb d_La_law_401 (lv_at hl 0 rfl) ?_
      refine lv_iconst (v := 1) hx hb d_La_law_403 (by decide) ?_
      refine lv_iadd hx hb d_La_law_404 ?_
      refine nb_top 1 (by decide) ?_
      refine va_sld hx hb hX hbl hbA hS (i := 1) (nb_in rfl) d_La_law_405 ?_
      refine nb_top (xs 1) rfl ?_
      refine lv_aload_n hx hb d_La_law_406 rfl (lv_at hl 4 rfl) ?_
      refine lv_iload hx hb d_La_law_407 (lv_at hl 0 rfl) ?_
      refine lv_iconst (v := 2) hx hb d_La_law_409 (by decide) ?_
      refine lv_iadd hx hb d_La_law_410 ?_
      refine nb_top 2 (by decide) ?_
      refine va_sld hx hb hX hbl hbA hS (i := 2) (nb_in rfl) d_La_law_411 ?_
      refine nb_top (xs 2) rfl ?_
      have hPc := hP.sub (ws' := [(q1, .inr (0, [.ref z3, .int 0, .ref z4, .ref z16, .ref z20])), (z20, .inr (3, [.ref z21, .ref z22, .int 0, .int 0, .int 0, .int (-1), .int 0, .int 0]))]) [0, 17] rfl
      have hDc := hD.sub (ws' := [(q1, .inr (0, [.ref z3, .int 0, .ref z4, .ref z16, .ref z20])), (z20, .inr (3, [.ref z21, .ref z22, .int 0, .int 0, .int 0, .int (-1), .int 0, .int 0]))]) [0, 17] (by decide) rfl
      refine vp_callSi (va_Run.run (va_runV (As := [.int (xs 1), .int (xs 2)]) (rest := []) ⟨hx, hb, hml, hown, hts⟩ (c_NP_variable l G _ q1 z3 z4 z16 z20 z21 z22 (xs 1) (xs 2)) (cwV 2 hts (nn_gV mw_380 mw_377 mw_378 mw_379 mw_87) rfl rfl rfl (by decide +kernel) ⟨Nat.le_of_ble_eq_true rfl, Nat.le_of_ble_eq_true rfl⟩) (nn_preV (va_recv hK hP rfl (q0 := 0) rfl) hPc hDc hK hN) rfl rfl hl.1 rfl (lv_room (Nat.le_of_ble_eq_true rfl)) d_La_law_412 ⟨(Nat.le_of_ble_eq_true rfl), (Nat.le_of_ble_eq_true rfl)⟩)) (fun r80 er80 => ?_)
      subst er80
      refine lv_aload_n hx hb d_La_law_415 rfl (lv_at hl 2 rfl) ?_
      refine lv_aload_n hx hb d_La_law_416 rfl (lv_at hl 4 rfl) ?_
      refine lv_iload hx hb d_La_law_417 (lv_at hl 0 rfl) ?_
      refine lv_iconst (v := 1) hx hb d_La_law_419 (by decide) ?_
      refine lv_iadd hx hb d_La_law_420 ?_
      refine nb_top 1 (by decide) ?_
      refine va_sld hx hb hX hbl hbA hS (i := 1) (nb_in rfl) d_La_law_421 ?_
      refine nb_top (xs 1) rfl ?_
      refine lv_aload_n hx hb d_La_law_422 rfl (lv_at hl 4 rfl) ?_
      refine lv_iload hx hb d_La_law_423 (lv_at hl 0 rfl) ?_
      refine lv_iconst (v := 2) hx hb d_La_law_425 (by decide) ?_
      refine lv_iadd hx hb d_La_law_426 ?_
      refine nb_top 2 (by decide) ?_
      refine va_sld hx hb hX hbl hbA hS (i := 2) (nb_in rfl) d_La_law_427 ?_
      refine nb_top (xs 2) rfl ?_
      have hPc := hP.sub (ws' := [(q23, .inr (7, [.int 0, .int 0, .ref z25, .int 0, .int 0, .int 0, .int 0, .int 0, .int 0, .int (-1), .int (-1), .int 0, .ref z26, .ref z27, .ref z28, .int 0, .ref z29, .ref z30, .ref z31, .ref z32, .ref z33, .int 0, .int 0, .int 0, .int 0, .int 0, .ref z34, .ref z35, .ref z36, .int 0, .ref z37, .ref z38, .ref z39, .int 0, .int 0, .int 0, .int 0, .int (-1), .int 0, .int 0, .ref z40, .ref z41]))]) [20] rfl
      have hDc := hD.sub (ws' := [(q23, .inr (7, [.int 0, .int 0, .ref z25, .int 0, .int 0, .int 0, .int 0, .int 0, .int 0, .int (-1), .int (-1), .int 0, .ref z26, .ref z27, .ref z28, .int 0, .ref z29, .ref z30, .ref z31, .ref z32, .ref z33, .int 0, .int 0, .int 0, .int 0, .int 0, .ref z34, .ref z35, .ref z36, .int 0, .ref z37, .ref z38, .ref z39, .int 0, .int 0, .int 0, .int 0, .int (-1), .int 0, .int 0, .ref z40, .ref z41]))]) [20] (by decide) rfl
      have hFc := va_free (wc := [(q23, .inr (7, [.int 0, .int 0, .ref z25, .int 0, .int 0, .int 0, .int 0, .int 0, .int 0, .int (-1), .int (-1), .int 0, .ref z26, .ref z27, .ref z28, .int 0, .ref z29, .ref z30, .ref z31, .ref z32, .ref z33, .int 0, .int 0, .int 0, .int 0, .int 0, .ref z34, .ref z35, .ref z36, .int 0, .ref z37, .ref z38, .ref z39, .int 0, .int 0, .int 0, .int 0, .int (-1), .int 0, .int 0, .ref z40, .ref z41]))]) hD hS hA [20] rfl
      refine va_calli (va_runV (As := [.int (xs 1), .int (xs 2)]) (rest := [.int 0]) ⟨hx, hb, hml, hown, hts⟩ (c_Mo_variable l G _ q23 z25 z26 z27 z28 z29 z30 z31 z32 z33 z34 z35 z36 z37 z38 z39 z40 z41 (xs 1) (xs 2)) (cwV 2 hts (nn_gV mw_1232 mw_1229 mw_1230 mw_1231 mw_94) rfl rfl rfl (by decide +kernel) ⟨Nat.le_of_ble_eq_true rfl, Nat.le_of_ble_eq_true rfl⟩) (nn_preV (va_recv hK hP rfl (q0 := 20) rfl) hPc hDc hK hN) rfl rfl hl.1 rfl (lv_room (Nat.le_of_ble_eq_true rfl)) d_La_law_428 ⟨(Nat.le_of_ble_eq_true rfl), (Nat.le_of_ble_eq_true rfl)⟩) hS (fun q _ h => hFc q h) hFc (fun r82 u81 t H locs ht hvm hw hB hz1 hk1 hS => ?_)
      obtain rfl : r82 = 0 := hw
      obtain ⟨hP, hD⟩ := va_join (wr := [(q1, .inr (0, [.ref z3, .int 0, .ref z4, .ref z16, .ref z20])), (z3, .inl (G.2 1, 180, .inl (fun _ => 0))), (z4, .inr (2, [.ref z5, .ref z9, .ref z12, .int 0, .int (-1), .int (-1)])), (z5, .inr (6, [.ref z6, .ref z7, .ref z8, .int 0, .int 0])), (z6, .inl (G.2 3, 181, .inr (.inr (.inr (.inr (fun _ => none)))))), (z7, .inl (G.2 0, 181, .inl (fun _ => 0))), (z8, .inl (G.2 0, 181, .inl (fun _ => 0))), (z9, .inr (5, [.ref z10, .int 0, .ref z11, .int 0])), (z11, .inl (G.2 0, 5, .inl (fun _ => 0))), (z12, .inr (1, [.ref z13, .ref z14, .ref z15, .int 0])), (z13, .inl (G.2 0, 180, .inl (fun _ => 0))), (z14, .inl (G.2 0, 180, .inl (fun _ => 0))), (z15, .inl (G.2 0, 180, .inl (fun _ => 0))), (z16, .inr (1, [.ref z17, .ref z18, .ref z19, .int 0])), (z17, .inl (G.2 0, 180, .inl (fun _ => 0))), (z18, .inl (G.2 0, 180, .inl (fun _ => 0))), (z19, .inl (G.2 0, 180, .inl (fun _ => 0))), (z20, .inr (3, [.ref z21, .ref z22, .int 0, .int 0, .int 0, .int (-1), .int 0, .int 0])), (z21, .inl (G.2 0, 200, .inl (fun _ => 0))), (z22, .inl (G.2 0, 8, .inl (fun _ => 0))), (z25, .inl (G.2 1, 180, .inl (fun _ => 0))), (z26, .inl (G.2 0, 260, .inl (fun _ => 0))), (z27, .inl (G.2 0, 260, .inl (fun _ => 0))), (z28, .inl (G.2 0, 260, .inl (fun _ => 0))), (z34, .inl (G.2 0, 400, .inl (fun _ => 0))), (z35, .inl (G.2 0, 400, .inl (fun _ => 0))), (z36, .inl (G.2 0, 400, .inl (fun _ => 0))), (z40, .inl (G.2 0, 200, .inl (fun _ => 0))), (z41, .inl (G.2 0, 8, .inl (fun _ => 0))), (q42, .inl (G.2 2, 1, .inr (.inl (fun _ => 0))))]) (w1 := []) hP hD [20] [0, 1, 2, 3, 4, 5, 6, 7, 8, 9, 10, 11, 12, 13, 14, 15, 16, 17, 18, 19, 21, 22, 23, 24, 25, 26, 27, 28, 29, 30] rfl rfl (by decide) (by decide) hk1 hFc nb_P0 nb_D0
      have hP : va_P G.1 nn_cls [(q1, .inr (0, [.ref z3, .int 0, .ref z4, .ref z16, .ref z20])), (z3, .inl (G.2 1, 180, .inl (fun _ => 0))), (z4, .inr (2, [.ref z5, .ref z9, .ref z12, .int 0, .int (-1), .int (-1)])), (z5, .inr (6, [.ref z6, .ref z7, .ref z8, .int 0, .int 0])), (z6, .inl (G.2 3, 181, .inr (.inr (.inr (.inr (fun _ => none)))))), (z7, .inl (G.2 0, 181, .inl (fun _ => 0))), (z8, .inl (G.2 0, 181, .inl (fun _ => 0))), (z9, .inr (5, [.ref z10, .int 0, .ref z11, .int 0])), (z11, .inl (G.2 0, 5, .inl (fun _ => 0))), (z12, .inr (1, [.ref z13, .ref z14, .ref z15, .int 0])), (z13, .inl (G.2 0, 180, .inl (fun _ => 0))), (z14, .inl (G.2 0, 180, .inl (fun _ => 0))), (z15, .inl (G.2 0, 180, .inl (fun _ => 0))), (z16, .inr (1, [.ref z17, .ref z18, .ref z19, .int 0])), (z17, .inl (G.2 0, 180, .inl (fun _ => 0))), (z18, .inl (G.2 0, 180, .inl (fun _ => 0))), (z19, .inl (G.2 0, 180, .inl (fun _ => 0))), (z20, .inr (3, [.ref z21, .ref z22, .int 0, .int 0, .int 0, .int (-1), .int 0, .int 0])), (z21, .inl (G.2 0, 200, .inl (fun _ => 0))), (z22, .inl (G.2 0, 8, .inl (fun _ => 0))), (z25, .inl (G.2 1, 180, .inl (fun _ => 0))), (z26, .inl (G.2 0, 260, .inl (fun _ => 0))), (z27, .inl (G.2 0, 260, .inl (fun _ => 0))), (z28, .inl (G.2 0, 260, .inl (fun _ => 0))), (z34, .inl (G.2 0, 400, .inl (fun _ => 0))), (z35, .inl (G.2 0, 400, .inl (fun _ => 0))), (z36, .inl (G.2 0, 400, .inl (fun _ => 0))), (z40, .inl (G.2 0, 200, .inl (fun _ => 0))), (z41, .inl (G.2 0, 8, .inl (fun _ => 0))), (q42, .inl (G.2 2, 1, .inr (.inl (fun _ => 0))))] H := hP
      have hD : va_D A [(q1, .inr (0, [.ref z3, .int 0, .ref z4, .ref z16, .ref z20])), (z3, .inl (G.2 1, 180, .inl (fun _ => 0))), (z4, .inr (2, [.ref z5, .ref z9, .ref z12, .int 0, .int (-1), .int (-1)])), (z5, .inr (6, [.ref z6, .ref z7, .ref z8, .int 0, .int 0])), (z6, .inl (G.2 3, 181, .inr (.inr (.inr (.inr (fun _ => none)))))), (z7, .inl (G.2 0, 181, .inl (fun _ => 0))), (z8, .inl (G.2 0, 181, .inl (fun _ => 0))), (z9, .inr (5, [.ref z10, .int 0, .ref z11, .int 0])), (z11, .inl (G.2 0, 5, .inl (fun _ => 0))), (z12, .inr (1, [.ref z13, .ref z14, .ref z15, .int 0])), (z13, .inl (G.2 0, 180, .inl (fun _ => 0))), (z14, .inl (G.2 0, 180, .inl (fun _ => 0))), (z15, .inl (G.2 0, 180, .inl (fun _ => 0))), (z16, .inr (1, [.ref z17, .ref z18, .ref z19, .int 0])), (z17, .inl (G.2 0, 180, .inl (fun _ => 0))), (z18, .inl (G.2 0, 180, .inl (fun _ => 0))), (z19, .inl (G.2 0, 180, .inl (fun _ => 0))), (z20, .inr (3, [.ref z21, .ref z22, .int 0, .int 0, .int 0, .int (-1), .int 0, .int 0])), (z21, .inl (G.2 0, 200, .inl (fun _ => 0))), (z22, .inl (G.2 0, 8, .inl (fun _ => 0))), (z25, .inl (G.2 1, 180, .inl (fun _ => 0))), (z26, .inl (G.2 0, 260, .inl (fun _ => 0))), (z27, .inl (G.2 0, 260, .inl (fun _ => 0))), (z28, .inl (G.2 0, 260, .inl (fun _ => 0))), (z34, .inl (G.2 0, 400, .inl (fun _ => 0))), (z35, .inl (G.2 0, 400, .inl (fun _ => 0))), (z36, .inl (G.2 0, 400, .inl (fun _ => 0))), (z40, .inl (G.2 0, 200, .inl (fun _ => 0))), (z41, .inl (G.2 0, 8, .inl (fun _ => 0))), (q42, .inl (G.2 2, 1, .inr (.inl (fun _ => 0))))] := hD
      refine W.widen (k := 130) (n := 6703) (Nat.le_of_ble_eq_true rfl) (Nat.le_of_ble_eq_true rfl) ?_
      refine lv_icmp_eq (tgt := 436) hx hb d_La_law_431 rfl (fun _ => ?_) (fun h => absurd (by decide) h)
      refine lv_iinc (k := 0) (v := 3) (lv' := [(4, .int 3), (3, .ref q42), (2, .ref q23), (1, .ref q1), (0, .ref b)]) hx hb d_La_law_436 hl rfl (by decide) (by decide) rfl (fun ls hl => ?_)
      refine lv_goto (tgt := 23) hx hb d_La_law_439 rfl ?_
      refine lv_iload hx hb d_La_law_23 (lv_at hl 0 rfl) ?_
      refine lv_aload_n hx hb d_La_law_25 rfl (lv_at hl 4 rfl) ?_
      refine va_slen hx hb hX hbl hbA hS d_La_law_26 ?_
      refine nb_top 3 rfl ?_
      refine lv_iconst (v := 3) hx hb d_La_law_27 (by decide) ?_
      refine lv_isub hx hb d_La_law_28 ?_
      refine nb_top 0 (by decide) ?_
      refine lv_icmp_gt (tgt := 442) hx hb d_La_law_29 rfl (fun _ => ?_) (fun h => absurd (by decide) h)
      refine lv_iconst (v := 1) hx hb d_La_law_442 (by decide) ?_
      refine va_forget (fun q hq => hAf _ (hS.2.2 q hq)) ?_
      refine W.widen (k := 600002) (n := 7302232) (Nat.le_of_ble_eq_true rfl) (Nat.le_of_ble_eq_true rfl) ?_
      exact lw_ret hx hb hr hlocks d_La_law_443
    refine lv_tableOut (tgt := 436) hx hb d_La_law_39 (nb_out10 hk39_0 hk39_1 hk39_2 hk39_3 hk39_4 hk39_5 hk39_6 hk39_7 hk39_8 hk39_9) rfl ?_
    refine lv_iinc (k := 0) (v := 3) (lv' := [(4, .int 3), (3, .ref q42), (2, .ref q23), (1, .ref q1), (0, .ref b)]) hx hb d_La_law_436 hl rfl (by decide) (by decide) rfl (fun ls hl => ?_)
    refine lv_goto (tgt := 23) hx hb d_La_law_439 rfl ?_
    refine lv_iload hx hb d_La_law_23 (lv_at hl 0 rfl) ?_
    refine lv_aload_n hx hb d_La_law_25 rfl (lv_at hl 4 rfl) ?_
    refine va_slen hx hb hX hbl hbA hS d_La_law_26 ?_
    refine nb_top 3 rfl ?_
    refine lv_iconst (v := 3) hx hb d_La_law_27 (by decide) ?_
    refine lv_isub hx hb d_La_law_28 ?_
    refine nb_top 0 (by decide) ?_
    refine lv_icmp_gt (tgt := 442) hx hb d_La_law_29 rfl (fun _ => ?_) (fun h => absurd (by decide) h)
    refine lv_iconst (v := 1) hx hb d_La_law_442 (by decide) ?_
    refine va_forget (fun q hq => hAf _ (hS.2.2 q hq)) ?_
    refine W.widen (k := 600002) (n := 7302232) (Nat.le_of_ble_eq_true rfl) (Nat.le_of_ble_eq_true rfl) ?_
    exact lw_ret hx hb hr hlocks d_La_law_443
