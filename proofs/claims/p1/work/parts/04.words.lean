/-! words and decode rows (by wip/p1/gen.py) -/
theorem mw_1 : (.selects R_Co y_Co_isOne y_Co_isOne : Cond) ∈ nn_gw := nn_at 1 (by decide +kernel) (by decide +kernel)
theorem mw_92 : (.initialized R_Co : Cond) ∈ nn_gw := nn_at 92 (by decide +kernel) (by decide +kernel)
theorem mw_115 : (.instanceMethod ⟨"java/lang/Object", "<init>", "()V"⟩ : Cond) ∈ nn_gw := nn_at 115 (by decide +kernel) (by decide +kernel)
theorem mw_128 : (.methodLink R_Ts 3 ⟨"java/lang/Object", "<init>", "()V"⟩ : Cond) ∈ nn_gw := nn_at 128 (by decide +kernel) (by decide +kernel)
theorem mw_129 : (.classLink R_Ts 11 R_To : Cond) ∈ nn_gw := nn_at 129 (by decide +kernel) (by decide +kernel)
theorem mw_131 : (.fieldLink R_Ts 13 R_Ts "kinds" "[LNestPascal$Token;" : Cond) ∈ nn_gw := nn_at 131 (by decide +kernel) (by decide +kernel)
theorem mw_132 : (.fieldLink R_Ts 17 R_Ts "places" "[I" : Cond) ∈ nn_gw := nn_at 132 (by decide +kernel) (by decide +kernel)
theorem mw_133 : (.fieldLink R_Ts 21 R_Ts "values" "[I" : Cond) ∈ nn_gw := nn_at 133 (by decide +kernel) (by decide +kernel)
theorem mw_134 : (.fieldLink R_Ts 24 R_Ts "count" "I" : Cond) ∈ nn_gw := nn_at 134 (by decide +kernel) (by decide +kernel)
theorem mw_135 : (.fieldLink R_Ts 28 R_Ts "atHand" "I" : Cond) ∈ nn_gw := nn_at 135 (by decide +kernel) (by decide +kernel)
theorem mw_148 : (.arrayClass .int : Cond) ∈ nn_gw := nn_at 148 (by decide +kernel) (by decide +kernel)
theorem mw_161 : (.methodLink R_Nm 1 ⟨"java/lang/Object", "<init>", "()V"⟩ : Cond) ∈ nn_gw := nn_at 161 (by decide +kernel) (by decide +kernel)
theorem mw_162 : (.fieldLink R_Nm 7 R_Nm "id" "I" : Cond) ∈ nn_gw := nn_at 162 (by decide +kernel) (by decide +kernel)
theorem mw_164 : (.fieldLink R_Nm 13 R_Nm "kind" "I" : Cond) ∈ nn_gw := nn_at 164 (by decide +kernel) (by decide +kernel)
theorem mw_167 : (.fieldLink R_Nm 16 R_Nm "level" "I" : Cond) ∈ nn_gw := nn_at 167 (by decide +kernel) (by decide +kernel)
theorem mw_170 : (.fieldLink R_Nm 19 R_Nm "place" "I" : Cond) ∈ nn_gw := nn_at 170 (by decide +kernel) (by decide +kernel)
theorem mw_173 : (.fieldLink R_Nm 22 R_Nm "size" "I" : Cond) ∈ nn_gw := nn_at 173 (by decide +kernel) (by decide +kernel)
theorem mw_205 : (.methodLink R_Co 3 ⟨"java/lang/Object", "<init>", "()V"⟩ : Cond) ∈ nn_gw := nn_at 205 (by decide +kernel) (by decide +kernel)
theorem mw_206 : (.fieldLink R_Co 11 R_Co "operations" "[I" : Cond) ∈ nn_gw := nn_at 206 (by decide +kernel) (by decide +kernel)
theorem mw_207 : (.fieldLink R_Co 15 R_Co "links" "[I" : Cond) ∈ nn_gw := nn_at 207 (by decide +kernel) (by decide +kernel)
theorem mw_208 : (.fieldLink R_Co 18 R_Co "operands" "[I" : Cond) ∈ nn_gw := nn_at 208 (by decide +kernel) (by decide +kernel)
theorem mw_209 : (.fieldLink R_Co 21 R_Co "size" "I" : Cond) ∈ nn_gw := nn_at 209 (by decide +kernel) (by decide +kernel)
theorem mw_245 : (.methodLink R_Ma 3 ⟨"java/lang/Object", "<init>", "()V"⟩ : Cond) ∈ nn_gw := nn_at 245 (by decide +kernel) (by decide +kernel)
theorem mw_246 : (.fieldLink R_Ma 11 R_Ma "cells" "[I" : Cond) ∈ nn_gw := nn_at 246 (by decide +kernel) (by decide +kernel)
theorem mw_247 : (.fieldLink R_Ma 15 R_Ma "outputs" "[I" : Cond) ∈ nn_gw := nn_at 247 (by decide +kernel) (by decide +kernel)
theorem mw_248 : (.fieldLink R_Ma 18 R_Ma "state" "I" : Cond) ∈ nn_gw := nn_at 248 (by decide +kernel) (by decide +kernel)
theorem mw_249 : (.fieldLink R_Ma 22 R_Ma "next" "I" : Cond) ∈ nn_gw := nn_at 249 (by decide +kernel) (by decide +kernel)
theorem mw_250 : (.fieldLink R_Ma 25 R_Ma "base" "I" : Cond) ∈ nn_gw := nn_at 250 (by decide +kernel) (by decide +kernel)
theorem mw_251 : (.fieldLink R_Ma 28 R_Ma "top" "I" : Cond) ∈ nn_gw := nn_at 251 (by decide +kernel) (by decide +kernel)
theorem mw_252 : (.fieldLink R_Ma 31 R_Ma "frames" "I" : Cond) ∈ nn_gw := nn_at 252 (by decide +kernel) (by decide +kernel)
theorem mw_253 : (.fieldLink R_Ma 34 R_Ma "outputCount" "I" : Cond) ∈ nn_gw := nn_at 253 (by decide +kernel) (by decide +kernel)
theorem mw_322 : (.methodLink R_Co 25 y_Co_isOne : Cond) ∈ nn_gw := nn_at 322 (by decide +kernel) (by decide +kernel)
theorem mw_324 : (.instanceMethod y_Co_isOne : Cond) ∈ nn_gw := nn_at 324 (by decide +kernel) (by decide +kernel)
theorem mw_325 : (.code y_Co_isOne b_Co_isOne 2 (some .boolean) : Cond) ∈ nn_gw := nn_at 325 (by decide +kernel) (by decide +kernel)
theorem d_Co_init_0 : decode b_Co_init 0 = .ok (.aload_n 0, 1) := by decide +kernel
theorem d_Co_init_1 : decode b_Co_init 1 = .ok (.invokespecial 3, 3) := by decide +kernel
theorem d_Co_init_4 : decode b_Co_init 4 = .ok (.aload_n 0, 1) := by decide +kernel
theorem d_Co_init_5 : decode b_Co_init 5 = .ok (.sipush 180, 3) := by decide +kernel
theorem d_Co_init_8 : decode b_Co_init 8 = .ok (.newarray .int, 2) := by decide +kernel
theorem d_Co_init_10 : decode b_Co_init 10 = .ok (.putfield 11, 3) := by decide +kernel
theorem d_Co_init_13 : decode b_Co_init 13 = .ok (.aload_n 0, 1) := by decide +kernel
theorem d_Co_init_14 : decode b_Co_init 14 = .ok (.sipush 180, 3) := by decide +kernel
theorem d_Co_init_17 : decode b_Co_init 17 = .ok (.newarray .int, 2) := by decide +kernel
theorem d_Co_init_19 : decode b_Co_init 19 = .ok (.putfield 15, 3) := by decide +kernel
theorem d_Co_init_22 : decode b_Co_init 22 = .ok (.aload_n 0, 1) := by decide +kernel
theorem d_Co_init_23 : decode b_Co_init 23 = .ok (.sipush 180, 3) := by decide +kernel
theorem d_Co_init_26 : decode b_Co_init 26 = .ok (.newarray .int, 2) := by decide +kernel
theorem d_Co_init_28 : decode b_Co_init 28 = .ok (.putfield 18, 3) := by decide +kernel
theorem d_Co_init_31 : decode b_Co_init 31 = .ok (.aload_n 0, 1) := by decide +kernel
theorem d_Co_init_32 : decode b_Co_init 32 = .ok (.iconst 0, 1) := by decide +kernel
theorem d_Co_init_33 : decode b_Co_init 33 = .ok (.putfield 21, 3) := by decide +kernel
theorem d_Co_init_36 : decode b_Co_init 36 = .ok (.return_, 1) := by decide +kernel
theorem d_Co_isOne_0 : decode b_Co_isOne 0 = .ok (.iload_n 1, 1) := by decide +kernel
theorem d_Co_isOne_1 : decode b_Co_isOne 1 = .ok (.ifCond .lt 15, 3) := by decide +kernel
theorem d_Co_isOne_4 : decode b_Co_isOne 4 = .ok (.iload_n 1, 1) := by decide +kernel
theorem d_Co_isOne_5 : decode b_Co_isOne 5 = .ok (.aload_n 0, 1) := by decide +kernel
theorem d_Co_isOne_6 : decode b_Co_isOne 6 = .ok (.getfield 21, 3) := by decide +kernel
theorem d_Co_isOne_9 : decode b_Co_isOne 9 = .ok (.if_icmp .ge 7, 3) := by decide +kernel
theorem d_Co_isOne_16 : decode b_Co_isOne 16 = .ok (.iconst 0, 1) := by decide +kernel
theorem d_Co_isOne_17 : decode b_Co_isOne 17 = .ok (.ireturn, 1) := by decide +kernel
theorem d_Co_links_0 : decode b_Co_links 0 = .ok (.aload_n 0, 1) := by decide +kernel
theorem d_Co_links_1 : decode b_Co_links 1 = .ok (.iload_n 1, 1) := by decide +kernel
theorem d_Co_links_2 : decode b_Co_links 2 = .ok (.invokevirtual 25, 3) := by decide +kernel
theorem d_Co_links_5 : decode b_Co_links 5 = .ok (.ifCond .eq 12, 3) := by decide +kernel
theorem d_Co_links_17 : decode b_Co_links 17 = .ok (.iconst 0, 1) := by decide +kernel
theorem d_Co_links_18 : decode b_Co_links 18 = .ok (.ireturn, 1) := by decide +kernel
theorem d_Co_operand_0 : decode b_Co_operand 0 = .ok (.aload_n 0, 1) := by decide +kernel
theorem d_Co_operand_1 : decode b_Co_operand 1 = .ok (.iload_n 1, 1) := by decide +kernel
theorem d_Co_operand_2 : decode b_Co_operand 2 = .ok (.invokevirtual 25, 3) := by decide +kernel
theorem d_Co_operand_5 : decode b_Co_operand 5 = .ok (.ifCond .eq 12, 3) := by decide +kernel
theorem d_Co_operand_17 : decode b_Co_operand 17 = .ok (.iconst 0, 1) := by decide +kernel
theorem d_Co_operand_18 : decode b_Co_operand 18 = .ok (.ireturn, 1) := by decide +kernel
theorem d_Co_operation_0 : decode b_Co_operation 0 = .ok (.aload_n 0, 1) := by decide +kernel
theorem d_Co_operation_1 : decode b_Co_operation 1 = .ok (.iload_n 1, 1) := by decide +kernel
theorem d_Co_operation_2 : decode b_Co_operation 2 = .ok (.invokevirtual 25, 3) := by decide +kernel
theorem d_Co_operation_5 : decode b_Co_operation 5 = .ok (.ifCond .eq 12, 3) := by decide +kernel
theorem d_Co_operation_17 : decode b_Co_operation 17 = .ok (.iconst 0, 1) := by decide +kernel
theorem d_Co_operation_18 : decode b_Co_operation 18 = .ok (.ireturn, 1) := by decide +kernel
theorem d_Co_size_0 : decode b_Co_size 0 = .ok (.aload_n 0, 1) := by decide +kernel
theorem d_Co_size_1 : decode b_Co_size 1 = .ok (.getfield 21, 3) := by decide +kernel
theorem d_Co_size_4 : decode b_Co_size 4 = .ok (.ireturn, 1) := by decide +kernel
theorem d_Ma_init_0 : decode b_Ma_init 0 = .ok (.aload_n 0, 1) := by decide +kernel
theorem d_Ma_init_1 : decode b_Ma_init 1 = .ok (.invokespecial 3, 3) := by decide +kernel
theorem d_Ma_init_4 : decode b_Ma_init 4 = .ok (.aload_n 0, 1) := by decide +kernel
theorem d_Ma_init_5 : decode b_Ma_init 5 = .ok (.sipush 200, 3) := by decide +kernel
theorem d_Ma_init_8 : decode b_Ma_init 8 = .ok (.newarray .int, 2) := by decide +kernel
theorem d_Ma_init_10 : decode b_Ma_init 10 = .ok (.putfield 11, 3) := by decide +kernel
theorem d_Ma_init_13 : decode b_Ma_init 13 = .ok (.aload_n 0, 1) := by decide +kernel
theorem d_Ma_init_14 : decode b_Ma_init 14 = .ok (.bipush 8, 2) := by decide +kernel
theorem d_Ma_init_16 : decode b_Ma_init 16 = .ok (.newarray .int, 2) := by decide +kernel
theorem d_Ma_init_18 : decode b_Ma_init 18 = .ok (.putfield 15, 3) := by decide +kernel
theorem d_Ma_init_21 : decode b_Ma_init 21 = .ok (.aload_n 0, 1) := by decide +kernel
theorem d_Ma_init_22 : decode b_Ma_init 22 = .ok (.iconst 0, 1) := by decide +kernel
theorem d_Ma_init_23 : decode b_Ma_init 23 = .ok (.putfield 18, 3) := by decide +kernel
theorem d_Ma_init_26 : decode b_Ma_init 26 = .ok (.aload_n 0, 1) := by decide +kernel
theorem d_Ma_init_27 : decode b_Ma_init 27 = .ok (.iconst 0, 1) := by decide +kernel
theorem d_Ma_init_28 : decode b_Ma_init 28 = .ok (.putfield 22, 3) := by decide +kernel
theorem d_Ma_init_31 : decode b_Ma_init 31 = .ok (.aload_n 0, 1) := by decide +kernel
theorem d_Ma_init_32 : decode b_Ma_init 32 = .ok (.iconst 0, 1) := by decide +kernel
theorem d_Ma_init_33 : decode b_Ma_init 33 = .ok (.putfield 25, 3) := by decide +kernel
theorem d_Ma_init_36 : decode b_Ma_init 36 = .ok (.aload_n 0, 1) := by decide +kernel
theorem d_Ma_init_37 : decode b_Ma_init 37 = .ok (.iconst (-1), 1) := by decide +kernel
theorem d_Ma_init_38 : decode b_Ma_init 38 = .ok (.putfield 28, 3) := by decide +kernel
theorem d_Ma_init_41 : decode b_Ma_init 41 = .ok (.aload_n 0, 1) := by decide +kernel
theorem d_Ma_init_42 : decode b_Ma_init 42 = .ok (.iconst 0, 1) := by decide +kernel
theorem d_Ma_init_43 : decode b_Ma_init 43 = .ok (.putfield 31, 3) := by decide +kernel
theorem d_Ma_init_46 : decode b_Ma_init 46 = .ok (.aload_n 0, 1) := by decide +kernel
theorem d_Ma_init_47 : decode b_Ma_init 47 = .ok (.iconst 0, 1) := by decide +kernel
theorem d_Ma_init_48 : decode b_Ma_init 48 = .ok (.putfield 34, 3) := by decide +kernel
theorem d_Ma_init_51 : decode b_Ma_init 51 = .ok (.return_, 1) := by decide +kernel
theorem d_Nm_init_0 : decode b_Nm_init 0 = .ok (.aload_n 0, 1) := by decide +kernel
theorem d_Nm_init_1 : decode b_Nm_init 1 = .ok (.invokespecial 1, 3) := by decide +kernel
theorem d_Nm_init_4 : decode b_Nm_init 4 = .ok (.aload_n 0, 1) := by decide +kernel
theorem d_Nm_init_5 : decode b_Nm_init 5 = .ok (.iconst 0, 1) := by decide +kernel
theorem d_Nm_init_6 : decode b_Nm_init 6 = .ok (.putfield 7, 3) := by decide +kernel
theorem d_Nm_init_9 : decode b_Nm_init 9 = .ok (.aload_n 0, 1) := by decide +kernel
theorem d_Nm_init_10 : decode b_Nm_init 10 = .ok (.iconst 0, 1) := by decide +kernel
theorem d_Nm_init_11 : decode b_Nm_init 11 = .ok (.putfield 13, 3) := by decide +kernel
theorem d_Nm_init_14 : decode b_Nm_init 14 = .ok (.aload_n 0, 1) := by decide +kernel
theorem d_Nm_init_15 : decode b_Nm_init 15 = .ok (.iconst 0, 1) := by decide +kernel
theorem d_Nm_init_16 : decode b_Nm_init 16 = .ok (.putfield 16, 3) := by decide +kernel
theorem d_Nm_init_19 : decode b_Nm_init 19 = .ok (.aload_n 0, 1) := by decide +kernel
theorem d_Nm_init_20 : decode b_Nm_init 20 = .ok (.iconst 0, 1) := by decide +kernel
theorem d_Nm_init_21 : decode b_Nm_init 21 = .ok (.putfield 19, 3) := by decide +kernel
theorem d_Nm_init_24 : decode b_Nm_init 24 = .ok (.aload_n 0, 1) := by decide +kernel
theorem d_Nm_init_25 : decode b_Nm_init 25 = .ok (.iconst 0, 1) := by decide +kernel
theorem d_Nm_init_26 : decode b_Nm_init 26 = .ok (.putfield 22, 3) := by decide +kernel
theorem d_Nm_init_29 : decode b_Nm_init 29 = .ok (.return_, 1) := by decide +kernel
theorem d_Ts_init_0 : decode b_Ts_init 0 = .ok (.aload_n 0, 1) := by decide +kernel
theorem d_Ts_init_1 : decode b_Ts_init 1 = .ok (.invokespecial 3, 3) := by decide +kernel
theorem d_Ts_init_4 : decode b_Ts_init 4 = .ok (.aload_n 0, 1) := by decide +kernel
theorem d_Ts_init_5 : decode b_Ts_init 5 = .ok (.sipush 181, 3) := by decide +kernel
theorem d_Ts_init_8 : decode b_Ts_init 8 = .ok (.anewarray 11, 3) := by decide +kernel
theorem d_Ts_init_11 : decode b_Ts_init 11 = .ok (.putfield 13, 3) := by decide +kernel
theorem d_Ts_init_14 : decode b_Ts_init 14 = .ok (.aload_n 0, 1) := by decide +kernel
theorem d_Ts_init_15 : decode b_Ts_init 15 = .ok (.sipush 181, 3) := by decide +kernel
theorem d_Ts_init_18 : decode b_Ts_init 18 = .ok (.newarray .int, 2) := by decide +kernel
theorem d_Ts_init_20 : decode b_Ts_init 20 = .ok (.putfield 17, 3) := by decide +kernel
theorem d_Ts_init_23 : decode b_Ts_init 23 = .ok (.aload_n 0, 1) := by decide +kernel
theorem d_Ts_init_24 : decode b_Ts_init 24 = .ok (.sipush 181, 3) := by decide +kernel
theorem d_Ts_init_27 : decode b_Ts_init 27 = .ok (.newarray .int, 2) := by decide +kernel
theorem d_Ts_init_29 : decode b_Ts_init 29 = .ok (.putfield 21, 3) := by decide +kernel
theorem d_Ts_init_32 : decode b_Ts_init 32 = .ok (.aload_n 0, 1) := by decide +kernel
theorem d_Ts_init_33 : decode b_Ts_init 33 = .ok (.iconst 0, 1) := by decide +kernel
theorem d_Ts_init_34 : decode b_Ts_init 34 = .ok (.putfield 24, 3) := by decide +kernel
theorem d_Ts_init_37 : decode b_Ts_init 37 = .ok (.aload_n 0, 1) := by decide +kernel
theorem d_Ts_init_38 : decode b_Ts_init 38 = .ok (.iconst 0, 1) := by decide +kernel
theorem d_Ts_init_39 : decode b_Ts_init 39 = .ok (.putfield 28, 3) := by decide +kernel
theorem d_Ts_init_42 : decode b_Ts_init 42 = .ok (.return_, 1) := by decide +kernel
