/-! words and decode rows (by wip/p1/gen.py) -/
theorem mw_1 : (.selects R_Co y_Co_isOne y_Co_isOne : Cond) ∈ nn_gw := nn_at 1 (by decide +kernel) (by decide +kernel)
theorem mw_88 : (.initialized R_Cm : Cond) ∈ nn_gw := nn_at 88 (by decide +kernel) (by decide +kernel)
theorem mw_89 : (.initialized R_Ts : Cond) ∈ nn_gw := nn_at 89 (by decide +kernel) (by decide +kernel)
theorem mw_90 : (.initialized R_Ns : Cond) ∈ nn_gw := nn_at 90 (by decide +kernel) (by decide +kernel)
theorem mw_91 : (.initialized R_Nm : Cond) ∈ nn_gw := nn_at 91 (by decide +kernel) (by decide +kernel)
theorem mw_92 : (.initialized R_Co : Cond) ∈ nn_gw := nn_at 92 (by decide +kernel) (by decide +kernel)
theorem mw_93 : (.initialized R_Ma : Cond) ∈ nn_gw := nn_at 93 (by decide +kernel) (by decide +kernel)
theorem mw_114 : (.methodLink R_NP 1 ⟨"java/lang/Object", "<init>", "()V"⟩ : Cond) ∈ nn_gw := nn_at 114 (by decide +kernel) (by decide +kernel)
theorem mw_115 : (.instanceMethod ⟨"java/lang/Object", "<init>", "()V"⟩ : Cond) ∈ nn_gw := nn_at 115 (by decide +kernel) (by decide +kernel)
theorem mw_117 : (.classLink R_NP 17 R_Cm : Cond) ∈ nn_gw := nn_at 117 (by decide +kernel) (by decide +kernel)
theorem mw_118 : (.instantiable R_Cm 6 : Cond) ∈ nn_gw := nn_at 118 (by decide +kernel) (by decide +kernel)
theorem mw_120 : (.instanceMethod y_Cm_init : Cond) ∈ nn_gw := nn_at 120 (by decide +kernel) (by decide +kernel)
theorem mw_121 : (.code y_Cm_init b_Cm_init 1 none : Cond) ∈ nn_gw := nn_at 121 (by decide +kernel) (by decide +kernel)
theorem mw_122 : (.methodLink R_Cm 3 ⟨"java/lang/Object", "<init>", "()V"⟩ : Cond) ∈ nn_gw := nn_at 122 (by decide +kernel) (by decide +kernel)
theorem mw_123 : (.classLink R_Cm 9 R_Ts : Cond) ∈ nn_gw := nn_at 123 (by decide +kernel) (by decide +kernel)
theorem mw_124 : (.instantiable R_Ts 5 : Cond) ∈ nn_gw := nn_at 124 (by decide +kernel) (by decide +kernel)
theorem mw_126 : (.instanceMethod y_Ts_init : Cond) ∈ nn_gw := nn_at 126 (by decide +kernel) (by decide +kernel)
theorem mw_127 : (.code y_Ts_init b_Ts_init 1 none : Cond) ∈ nn_gw := nn_at 127 (by decide +kernel) (by decide +kernel)
theorem mw_128 : (.methodLink R_Ts 3 ⟨"java/lang/Object", "<init>", "()V"⟩ : Cond) ∈ nn_gw := nn_at 128 (by decide +kernel) (by decide +kernel)
theorem mw_129 : (.classLink R_Ts 11 R_To : Cond) ∈ nn_gw := nn_at 129 (by decide +kernel) (by decide +kernel)
theorem mw_131 : (.fieldLink R_Ts 13 R_Ts "kinds" "[LNestPascal$Token;" : Cond) ∈ nn_gw := nn_at 131 (by decide +kernel) (by decide +kernel)
theorem mw_132 : (.fieldLink R_Ts 17 R_Ts "places" "[I" : Cond) ∈ nn_gw := nn_at 132 (by decide +kernel) (by decide +kernel)
theorem mw_133 : (.fieldLink R_Ts 21 R_Ts "values" "[I" : Cond) ∈ nn_gw := nn_at 133 (by decide +kernel) (by decide +kernel)
theorem mw_134 : (.fieldLink R_Ts 24 R_Ts "count" "I" : Cond) ∈ nn_gw := nn_at 134 (by decide +kernel) (by decide +kernel)
theorem mw_135 : (.fieldLink R_Ts 28 R_Ts "atHand" "I" : Cond) ∈ nn_gw := nn_at 135 (by decide +kernel) (by decide +kernel)
theorem mw_147 : (.arrayClass .char : Cond) ∈ nn_gw := nn_at 147 (by decide +kernel) (by decide +kernel)
theorem mw_148 : (.arrayClass .int : Cond) ∈ nn_gw := nn_at 148 (by decide +kernel) (by decide +kernel)
theorem mw_149 : (.classLink R_Cm 18 R_Ns : Cond) ∈ nn_gw := nn_at 149 (by decide +kernel) (by decide +kernel)
theorem mw_150 : (.instantiable R_Ns 4 : Cond) ∈ nn_gw := nn_at 150 (by decide +kernel) (by decide +kernel)
theorem mw_151 : (.methodLink R_Cm 20 y_Ns_init : Cond) ∈ nn_gw := nn_at 151 (by decide +kernel) (by decide +kernel)
theorem mw_152 : (.instanceMethod y_Ns_init : Cond) ∈ nn_gw := nn_at 152 (by decide +kernel) (by decide +kernel)
theorem mw_153 : (.code y_Ns_init b_Ns_init 2 none : Cond) ∈ nn_gw := nn_at 153 (by decide +kernel) (by decide +kernel)
theorem mw_154 : (.methodLink R_Ns 3 ⟨"java/lang/Object", "<init>", "()V"⟩ : Cond) ∈ nn_gw := nn_at 154 (by decide +kernel) (by decide +kernel)
theorem mw_155 : (.classLink R_Ns 11 R_Nm : Cond) ∈ nn_gw := nn_at 155 (by decide +kernel) (by decide +kernel)
theorem mw_157 : (.instantiable R_Nm 5 : Cond) ∈ nn_gw := nn_at 157 (by decide +kernel) (by decide +kernel)
theorem mw_159 : (.instanceMethod y_Nm_init : Cond) ∈ nn_gw := nn_at 159 (by decide +kernel) (by decide +kernel)
theorem mw_160 : (.code y_Nm_init b_Nm_init 1 none : Cond) ∈ nn_gw := nn_at 160 (by decide +kernel) (by decide +kernel)
theorem mw_161 : (.methodLink R_Nm 1 ⟨"java/lang/Object", "<init>", "()V"⟩ : Cond) ∈ nn_gw := nn_at 161 (by decide +kernel) (by decide +kernel)
theorem mw_162 : (.fieldLink R_Nm 7 R_Nm "id" "I" : Cond) ∈ nn_gw := nn_at 162 (by decide +kernel) (by decide +kernel)
theorem mw_164 : (.fieldLink R_Nm 13 R_Nm "kind" "I" : Cond) ∈ nn_gw := nn_at 164 (by decide +kernel) (by decide +kernel)
theorem mw_167 : (.fieldLink R_Nm 16 R_Nm "level" "I" : Cond) ∈ nn_gw := nn_at 167 (by decide +kernel) (by decide +kernel)
theorem mw_170 : (.fieldLink R_Nm 19 R_Nm "place" "I" : Cond) ∈ nn_gw := nn_at 170 (by decide +kernel) (by decide +kernel)
theorem mw_173 : (.fieldLink R_Nm 22 R_Nm "size" "I" : Cond) ∈ nn_gw := nn_at 173 (by decide +kernel) (by decide +kernel)
theorem mw_187 : (.fieldLink R_Ns 13 R_Ns "declared" "[LNestPascal$Name;" : Cond) ∈ nn_gw := nn_at 187 (by decide +kernel) (by decide +kernel)
theorem mw_188 : (.fieldLink R_Ns 17 R_Ns "count" "I" : Cond) ∈ nn_gw := nn_at 188 (by decide +kernel) (by decide +kernel)
theorem mw_189 : (.fieldLink R_Ns 21 R_Ns "countAround" "[I" : Cond) ∈ nn_gw := nn_at 189 (by decide +kernel) (by decide +kernel)
theorem mw_190 : (.fieldLink R_Ns 25 R_Ns "level" "I" : Cond) ∈ nn_gw := nn_at 190 (by decide +kernel) (by decide +kernel)
theorem mw_200 : (.classLink R_Cm 25 R_Co : Cond) ∈ nn_gw := nn_at 200 (by decide +kernel) (by decide +kernel)
theorem mw_201 : (.instantiable R_Co 4 : Cond) ∈ nn_gw := nn_at 201 (by decide +kernel) (by decide +kernel)
theorem mw_203 : (.instanceMethod y_Co_init : Cond) ∈ nn_gw := nn_at 203 (by decide +kernel) (by decide +kernel)
theorem mw_204 : (.code y_Co_init b_Co_init 1 none : Cond) ∈ nn_gw := nn_at 204 (by decide +kernel) (by decide +kernel)
theorem mw_205 : (.methodLink R_Co 3 ⟨"java/lang/Object", "<init>", "()V"⟩ : Cond) ∈ nn_gw := nn_at 205 (by decide +kernel) (by decide +kernel)
theorem mw_206 : (.fieldLink R_Co 11 R_Co "operations" "[I" : Cond) ∈ nn_gw := nn_at 206 (by decide +kernel) (by decide +kernel)
theorem mw_207 : (.fieldLink R_Co 15 R_Co "links" "[I" : Cond) ∈ nn_gw := nn_at 207 (by decide +kernel) (by decide +kernel)
theorem mw_208 : (.fieldLink R_Co 18 R_Co "operands" "[I" : Cond) ∈ nn_gw := nn_at 208 (by decide +kernel) (by decide +kernel)
theorem mw_209 : (.fieldLink R_Co 21 R_Co "size" "I" : Cond) ∈ nn_gw := nn_at 209 (by decide +kernel) (by decide +kernel)
theorem mw_219 : (.fieldLink R_Cm 12 R_Cm "tokens" "LNestPascal$Tokens;" : Cond) ∈ nn_gw := nn_at 219 (by decide +kernel) (by decide +kernel)
theorem mw_220 : (.fieldLink R_Cm 21 R_Cm "names" "LNestPascal$Names;" : Cond) ∈ nn_gw := nn_at 220 (by decide +kernel) (by decide +kernel)
theorem mw_221 : (.fieldLink R_Cm 28 R_Cm "made" "LNestPascal$Code;" : Cond) ∈ nn_gw := nn_at 221 (by decide +kernel) (by decide +kernel)
theorem mw_222 : (.fieldLink R_Cm 32 R_Cm "deep" "I" : Cond) ∈ nn_gw := nn_at 222 (by decide +kernel) (by decide +kernel)
theorem mw_223 : (.fieldLink R_Cm 36 R_Cm "fault" "I" : Cond) ∈ nn_gw := nn_at 223 (by decide +kernel) (by decide +kernel)
theorem mw_224 : (.fieldLink R_Cm 39 R_Cm "faultPlace" "I" : Cond) ∈ nn_gw := nn_at 224 (by decide +kernel) (by decide +kernel)
theorem mw_238 : (.classLink R_NP 24 R_Co : Cond) ∈ nn_gw := nn_at 238 (by decide +kernel) (by decide +kernel)
theorem mw_240 : (.classLink R_NP 31 R_Ma : Cond) ∈ nn_gw := nn_at 240 (by decide +kernel) (by decide +kernel)
theorem mw_241 : (.instantiable R_Ma 8 : Cond) ∈ nn_gw := nn_at 241 (by decide +kernel) (by decide +kernel)
theorem mw_243 : (.instanceMethod y_Ma_init : Cond) ∈ nn_gw := nn_at 243 (by decide +kernel) (by decide +kernel)
theorem mw_244 : (.code y_Ma_init b_Ma_init 1 none : Cond) ∈ nn_gw := nn_at 244 (by decide +kernel) (by decide +kernel)
theorem mw_245 : (.methodLink R_Ma 3 ⟨"java/lang/Object", "<init>", "()V"⟩ : Cond) ∈ nn_gw := nn_at 245 (by decide +kernel) (by decide +kernel)
theorem mw_246 : (.fieldLink R_Ma 11 R_Ma "cells" "[I" : Cond) ∈ nn_gw := nn_at 246 (by decide +kernel) (by decide +kernel)
theorem mw_247 : (.fieldLink R_Ma 15 R_Ma "outputs" "[I" : Cond) ∈ nn_gw := nn_at 247 (by decide +kernel) (by decide +kernel)
theorem mw_248 : (.fieldLink R_Ma 18 R_Ma "state" "I" : Cond) ∈ nn_gw := nn_at 248 (by decide +kernel) (by decide +kernel)
theorem mw_249 : (.fieldLink R_Ma 22 R_Ma "next" "I" : Cond) ∈ nn_gw := nn_at 249 (by decide +kernel) (by decide +kernel)
theorem mw_250 : (.fieldLink R_Ma 25 R_Ma "base" "I" : Cond) ∈ nn_gw := nn_at 250 (by decide +kernel) (by decide +kernel)
theorem mw_251 : (.fieldLink R_Ma 28 R_Ma "top" "I" : Cond) ∈ nn_gw := nn_at 251 (by decide +kernel) (by decide +kernel)
theorem mw_252 : (.fieldLink R_Ma 31 R_Ma "frames" "I" : Cond) ∈ nn_gw := nn_at 252 (by decide +kernel) (by decide +kernel)
theorem mw_253 : (.fieldLink R_Ma 34 R_Ma "outputCount" "I" : Cond) ∈ nn_gw := nn_at 253 (by decide +kernel) (by decide +kernel)
theorem mw_271 : (.fieldLink R_NP 9 R_NP "text" "[C" : Cond) ∈ nn_gw := nn_at 271 (by decide +kernel) (by decide +kernel)
theorem mw_272 : (.fieldLink R_NP 13 R_NP "textLength" "I" : Cond) ∈ nn_gw := nn_at 272 (by decide +kernel) (by decide +kernel)
theorem mw_273 : (.fieldLink R_NP 20 R_NP "compiler" "LNestPascal$Compiler;" : Cond) ∈ nn_gw := nn_at 273 (by decide +kernel) (by decide +kernel)
theorem mw_274 : (.fieldLink R_NP 27 R_NP "program" "LNestPascal$Code;" : Cond) ∈ nn_gw := nn_at 274 (by decide +kernel) (by decide +kernel)
theorem mw_275 : (.fieldLink R_NP 34 R_NP "machine" "LNestPascal$Machine;" : Cond) ∈ nn_gw := nn_at 275 (by decide +kernel) (by decide +kernel)
theorem mw_322 : (.methodLink R_Co 25 y_Co_isOne : Cond) ∈ nn_gw := nn_at 322 (by decide +kernel) (by decide +kernel)
theorem mw_324 : (.instanceMethod y_Co_isOne : Cond) ∈ nn_gw := nn_at 324 (by decide +kernel) (by decide +kernel)
theorem mw_325 : (.code y_Co_isOne b_Co_isOne 2 (some .boolean) : Cond) ∈ nn_gw := nn_at 325 (by decide +kernel) (by decide +kernel)
theorem d_Cm_init_0 : decode b_Cm_init 0 = .ok (.aload_n 0, 1) := by decide +kernel
theorem d_Cm_init_1 : decode b_Cm_init 1 = .ok (.invokespecial 3, 3) := by decide +kernel
theorem d_Cm_init_4 : decode b_Cm_init 4 = .ok (.aload_n 0, 1) := by decide +kernel
theorem d_Cm_init_5 : decode b_Cm_init 5 = .ok (.new 9, 3) := by decide +kernel
theorem d_Cm_init_8 : decode b_Cm_init 8 = .ok (.dup, 1) := by decide +kernel
theorem d_Cm_init_9 : decode b_Cm_init 9 = .ok (.invokespecial 11, 3) := by decide +kernel
theorem d_Cm_init_12 : decode b_Cm_init 12 = .ok (.putfield 12, 3) := by decide +kernel
theorem d_Cm_init_15 : decode b_Cm_init 15 = .ok (.aload_n 0, 1) := by decide +kernel
theorem d_Cm_init_16 : decode b_Cm_init 16 = .ok (.new 18, 3) := by decide +kernel
theorem d_Cm_init_19 : decode b_Cm_init 19 = .ok (.dup, 1) := by decide +kernel
theorem d_Cm_init_20 : decode b_Cm_init 20 = .ok (.invokespecial 20, 3) := by decide +kernel
theorem d_Cm_init_23 : decode b_Cm_init 23 = .ok (.putfield 21, 3) := by decide +kernel
theorem d_Cm_init_26 : decode b_Cm_init 26 = .ok (.aload_n 0, 1) := by decide +kernel
theorem d_Cm_init_27 : decode b_Cm_init 27 = .ok (.new 25, 3) := by decide +kernel
theorem d_Cm_init_30 : decode b_Cm_init 30 = .ok (.dup, 1) := by decide +kernel
theorem d_Cm_init_31 : decode b_Cm_init 31 = .ok (.invokespecial 27, 3) := by decide +kernel
theorem d_Cm_init_34 : decode b_Cm_init 34 = .ok (.putfield 28, 3) := by decide +kernel
theorem d_Cm_init_37 : decode b_Cm_init 37 = .ok (.aload_n 0, 1) := by decide +kernel
theorem d_Cm_init_38 : decode b_Cm_init 38 = .ok (.iconst 0, 1) := by decide +kernel
theorem d_Cm_init_39 : decode b_Cm_init 39 = .ok (.putfield 32, 3) := by decide +kernel
theorem d_Cm_init_42 : decode b_Cm_init 42 = .ok (.aload_n 0, 1) := by decide +kernel
theorem d_Cm_init_43 : decode b_Cm_init 43 = .ok (.iconst (-1), 1) := by decide +kernel
theorem d_Cm_init_44 : decode b_Cm_init 44 = .ok (.putfield 36, 3) := by decide +kernel
theorem d_Cm_init_47 : decode b_Cm_init 47 = .ok (.aload_n 0, 1) := by decide +kernel
theorem d_Cm_init_48 : decode b_Cm_init 48 = .ok (.iconst (-1), 1) := by decide +kernel
theorem d_Cm_init_49 : decode b_Cm_init 49 = .ok (.putfield 39, 3) := by decide +kernel
theorem d_Cm_init_52 : decode b_Cm_init 52 = .ok (.return_, 1) := by decide +kernel
theorem d_Co_init_0 : decode b_Co_init 0 = .ok (.aload_n 0, 1) := by decide +kernel
theorem d_Co_init_1 : decode b_Co_init 1 = .ok (.invokespecial 3, 3) := by decide +kernel
theorem d_Co_init_4 : decode b_Co_init 4 = .ok (.aload_n 0, 1) := by decide +kernel
theorem d_Co_init_5 : decode b_Co_init 5 = .ok (.sipush 180, 3) := by decide +kernel
theorem d_Co_init_8 : decode b_Co_init 8 = .ok (.newarray .int, 2) := by decide +kernel
theorem d_Co_init_10 : decode b_Co_init 10 = .ok (.putfield 11, 3) := by decide +kernel
theorem d_Co_init_13 : decode b_Co_init 13 = .ok (.aload_n 0, 1) := by decide +kernel
theorem d_Co_init_14 : decode b_Co_init 14 = .ok (.sipush 180, 3) := by decide +kernel
theorem d_Co_init_17 : decode b_Co_init 17 = .ok (.newarray .int, 2) := by decide +kernel
theorem d_Co_init_19 : decode b_Co_init 19 = .ok (.putfield 15, 3) := by decide +kernel
theorem d_Co_init_22 : decode b_Co_init 22 = .ok (.aload_n 0, 1) := by decide +kernel
theorem d_Co_init_23 : decode b_Co_init 23 = .ok (.sipush 180, 3) := by decide +kernel
theorem d_Co_init_26 : decode b_Co_init 26 = .ok (.newarray .int, 2) := by decide +kernel
theorem d_Co_init_28 : decode b_Co_init 28 = .ok (.putfield 18, 3) := by decide +kernel
theorem d_Co_init_31 : decode b_Co_init 31 = .ok (.aload_n 0, 1) := by decide +kernel
theorem d_Co_init_32 : decode b_Co_init 32 = .ok (.iconst 0, 1) := by decide +kernel
theorem d_Co_init_33 : decode b_Co_init 33 = .ok (.putfield 21, 3) := by decide +kernel
theorem d_Co_init_36 : decode b_Co_init 36 = .ok (.return_, 1) := by decide +kernel
theorem d_Co_isOne_0 : decode b_Co_isOne 0 = .ok (.iload_n 1, 1) := by decide +kernel
theorem d_Co_isOne_1 : decode b_Co_isOne 1 = .ok (.ifCond .lt 15, 3) := by decide +kernel
theorem d_Co_isOne_4 : decode b_Co_isOne 4 = .ok (.iload_n 1, 1) := by decide +kernel
theorem d_Co_isOne_5 : decode b_Co_isOne 5 = .ok (.aload_n 0, 1) := by decide +kernel
theorem d_Co_isOne_6 : decode b_Co_isOne 6 = .ok (.getfield 21, 3) := by decide +kernel
theorem d_Co_isOne_9 : decode b_Co_isOne 9 = .ok (.if_icmp .ge 7, 3) := by decide +kernel
theorem d_Co_isOne_16 : decode b_Co_isOne 16 = .ok (.iconst 0, 1) := by decide +kernel
theorem d_Co_isOne_17 : decode b_Co_isOne 17 = .ok (.ireturn, 1) := by decide +kernel
theorem d_Co_links_0 : decode b_Co_links 0 = .ok (.aload_n 0, 1) := by decide +kernel
theorem d_Co_links_1 : decode b_Co_links 1 = .ok (.iload_n 1, 1) := by decide +kernel
theorem d_Co_links_2 : decode b_Co_links 2 = .ok (.invokevirtual 25, 3) := by decide +kernel
theorem d_Co_links_5 : decode b_Co_links 5 = .ok (.ifCond .eq 12, 3) := by decide +kernel
theorem d_Co_links_17 : decode b_Co_links 17 = .ok (.iconst 0, 1) := by decide +kernel
theorem d_Co_links_18 : decode b_Co_links 18 = .ok (.ireturn, 1) := by decide +kernel
theorem d_Co_operand_0 : decode b_Co_operand 0 = .ok (.aload_n 0, 1) := by decide +kernel
theorem d_Co_operand_1 : decode b_Co_operand 1 = .ok (.iload_n 1, 1) := by decide +kernel
theorem d_Co_operand_2 : decode b_Co_operand 2 = .ok (.invokevirtual 25, 3) := by decide +kernel
theorem d_Co_operand_5 : decode b_Co_operand 5 = .ok (.ifCond .eq 12, 3) := by decide +kernel
theorem d_Co_operand_17 : decode b_Co_operand 17 = .ok (.iconst 0, 1) := by decide +kernel
theorem d_Co_operand_18 : decode b_Co_operand 18 = .ok (.ireturn, 1) := by decide +kernel
theorem d_Co_operation_0 : decode b_Co_operation 0 = .ok (.aload_n 0, 1) := by decide +kernel
theorem d_Co_operation_1 : decode b_Co_operation 1 = .ok (.iload_n 1, 1) := by decide +kernel
theorem d_Co_operation_2 : decode b_Co_operation 2 = .ok (.invokevirtual 25, 3) := by decide +kernel
theorem d_Co_operation_5 : decode b_Co_operation 5 = .ok (.ifCond .eq 12, 3) := by decide +kernel
theorem d_Co_operation_17 : decode b_Co_operation 17 = .ok (.iconst 0, 1) := by decide +kernel
theorem d_Co_operation_18 : decode b_Co_operation 18 = .ok (.ireturn, 1) := by decide +kernel
theorem d_Co_size_0 : decode b_Co_size 0 = .ok (.aload_n 0, 1) := by decide +kernel
theorem d_Co_size_1 : decode b_Co_size 1 = .ok (.getfield 21, 3) := by decide +kernel
theorem d_Co_size_4 : decode b_Co_size 4 = .ok (.ireturn, 1) := by decide +kernel
theorem d_Ma_init_0 : decode b_Ma_init 0 = .ok (.aload_n 0, 1) := by decide +kernel
theorem d_Ma_init_1 : decode b_Ma_init 1 = .ok (.invokespecial 3, 3) := by decide +kernel
theorem d_Ma_init_4 : decode b_Ma_init 4 = .ok (.aload_n 0, 1) := by decide +kernel
theorem d_Ma_init_5 : decode b_Ma_init 5 = .ok (.sipush 200, 3) := by decide +kernel
theorem d_Ma_init_8 : decode b_Ma_init 8 = .ok (.newarray .int, 2) := by decide +kernel
theorem d_Ma_init_10 : decode b_Ma_init 10 = .ok (.putfield 11, 3) := by decide +kernel
theorem d_Ma_init_13 : decode b_Ma_init 13 = .ok (.aload_n 0, 1) := by decide +kernel
theorem d_Ma_init_14 : decode b_Ma_init 14 = .ok (.bipush 8, 2) := by decide +kernel
theorem d_Ma_init_16 : decode b_Ma_init 16 = .ok (.newarray .int, 2) := by decide +kernel
theorem d_Ma_init_18 : decode b_Ma_init 18 = .ok (.putfield 15, 3) := by decide +kernel
theorem d_Ma_init_21 : decode b_Ma_init 21 = .ok (.aload_n 0, 1) := by decide +kernel
theorem d_Ma_init_22 : decode b_Ma_init 22 = .ok (.iconst 0, 1) := by decide +kernel
theorem d_Ma_init_23 : decode b_Ma_init 23 = .ok (.putfield 18, 3) := by decide +kernel
theorem d_Ma_init_26 : decode b_Ma_init 26 = .ok (.aload_n 0, 1) := by decide +kernel
theorem d_Ma_init_27 : decode b_Ma_init 27 = .ok (.iconst 0, 1) := by decide +kernel
theorem d_Ma_init_28 : decode b_Ma_init 28 = .ok (.putfield 22, 3) := by decide +kernel
theorem d_Ma_init_31 : decode b_Ma_init 31 = .ok (.aload_n 0, 1) := by decide +kernel
theorem d_Ma_init_32 : decode b_Ma_init 32 = .ok (.iconst 0, 1) := by decide +kernel
theorem d_Ma_init_33 : decode b_Ma_init 33 = .ok (.putfield 25, 3) := by decide +kernel
theorem d_Ma_init_36 : decode b_Ma_init 36 = .ok (.aload_n 0, 1) := by decide +kernel
theorem d_Ma_init_37 : decode b_Ma_init 37 = .ok (.iconst (-1), 1) := by decide +kernel
theorem d_Ma_init_38 : decode b_Ma_init 38 = .ok (.putfield 28, 3) := by decide +kernel
theorem d_Ma_init_41 : decode b_Ma_init 41 = .ok (.aload_n 0, 1) := by decide +kernel
theorem d_Ma_init_42 : decode b_Ma_init 42 = .ok (.iconst 0, 1) := by decide +kernel
theorem d_Ma_init_43 : decode b_Ma_init 43 = .ok (.putfield 31, 3) := by decide +kernel
theorem d_Ma_init_46 : decode b_Ma_init 46 = .ok (.aload_n 0, 1) := by decide +kernel
theorem d_Ma_init_47 : decode b_Ma_init 47 = .ok (.iconst 0, 1) := by decide +kernel
theorem d_Ma_init_48 : decode b_Ma_init 48 = .ok (.putfield 34, 3) := by decide +kernel
theorem d_Ma_init_51 : decode b_Ma_init 51 = .ok (.return_, 1) := by decide +kernel
theorem d_NP_init_0 : decode b_NP_init 0 = .ok (.aload_n 0, 1) := by decide +kernel
theorem d_NP_init_1 : decode b_NP_init 1 = .ok (.invokespecial 1, 3) := by decide +kernel
theorem d_NP_init_4 : decode b_NP_init 4 = .ok (.aload_n 0, 1) := by decide +kernel
theorem d_NP_init_5 : decode b_NP_init 5 = .ok (.sipush 180, 3) := by decide +kernel
theorem d_NP_init_8 : decode b_NP_init 8 = .ok (.newarray .char, 2) := by decide +kernel
theorem d_NP_init_10 : decode b_NP_init 10 = .ok (.putfield 9, 3) := by decide +kernel
theorem d_NP_init_13 : decode b_NP_init 13 = .ok (.aload_n 0, 1) := by decide +kernel
theorem d_NP_init_14 : decode b_NP_init 14 = .ok (.iconst 0, 1) := by decide +kernel
theorem d_NP_init_15 : decode b_NP_init 15 = .ok (.putfield 13, 3) := by decide +kernel
theorem d_NP_init_18 : decode b_NP_init 18 = .ok (.aload_n 0, 1) := by decide +kernel
theorem d_NP_init_19 : decode b_NP_init 19 = .ok (.new 17, 3) := by decide +kernel
theorem d_NP_init_22 : decode b_NP_init 22 = .ok (.dup, 1) := by decide +kernel
theorem d_NP_init_23 : decode b_NP_init 23 = .ok (.invokespecial 19, 3) := by decide +kernel
theorem d_NP_init_26 : decode b_NP_init 26 = .ok (.putfield 20, 3) := by decide +kernel
theorem d_NP_init_29 : decode b_NP_init 29 = .ok (.aload_n 0, 1) := by decide +kernel
theorem d_NP_init_30 : decode b_NP_init 30 = .ok (.new 24, 3) := by decide +kernel
theorem d_NP_init_33 : decode b_NP_init 33 = .ok (.dup, 1) := by decide +kernel
theorem d_NP_init_34 : decode b_NP_init 34 = .ok (.invokespecial 26, 3) := by decide +kernel
theorem d_NP_init_37 : decode b_NP_init 37 = .ok (.putfield 27, 3) := by decide +kernel
theorem d_NP_init_40 : decode b_NP_init 40 = .ok (.aload_n 0, 1) := by decide +kernel
theorem d_NP_init_41 : decode b_NP_init 41 = .ok (.new 31, 3) := by decide +kernel
theorem d_NP_init_44 : decode b_NP_init 44 = .ok (.dup, 1) := by decide +kernel
theorem d_NP_init_45 : decode b_NP_init 45 = .ok (.invokespecial 33, 3) := by decide +kernel
theorem d_NP_init_48 : decode b_NP_init 48 = .ok (.putfield 34, 3) := by decide +kernel
theorem d_NP_init_51 : decode b_NP_init 51 = .ok (.return_, 1) := by decide +kernel
theorem d_Nm_init_0 : decode b_Nm_init 0 = .ok (.aload_n 0, 1) := by decide +kernel
theorem d_Nm_init_1 : decode b_Nm_init 1 = .ok (.invokespecial 1, 3) := by decide +kernel
theorem d_Nm_init_4 : decode b_Nm_init 4 = .ok (.aload_n 0, 1) := by decide +kernel
theorem d_Nm_init_5 : decode b_Nm_init 5 = .ok (.iconst 0, 1) := by decide +kernel
theorem d_Nm_init_6 : decode b_Nm_init 6 = .ok (.putfield 7, 3) := by decide +kernel
theorem d_Nm_init_9 : decode b_Nm_init 9 = .ok (.aload_n 0, 1) := by decide +kernel
theorem d_Nm_init_10 : decode b_Nm_init 10 = .ok (.iconst 0, 1) := by decide +kernel
theorem d_Nm_init_11 : decode b_Nm_init 11 = .ok (.putfield 13, 3) := by decide +kernel
theorem d_Nm_init_14 : decode b_Nm_init 14 = .ok (.aload_n 0, 1) := by decide +kernel
theorem d_Nm_init_15 : decode b_Nm_init 15 = .ok (.iconst 0, 1) := by decide +kernel
theorem d_Nm_init_16 : decode b_Nm_init 16 = .ok (.putfield 16, 3) := by decide +kernel
theorem d_Nm_init_19 : decode b_Nm_init 19 = .ok (.aload_n 0, 1) := by decide +kernel
theorem d_Nm_init_20 : decode b_Nm_init 20 = .ok (.iconst 0, 1) := by decide +kernel
theorem d_Nm_init_21 : decode b_Nm_init 21 = .ok (.putfield 19, 3) := by decide +kernel
theorem d_Nm_init_24 : decode b_Nm_init 24 = .ok (.aload_n 0, 1) := by decide +kernel
theorem d_Nm_init_25 : decode b_Nm_init 25 = .ok (.iconst 0, 1) := by decide +kernel
theorem d_Nm_init_26 : decode b_Nm_init 26 = .ok (.putfield 22, 3) := by decide +kernel
theorem d_Nm_init_29 : decode b_Nm_init 29 = .ok (.return_, 1) := by decide +kernel
theorem d_Ns_init_0 : decode b_Ns_init 0 = .ok (.aload_n 0, 1) := by decide +kernel
theorem d_Ns_init_1 : decode b_Ns_init 1 = .ok (.invokespecial 3, 3) := by decide +kernel
theorem d_Ns_init_4 : decode b_Ns_init 4 = .ok (.aload_n 0, 1) := by decide +kernel
theorem d_Ns_init_5 : decode b_Ns_init 5 = .ok (.bipush 90, 2) := by decide +kernel
theorem d_Ns_init_7 : decode b_Ns_init 7 = .ok (.anewarray 11, 3) := by decide +kernel
theorem d_Ns_init_10 : decode b_Ns_init 10 = .ok (.putfield 13, 3) := by decide +kernel
theorem d_Ns_init_13 : decode b_Ns_init 13 = .ok (.aload_n 0, 1) := by decide +kernel
theorem d_Ns_init_14 : decode b_Ns_init 14 = .ok (.iconst 0, 1) := by decide +kernel
theorem d_Ns_init_15 : decode b_Ns_init 15 = .ok (.putfield 17, 3) := by decide +kernel
theorem d_Ns_init_18 : decode b_Ns_init 18 = .ok (.aload_n 0, 1) := by decide +kernel
theorem d_Ns_init_19 : decode b_Ns_init 19 = .ok (.iconst 5, 1) := by decide +kernel
theorem d_Ns_init_20 : decode b_Ns_init 20 = .ok (.newarray .int, 2) := by decide +kernel
theorem d_Ns_init_22 : decode b_Ns_init 22 = .ok (.putfield 21, 3) := by decide +kernel
theorem d_Ns_init_25 : decode b_Ns_init 25 = .ok (.aload_n 0, 1) := by decide +kernel
theorem d_Ns_init_26 : decode b_Ns_init 26 = .ok (.iconst 0, 1) := by decide +kernel
theorem d_Ns_init_27 : decode b_Ns_init 27 = .ok (.putfield 25, 3) := by decide +kernel
theorem d_Ns_init_30 : decode b_Ns_init 30 = .ok (.iconst 0, 1) := by decide +kernel
theorem d_Ns_init_31 : decode b_Ns_init 31 = .ok (.istore_n 1, 1) := by decide +kernel
theorem d_Ns_init_32 : decode b_Ns_init 32 = .ok (.iload_n 1, 1) := by decide +kernel
theorem d_Ns_init_33 : decode b_Ns_init 33 = .ok (.bipush 90, 2) := by decide +kernel
theorem d_Ns_init_35 : decode b_Ns_init 35 = .ok (.if_icmp .ge 22, 3) := by decide +kernel
theorem d_Ns_init_38 : decode b_Ns_init 38 = .ok (.aload_n 0, 1) := by decide +kernel
theorem d_Ns_init_39 : decode b_Ns_init 39 = .ok (.getfield 13, 3) := by decide +kernel
theorem d_Ns_init_42 : decode b_Ns_init 42 = .ok (.iload_n 1, 1) := by decide +kernel
theorem d_Ns_init_43 : decode b_Ns_init 43 = .ok (.new 11, 3) := by decide +kernel
theorem d_Ns_init_46 : decode b_Ns_init 46 = .ok (.dup, 1) := by decide +kernel
theorem d_Ns_init_47 : decode b_Ns_init 47 = .ok (.invokespecial 28, 3) := by decide +kernel
theorem d_Ns_init_50 : decode b_Ns_init 50 = .ok (.aastore, 1) := by decide +kernel
theorem d_Ns_init_51 : decode b_Ns_init 51 = .ok (.iinc 1 1, 3) := by decide +kernel
theorem d_Ns_init_54 : decode b_Ns_init 54 = .ok (.goto (-22), 3) := by decide +kernel
theorem d_Ns_init_57 : decode b_Ns_init 57 = .ok (.return_, 1) := by decide +kernel
theorem d_Ts_init_0 : decode b_Ts_init 0 = .ok (.aload_n 0, 1) := by decide +kernel
theorem d_Ts_init_1 : decode b_Ts_init 1 = .ok (.invokespecial 3, 3) := by decide +kernel
theorem d_Ts_init_4 : decode b_Ts_init 4 = .ok (.aload_n 0, 1) := by decide +kernel
theorem d_Ts_init_5 : decode b_Ts_init 5 = .ok (.sipush 181, 3) := by decide +kernel
theorem d_Ts_init_8 : decode b_Ts_init 8 = .ok (.anewarray 11, 3) := by decide +kernel
theorem d_Ts_init_11 : decode b_Ts_init 11 = .ok (.putfield 13, 3) := by decide +kernel
theorem d_Ts_init_14 : decode b_Ts_init 14 = .ok (.aload_n 0, 1) := by decide +kernel
theorem d_Ts_init_15 : decode b_Ts_init 15 = .ok (.sipush 181, 3) := by decide +kernel
theorem d_Ts_init_18 : decode b_Ts_init 18 = .ok (.newarray .int, 2) := by decide +kernel
theorem d_Ts_init_20 : decode b_Ts_init 20 = .ok (.putfield 17, 3) := by decide +kernel
theorem d_Ts_init_23 : decode b_Ts_init 23 = .ok (.aload_n 0, 1) := by decide +kernel
theorem d_Ts_init_24 : decode b_Ts_init 24 = .ok (.sipush 181, 3) := by decide +kernel
theorem d_Ts_init_27 : decode b_Ts_init 27 = .ok (.newarray .int, 2) := by decide +kernel
theorem d_Ts_init_29 : decode b_Ts_init 29 = .ok (.putfield 21, 3) := by decide +kernel
theorem d_Ts_init_32 : decode b_Ts_init 32 = .ok (.aload_n 0, 1) := by decide +kernel
theorem d_Ts_init_33 : decode b_Ts_init 33 = .ok (.iconst 0, 1) := by decide +kernel
theorem d_Ts_init_34 : decode b_Ts_init 34 = .ok (.putfield 24, 3) := by decide +kernel
theorem d_Ts_init_37 : decode b_Ts_init 37 = .ok (.aload_n 0, 1) := by decide +kernel
theorem d_Ts_init_38 : decode b_Ts_init 38 = .ok (.iconst 0, 1) := by decide +kernel
theorem d_Ts_init_39 : decode b_Ts_init 39 = .ok (.putfield 28, 3) := by decide +kernel
theorem d_Ts_init_42 : decode b_Ts_init 42 = .ok (.return_, 1) := by decide +kernel
