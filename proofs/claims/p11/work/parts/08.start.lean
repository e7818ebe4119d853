/-! the start at the script: all premises hold there (by wip/whole/mkstart.py) -/
theorem rf_code_vm {c : Jvm.Cond} {a : Array Value} {s t : State} (hc : su_isCode c = true) (hv : t.vm = s.vm) (h : c.before a s = true) : c.before a t = true := by
  cases c <;> simp only [su_isCode, Bool.false_eq_true] at hc
  revert h
  simp only [Cond.before, Cond.holds, Cond.value, State.methodNamed?, hv]
  exact id
set_option maxRecDepth 100000 in
theorem rf_o_1_0 : ((tables_1_1).take 40).all (fun c => su_isCode c || c.before start1.args0 (start1.aboutOf rf_sc)) = true := by decide +kernel
set_option maxRecDepth 100000 in
theorem rf_o_1_1 : (((tables_1_1).drop 40).take 40).all (fun c => su_isCode c || c.before start1.args0 (start1.aboutOf rf_sc)) = true := by decide +kernel
set_option maxRecDepth 100000 in
theorem rf_o_1_2 : ((((tables_1_1).drop 40).drop 40).take 40).all (fun c => su_isCode c || c.before start1.args0 (start1.aboutOf rf_sc)) = true := by decide +kernel
set_option maxRecDepth 100000 in
theorem rf_o_1_3 : (((((tables_1_1).drop 40).drop 40).drop 40).take 40).all (fun c => su_isCode c || c.before start1.args0 (start1.aboutOf rf_sc)) = true := by decide +kernel
set_option maxRecDepth 100000 in
theorem rf_o_1_4 : ((((((tables_1_1).drop 40).drop 40).drop 40).drop 40).take 40).all (fun c => su_isCode c || c.before start1.args0 (start1.aboutOf rf_sc)) = true := by decide +kernel
set_option maxRecDepth 100000 in
theorem rf_o_1_5 : ((((((tables_1_1).drop 40).drop 40).drop 40).drop 40).drop 40).all (fun c => su_isCode c || c.before start1.args0 (start1.aboutOf rf_sc)) = true := by decide +kernel
theorem rf_w_1 : ∀ c ∈ tables_1_1, c.before start1.args0 (start1.aboutOf rf_sc) = true := fun c h => su_words (start1.su_all_split _ 40 (tables_1_1) rf_o_1_0 (start1.su_all_split _ 40 ((tables_1_1).drop 40) rf_o_1_1 (start1.su_all_split _ 40 (((tables_1_1).drop 40).drop 40) rf_o_1_2 (start1.su_all_split _ 40 ((((tables_1_1).drop 40).drop 40).drop 40) rf_o_1_3 (start1.su_all_split _ 40 (((((tables_1_1).drop 40).drop 40).drop 40).drop 40) rf_o_1_4 (rf_o_1_5)))))) (fun c hc => rf_code_vm (s := start1.about) (List.mem_filter.mp hc).2 rfl (start1.codes_hold_1 c hc)) c h
set_option maxRecDepth 100000 in
theorem rf_o_2_0 : ((tables_1_2).take 40).all (fun c => su_isCode c || c.before start1.args0 (start1.aboutOf rf_sc)) = true := by decide +kernel
set_option maxRecDepth 100000 in
theorem rf_o_2_1 : (((tables_1_2).drop 40).take 40).all (fun c => su_isCode c || c.before start1.args0 (start1.aboutOf rf_sc)) = true := by decide +kernel
set_option maxRecDepth 100000 in
theorem rf_o_2_2 : ((((tables_1_2).drop 40).drop 40).take 40).all (fun c => su_isCode c || c.before start1.args0 (start1.aboutOf rf_sc)) = true := by decide +kernel
set_option maxRecDepth 100000 in
theorem rf_o_2_3 : (((((tables_1_2).drop 40).drop 40).drop 40).take 40).all (fun c => su_isCode c || c.before start1.args0 (start1.aboutOf rf_sc)) = true := by decide +kernel
set_option maxRecDepth 100000 in
theorem rf_o_2_4 : ((((((tables_1_2).drop 40).drop 40).drop 40).drop 40).take 40).all (fun c => su_isCode c || c.before start1.args0 (start1.aboutOf rf_sc)) = true := by decide +kernel
set_option maxRecDepth 100000 in
theorem rf_o_2_5 : (((((((tables_1_2).drop 40).drop 40).drop 40).drop 40).drop 40).take 40).all (fun c => su_isCode c || c.before start1.args0 (start1.aboutOf rf_sc)) = true := by decide +kernel
set_option maxRecDepth 100000 in
theorem rf_o_2_6 : ((((((((tables_1_2).drop 40).drop 40).drop 40).drop 40).drop 40).drop 40).take 40).all (fun c => su_isCode c || c.before start1.args0 (start1.aboutOf rf_sc)) = true := by decide +kernel
set_option maxRecDepth 100000 in
theorem rf_o_2_7 : ((((((((tables_1_2).drop 40).drop 40).drop 40).drop 40).drop 40).drop 40).drop 40).all (fun c => su_isCode c || c.before start1.args0 (start1.aboutOf rf_sc)) = true := by decide +kernel
theorem rf_w_2 : ∀ c ∈ tables_1_2, c.before start1.args0 (start1.aboutOf rf_sc) = true := fun c h => su_words (start1.su_all_split _ 40 (tables_1_2) rf_o_2_0 (start1.su_all_split _ 40 ((tables_1_2).drop 40) rf_o_2_1 (start1.su_all_split _ 40 (((tables_1_2).drop 40).drop 40) rf_o_2_2 (start1.su_all_split _ 40 ((((tables_1_2).drop 40).drop 40).drop 40) rf_o_2_3 (start1.su_all_split _ 40 (((((tables_1_2).drop 40).drop 40).drop 40).drop 40) rf_o_2_4 (start1.su_all_split _ 40 ((((((tables_1_2).drop 40).drop 40).drop 40).drop 40).drop 40) rf_o_2_5 (start1.su_all_split _ 40 (((((((tables_1_2).drop 40).drop 40).drop 40).drop 40).drop 40).drop 40) rf_o_2_6 (rf_o_2_7)))))))) (fun c hc => rf_code_vm (s := start1.about) (List.mem_filter.mp hc).2 rfl (start1.codes_hold_2 c hc)) c h
set_option maxRecDepth 100000 in
theorem rf_o_3_0 : ((tables_1_3).take 40).all (fun c => su_isCode c || c.before start1.args0 (start1.aboutOf rf_sc)) = true := by decide +kernel
set_option maxRecDepth 100000 in
theorem rf_o_3_1 : (((tables_1_3).drop 40).take 40).all (fun c => su_isCode c || c.before start1.args0 (start1.aboutOf rf_sc)) = true := by decide +kernel
set_option maxRecDepth 100000 in
theorem rf_o_3_2 : ((((tables_1_3).drop 40).drop 40).take 40).all (fun c => su_isCode c || c.before start1.args0 (start1.aboutOf rf_sc)) = true := by decide +kernel
set_option maxRecDepth 100000 in
theorem rf_o_3_3 : (((((tables_1_3).drop 40).drop 40).drop 40).take 40).all (fun c => su_isCode c || c.before start1.args0 (start1.aboutOf rf_sc)) = true := by decide +kernel
set_option maxRecDepth 100000 in
theorem rf_o_3_4 : ((((((tables_1_3).drop 40).drop 40).drop 40).drop 40).take 40).all (fun c => su_isCode c || c.before start1.args0 (start1.aboutOf rf_sc)) = true := by decide +kernel
set_option maxRecDepth 100000 in
theorem rf_o_3_5 : ((((((tables_1_3).drop 40).drop 40).drop 40).drop 40).drop 40).all (fun c => su_isCode c || c.before start1.args0 (start1.aboutOf rf_sc)) = true := by decide +kernel
theorem rf_w_3 : ∀ c ∈ tables_1_3, c.before start1.args0 (start1.aboutOf rf_sc) = true := fun c h => su_words (start1.su_all_split _ 40 (tables_1_3) rf_o_3_0 (start1.su_all_split _ 40 ((tables_1_3).drop 40) rf_o_3_1 (start1.su_all_split _ 40 (((tables_1_3).drop 40).drop 40) rf_o_3_2 (start1.su_all_split _ 40 ((((tables_1_3).drop 40).drop 40).drop 40) rf_o_3_3 (start1.su_all_split _ 40 (((((tables_1_3).drop 40).drop 40).drop 40).drop 40) rf_o_3_4 (rf_o_3_5)))))) (fun c hc => rf_code_vm (s := start1.about) (List.mem_filter.mp hc).2 rfl (start1.codes_hold_3 c hc)) c h
set_option maxRecDepth 100000 in
theorem rf_o_4_0 : ((tables_1_4).take 40).all (fun c => su_isCode c || c.before start1.args0 (start1.aboutOf rf_sc)) = true := by decide +kernel
set_option maxRecDepth 100000 in
theorem rf_o_4_1 : (((tables_1_4).drop 40).take 40).all (fun c => su_isCode c || c.before start1.args0 (start1.aboutOf rf_sc)) = true := by decide +kernel
set_option maxRecDepth 100000 in
theorem rf_o_4_2 : ((((tables_1_4).drop 40).drop 40).take 40).all (fun c => su_isCode c || c.before start1.args0 (start1.aboutOf rf_sc)) = true := by decide +kernel
set_option maxRecDepth 100000 in
theorem rf_o_4_3 : (((((tables_1_4).drop 40).drop 40).drop 40).take 40).all (fun c => su_isCode c || c.before start1.args0 (start1.aboutOf rf_sc)) = true := by decide +kernel
set_option maxRecDepth 100000 in
theorem rf_o_4_4 : ((((((tables_1_4).drop 40).drop 40).drop 40).drop 40).take 40).all (fun c => su_isCode c || c.before start1.args0 (start1.aboutOf rf_sc)) = true := by decide +kernel
set_option maxRecDepth 100000 in
theorem rf_o_4_5 : ((((((tables_1_4).drop 40).drop 40).drop 40).drop 40).drop 40).all (fun c => su_isCode c || c.before start1.args0 (start1.aboutOf rf_sc)) = true := by decide +kernel
theorem rf_w_4 : ∀ c ∈ tables_1_4, c.before start1.args0 (start1.aboutOf rf_sc) = true := fun c h => su_words (start1.su_all_split _ 40 (tables_1_4) rf_o_4_0 (start1.su_all_split _ 40 ((tables_1_4).drop 40) rf_o_4_1 (start1.su_all_split _ 40 (((tables_1_4).drop 40).drop 40) rf_o_4_2 (start1.su_all_split _ 40 ((((tables_1_4).drop 40).drop 40).drop 40) rf_o_4_3 (start1.su_all_split _ 40 (((((tables_1_4).drop 40).drop 40).drop 40).drop 40) rf_o_4_4 (rf_o_4_5)))))) (fun c hc => rf_code_vm (s := start1.about) (List.mem_filter.mp hc).2 rfl (start1.codes_hold_4 c hc)) c h
set_option maxRecDepth 100000 in
theorem rf_o_5_0 : ((tables_1_5).take 40).all (fun c => su_isCode c || c.before start1.args0 (start1.aboutOf rf_sc)) = true := by decide +kernel
set_option maxRecDepth 100000 in
theorem rf_o_5_1 : (((tables_1_5).drop 40).take 40).all (fun c => su_isCode c || c.before start1.args0 (start1.aboutOf rf_sc)) = true := by decide +kernel
set_option maxRecDepth 100000 in
theorem rf_o_5_2 : ((((tables_1_5).drop 40).drop 40).take 40).all (fun c => su_isCode c || c.before start1.args0 (start1.aboutOf rf_sc)) = true := by decide +kernel
set_option maxRecDepth 100000 in
theorem rf_o_5_3 : (((((tables_1_5).drop 40).drop 40).drop 40).take 40).all (fun c => su_isCode c || c.before start1.args0 (start1.aboutOf rf_sc)) = true := by decide +kernel
set_option maxRecDepth 100000 in
theorem rf_o_5_4 : ((((((tables_1_5).drop 40).drop 40).drop 40).drop 40).take 40).all (fun c => su_isCode c || c.before start1.args0 (start1.aboutOf rf_sc)) = true := by decide +kernel
set_option maxRecDepth 100000 in
theorem rf_o_5_5 : ((((((tables_1_5).drop 40).drop 40).drop 40).drop 40).drop 40).all (fun c => su_isCode c || c.before start1.args0 (start1.aboutOf rf_sc)) = true := by decide +kernel
theorem rf_w_5 : ∀ c ∈ tables_1_5, c.before start1.args0 (start1.aboutOf rf_sc) = true := fun c h => su_words (start1.su_all_split _ 40 (tables_1_5) rf_o_5_0 (start1.su_all_split _ 40 ((tables_1_5).drop 40) rf_o_5_1 (start1.su_all_split _ 40 (((tables_1_5).drop 40).drop 40) rf_o_5_2 (start1.su_all_split _ 40 ((((tables_1_5).drop 40).drop 40).drop 40) rf_o_5_3 (start1.su_all_split _ 40 (((((tables_1_5).drop 40).drop 40).drop 40).drop 40) rf_o_5_4 (rf_o_5_5)))))) (fun c hc => rf_code_vm (s := start1.about) (List.mem_filter.mp hc).2 rfl (start1.codes_hold_5 c hc)) c h
theorem rf_words : ∀ c ∈ (Cond.code x code maxLocals ret :: tables_1), c.before start1.args0 (start1.aboutOf rf_sc) = true := by
  intro c hc
  rcases List.mem_cons.mp hc with h | h
  · rw [h]; exact rf_code_vm (s := start1.about) rfl rfl start1.word_code
  · have h1 : c ∈ tables_1_1 ++ (tables_1_2 ++ (tables_1_3 ++ (tables_1_4 ++ (tables_1_5)))) := h
    rcases List.mem_append.mp h1 with h2 | h1
    · exact rf_w_1 c h2
    rcases List.mem_append.mp h1 with h2 | h1
    · exact rf_w_2 c h2
    rcases List.mem_append.mp h1 with h2 | h1
    · exact rf_w_3 c h2
    rcases List.mem_append.mp h1 with h2 | h1
    · exact rf_w_4 c h2
    exact rf_w_5 c h1
set_option maxRecDepth 100000 in
theorem rf_atStart : AtStart classFile x code maxLocals ret World_1 tables_1 room_1 Calls_1 rest_1 Pre_1 launch0 start1.p0 start1.e0 (start1.aboutOf rf_sc) ⟨0, 0⟩ start1.args0 Lib.HandBits.below0 := by
  obtain ⟨h1, h2, h3, h4, h5, h6, -, -, -, -, h7, -, -⟩ := start1.atStart
  refine ⟨h1, h2, h3, h4, h5, h6, rfl, by decide +kernel, by decide +kernel, (Spec.applies_iff rfl).mpr ⟨rfl, rfl, rfl, by decide +kernel, by decide +kernel, by decide +kernel, ?_, atoms_intro rf_words⟩, h7, ?_, ?_⟩
  · exact launch0.hasRoom_least _ room_1 (by decide +kernel) (by decide +kernel) (by decide +kernel) (by decide +kernel) (by decide +kernel) (by decide +kernel)
  · show rest_1_c.before start1.args0 (start1.aboutOf rf_sc) = true
    decide +kernel
  · show (Cond.and given_1 narrow_1).before start1.args0 (start1.aboutOf rf_sc) = true
    decide +kernel
