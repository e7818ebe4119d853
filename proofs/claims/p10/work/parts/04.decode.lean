/-! the table is what decode says, at the start (by wip/whole/mk.py) -/
set_option maxRecDepth 100000 in
theorem rf_T0 : List.all [(1285, rf_m_20_5), (1284, rf_m_20_4), (1216, rf_m_19_0), (704, rf_m_11_0)] (rf_chk (start1.aboutOf rf_sc)) = true := by decide +kernel
set_option maxRecDepth 100000 in
theorem rf_T1 : List.all [(577, rf_m_9_1), (706, rf_m_11_2), (768, rf_m_12_0), (705, rf_m_11_1), (707, rf_m_11_3), (832, rf_m_13_0), (384, rf_m_6_0)] (rf_chk (start1.aboutOf rf_sc)) = true := by decide +kernel
set_option maxRecDepth 100000 in
theorem rf_T2 : List.all [(139, rf_m_2_11), (708, rf_m_11_4)] (rf_chk (start1.aboutOf rf_sc)) = true := by decide +kernel
set_option maxRecDepth 100000 in
theorem rf_T3 : List.all [(583, rf_m_9_7)] (rf_chk (start1.aboutOf rf_sc)) = true := by decide +kernel
set_option maxRecDepth 100000 in
theorem rf_T4 : List.all [(267, rf_m_4_11), (320, rf_m_5_0), (591, rf_m_9_15), (129, rf_m_2_1)] (rf_chk (start1.aboutOf rf_sc)) = true := by decide +kernel
set_option maxRecDepth 100000 in
theorem rf_T5 : List.all [(257, rf_m_4_1), (265, rf_m_4_9), (264, rf_m_4_8)] (rf_chk (start1.aboutOf rf_sc)) = true := by decide +kernel
set_option maxRecDepth 100000 in
theorem rf_T6 : List.all [(612, rf_m_9_36), (140, rf_m_2_12), (269, rf_m_4_13)] (rf_chk (start1.aboutOf rf_sc)) = true := by decide +kernel
set_option maxRecDepth 100000 in
theorem rf_T7 : List.all [(0, rf_m_0_0)] (rf_chk (start1.aboutOf rf_sc)) = true := by decide +kernel
set_option maxRecDepth 100000 in
theorem rf_T8 : List.all [(266, rf_m_4_10), (263, rf_m_4_7), (268, rf_m_4_12), (520, rf_m_8_8), (451, rf_m_7_3)] (rf_chk (start1.aboutOf rf_sc)) = true := by decide +kernel
set_option maxRecDepth 100000 in
theorem rf_T9 : List.all [(582, rf_m_9_6), (259, rf_m_4_3), (579, rf_m_9_3), (457, rf_m_7_9), (218, rf_m_3_26), (960, rf_m_15_0), (216, rf_m_3_24)] (rf_chk (start1.aboutOf rf_sc)) = true := by decide +kernel
set_option maxRecDepth 100000 in
theorem rf_T10 : List.all [(611, rf_m_9_35), (258, rf_m_4_2), (578, rf_m_9_2), (134, rf_m_2_6), (223, rf_m_3_31), (607, rf_m_9_31), (217, rf_m_3_25), (580, rf_m_9_4), (64, rf_m_1_0), (592, rf_m_9_16)] (rf_chk (start1.aboutOf rf_sc)) = true := by decide +kernel
set_option maxRecDepth 100000 in
theorem rf_T11 : List.all [(594, rf_m_9_18), (1282, rf_m_20_2), (1281, rf_m_20_1), (605, rf_m_9_29), (454, rf_m_7_6), (455, rf_m_7_7)] (rf_chk (start1.aboutOf rf_sc)) = true := by decide +kernel
set_option maxRecDepth 100000 in
theorem rf_T12 : List.all [(456, rf_m_7_8), (576, rf_m_9_0), (533, rf_m_8_21), (584, rf_m_9_8), (222, rf_m_3_30), (523, rf_m_8_11)] (rf_chk (start1.aboutOf rf_sc)) = true := by decide +kernel
set_option maxRecDepth 100000 in
theorem rf_T13 : List.all [(515, rf_m_8_3), (521, rf_m_8_9), (197, rf_m_3_5), (590, rf_m_9_14), (534, rf_m_8_22)] (rf_chk (start1.aboutOf rf_sc)) = true := by decide +kernel
set_option maxRecDepth 100000 in
theorem rf_T14 : List.all [(589, rf_m_9_13), (513, rf_m_8_1), (531, rf_m_8_19), (600, rf_m_9_24)] (rf_chk (start1.aboutOf rf_sc)) = true := by decide +kernel
set_option maxRecDepth 100000 in
theorem rf_T15 : List.all [(205, rf_m_3_13), (597, rf_m_9_21), (532, rf_m_8_20), (260, rf_m_4_4), (448, rf_m_7_0), (262, rf_m_4_6), (522, rf_m_8_10)] (rf_chk (start1.aboutOf rf_sc)) = true := by decide +kernel
set_option maxRecDepth 100000 in
theorem rf_T16 : List.all [(527, rf_m_8_15), (328, rf_m_5_8), (640, rf_m_10_0), (587, rf_m_9_11), (453, rf_m_7_5)] (rf_chk (start1.aboutOf rf_sc)) = true := by decide +kernel
set_option maxRecDepth 100000 in
theorem rf_T17 : List.all [(196, rf_m_3_4), (204, rf_m_3_12), (512, rf_m_8_0), (199, rf_m_3_7), (326, rf_m_5_6)] (rf_chk (start1.aboutOf rf_sc)) = true := by decide +kernel
set_option maxRecDepth 100000 in
theorem rf_T18 : List.all [(192, rf_m_3_0), (206, rf_m_3_14), (526, rf_m_8_14), (528, rf_m_8_16), (128, rf_m_2_0), (130, rf_m_2_2)] (rf_chk (start1.aboutOf rf_sc)) = true := by decide +kernel
set_option maxRecDepth 100000 in
theorem rf_T19 : List.all [(208, rf_m_3_16), (588, rf_m_9_12), (201, rf_m_3_9), (626, rf_m_9_50), (256, rf_m_4_0), (518, rf_m_8_6), (581, rf_m_9_5)] (rf_chk (start1.aboutOf rf_sc)) = true := by decide +kernel
set_option maxRecDepth 100000 in
theorem rf_T20 : List.all [(200, rf_m_3_8), (198, rf_m_3_6), (220, rf_m_3_28), (595, rf_m_9_19), (221, rf_m_3_29), (629, rf_m_9_53), (524, rf_m_8_12), (261, rf_m_4_5), (961, rf_m_15_1), (452, rf_m_7_4), (207, rf_m_3_15)] (rf_chk (start1.aboutOf rf_sc)) = true := by decide +kernel
set_option maxRecDepth 100000 in
theorem rf_T21 : List.all [(585, rf_m_9_9), (2, rf_m_0_2), (530, rf_m_8_18), (1, rf_m_0_1), (133, rf_m_2_5), (514, rf_m_8_2), (327, rf_m_5_7), (586, rf_m_9_10), (616, rf_m_9_40), (321, rf_m_5_1), (601, rf_m_9_25), (450, rf_m_7_2), (137, rf_m_2_9), (449, rf_m_7_1), (322, rf_m_5_2), (195, rf_m_3_3)] (rf_chk (start1.aboutOf rf_sc)) = true := by decide +kernel
theorem rf_T : ∀ x ∈ rf_M, rf_chk (start1.aboutOf rf_sc) x = true := by
  intro x hx
  have h : x ∈ [(1285, rf_m_20_5), (1284, rf_m_20_4), (1216, rf_m_19_0), (704, rf_m_11_0)] ++ ([(577, rf_m_9_1), (706, rf_m_11_2), (768, rf_m_12_0), (705, rf_m_11_1), (707, rf_m_11_3), (832, rf_m_13_0), (384, rf_m_6_0)] ++ ([(139, rf_m_2_11), (708, rf_m_11_4)] ++ ([(583, rf_m_9_7)] ++ ([(267, rf_m_4_11), (320, rf_m_5_0), (591, rf_m_9_15), (129, rf_m_2_1)] ++ ([(257, rf_m_4_1), (265, rf_m_4_9), (264, rf_m_4_8)] ++ ([(612, rf_m_9_36), (140, rf_m_2_12), (269, rf_m_4_13)] ++ ([(0, rf_m_0_0)] ++ ([(266, rf_m_4_10), (263, rf_m_4_7), (268, rf_m_4_12), (520, rf_m_8_8), (451, rf_m_7_3)] ++ ([(582, rf_m_9_6), (259, rf_m_4_3), (579, rf_m_9_3), (457, rf_m_7_9), (218, rf_m_3_26), (960, rf_m_15_0), (216, rf_m_3_24)] ++ ([(611, rf_m_9_35), (258, rf_m_4_2), (578, rf_m_9_2), (134, rf_m_2_6), (223, rf_m_3_31), (607, rf_m_9_31), (217, rf_m_3_25), (580, rf_m_9_4), (64, rf_m_1_0), (592, rf_m_9_16)] ++ ([(594, rf_m_9_18), (1282, rf_m_20_2), (1281, rf_m_20_1), (605, rf_m_9_29), (454, rf_m_7_6), (455, rf_m_7_7)] ++ ([(456, rf_m_7_8), (576, rf_m_9_0), (533, rf_m_8_21), (584, rf_m_9_8), (222, rf_m_3_30), (523, rf_m_8_11)] ++ ([(515, rf_m_8_3), (521, rf_m_8_9), (197, rf_m_3_5), (590, rf_m_9_14), (534, rf_m_8_22)] ++ ([(589, rf_m_9_13), (513, rf_m_8_1), (531, rf_m_8_19), (600, rf_m_9_24)] ++ ([(205, rf_m_3_13), (597, rf_m_9_21), (532, rf_m_8_20), (260, rf_m_4_4), (448, rf_m_7_0), (262, rf_m_4_6), (522, rf_m_8_10)] ++ ([(527, rf_m_8_15), (328, rf_m_5_8), (640, rf_m_10_0), (587, rf_m_9_11), (453, rf_m_7_5)] ++ ([(196, rf_m_3_4), (204, rf_m_3_12), (512, rf_m_8_0), (199, rf_m_3_7), (326, rf_m_5_6)] ++ ([(192, rf_m_3_0), (206, rf_m_3_14), (526, rf_m_8_14), (528, rf_m_8_16), (128, rf_m_2_0), (130, rf_m_2_2)] ++ ([(208, rf_m_3_16), (588, rf_m_9_12), (201, rf_m_3_9), (626, rf_m_9_50), (256, rf_m_4_0), (518, rf_m_8_6), (581, rf_m_9_5)] ++ ([(200, rf_m_3_8), (198, rf_m_3_6), (220, rf_m_3_28), (595, rf_m_9_19), (221, rf_m_3_29), (629, rf_m_9_53), (524, rf_m_8_12), (261, rf_m_4_5), (961, rf_m_15_1), (452, rf_m_7_4), (207, rf_m_3_15)] ++ ([(585, rf_m_9_9), (2, rf_m_0_2), (530, rf_m_8_18), (1, rf_m_0_1), (133, rf_m_2_5), (514, rf_m_8_2), (327, rf_m_5_7), (586, rf_m_9_10), (616, rf_m_9_40), (321, rf_m_5_1), (601, rf_m_9_25), (450, rf_m_7_2), (137, rf_m_2_9), (449, rf_m_7_1), (322, rf_m_5_2), (195, rf_m_3_3)]))))))))))))))))))))) := hx
  rcases List.mem_append.mp h with h | h
  · exact List.all_eq_true.mp rf_T0 x h
  rcases List.mem_append.mp h with h | h
  · exact List.all_eq_true.mp rf_T1 x h
  rcases List.mem_append.mp h with h | h
  · exact List.all_eq_true.mp rf_T2 x h
  rcases List.mem_append.mp h with h | h
  · exact List.all_eq_true.mp rf_T3 x h
  rcases List.mem_append.mp h with h | h
  · exact List.all_eq_true.mp rf_T4 x h
  rcases List.mem_append.mp h with h | h
  · exact List.all_eq_true.mp rf_T5 x h
  rcases List.mem_append.mp h with h | h
  · exact List.all_eq_true.mp rf_T6 x h
  rcases List.mem_append.mp h with h | h
  · exact List.all_eq_true.mp rf_T7 x h
  rcases List.mem_append.mp h with h | h
  · exact List.all_eq_true.mp rf_T8 x h
  rcases List.mem_append.mp h with h | h
  · exact List.all_eq_true.mp rf_T9 x h
  rcases List.mem_append.mp h with h | h
  · exact List.all_eq_true.mp rf_T10 x h
  rcases List.mem_append.mp h with h | h
  · exact List.all_eq_true.mp rf_T11 x h
  rcases List.mem_append.mp h with h | h
  · exact List.all_eq_true.mp rf_T12 x h
  rcases List.mem_append.mp h with h | h
  · exact List.all_eq_true.mp rf_T13 x h
  rcases List.mem_append.mp h with h | h
  · exact List.all_eq_true.mp rf_T14 x h
  rcases List.mem_append.mp h with h | h
  · exact List.all_eq_true.mp rf_T15 x h
  rcases List.mem_append.mp h with h | h
  · exact List.all_eq_true.mp rf_T16 x h
  rcases List.mem_append.mp h with h | h
  · exact List.all_eq_true.mp rf_T17 x h
  rcases List.mem_append.mp h with h | h
  · exact List.all_eq_true.mp rf_T18 x h
  rcases List.mem_append.mp h with h | h
  · exact List.all_eq_true.mp rf_T19 x h
  rcases List.mem_append.mp h with h | h
  · exact List.all_eq_true.mp rf_T20 x h
  exact List.all_eq_true.mp rf_T21 x h
theorem rf_I0 : rf_Inv (start1.aboutOf rf_sc) := fun x hx => rf_chk_of (rf_T x hx)
