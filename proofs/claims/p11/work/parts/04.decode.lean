/-! the table is what decode says, at the start (by wip/whole/mk.py) -/
set_option maxRecDepth 100000 in
theorem rf_T0 : List.all [(615, rf_m_9_39), (1216, rf_m_19_0), (384, rf_m_6_0), (1285, rf_m_20_5), (320, rf_m_5_0)] (rf_chk (start1.aboutOf rf_sc)) = true := by decide +kernel
set_option maxRecDepth 100000 in
theorem rf_T1 : List.all [(577, rf_m_9_1)] (rf_chk (start1.aboutOf rf_sc)) = true := by decide +kernel
set_option maxRecDepth 100000 in
theorem rf_T2 : List.all [(583, rf_m_9_7)] (rf_chk (start1.aboutOf rf_sc)) = true := by decide +kernel
set_option maxRecDepth 100000 in
theorem rf_T3 : List.all [(1284, rf_m_20_4)] (rf_chk (start1.aboutOf rf_sc)) = true := by decide +kernel
set_option maxRecDepth 100000 in
theorem rf_T4 : List.all [(612, rf_m_9_36)] (rf_chk (start1.aboutOf rf_sc)) = true := by decide +kernel
set_option maxRecDepth 100000 in
theorem rf_T5 : List.all [(139, rf_m_2_11), (768, rf_m_12_0), (267, rf_m_4_11), (704, rf_m_11_0), (129, rf_m_2_1), (591, rf_m_9_15), (706, rf_m_11_2)] (rf_chk (start1.aboutOf rf_sc)) = true := by decide +kernel
set_option maxRecDepth 100000 in
theorem rf_T6 : List.all [(705, rf_m_11_1), (707, rf_m_11_3), (832, rf_m_13_0)] (rf_chk (start1.aboutOf rf_sc)) = true := by decide +kernel
set_option maxRecDepth 100000 in
theorem rf_T7 : List.all [(0, rf_m_0_0), (140, rf_m_2_12)] (rf_chk (start1.aboutOf rf_sc)) = true := by decide +kernel
set_option maxRecDepth 100000 in
theorem rf_T8 : List.all [(265, rf_m_4_9), (708, rf_m_11_4), (257, rf_m_4_1), (269, rf_m_4_13), (264, rf_m_4_8), (579, rf_m_9_3)] (rf_chk (start1.aboutOf rf_sc)) = true := by decide +kernel
set_option maxRecDepth 100000 in
theorem rf_T9 : List.all [(451, rf_m_7_3), (268, rf_m_4_12), (590, rf_m_9_14), (611, rf_m_9_35)] (rf_chk (start1.aboutOf rf_sc)) = true := by decide +kernel
set_option maxRecDepth 100000 in
theorem rf_T10 : List.all [(520, rf_m_8_8), (64, rf_m_1_0), (457, rf_m_7_9), (576, rf_m_9_0), (263, rf_m_4_7), (259, rf_m_4_3)] (rf_chk (start1.aboutOf rf_sc)) = true := by decide +kernel
set_option maxRecDepth 100000 in
theorem rf_T11 : List.all [(625, rf_m_9_49), (266, rf_m_4_10), (626, rf_m_9_50), (578, rf_m_9_2), (134, rf_m_2_6)] (rf_chk (start1.aboutOf rf_sc)) = true := by decide +kernel
set_option maxRecDepth 100000 in
theorem rf_T12 : List.all [(197, rf_m_3_5), (582, rf_m_9_6), (513, rf_m_8_1)] (rf_chk (start1.aboutOf rf_sc)) = true := by decide +kernel
set_option maxRecDepth 100000 in
theorem rf_T13 : List.all [(597, rf_m_9_21), (448, rf_m_7_0), (960, rf_m_15_0), (223, rf_m_3_31), (630, rf_m_9_54), (453, rf_m_7_5), (580, rf_m_9_4)] (rf_chk (start1.aboutOf rf_sc)) = true := by decide +kernel
set_option maxRecDepth 100000 in
theorem rf_T14 : List.all [(196, rf_m_3_4), (454, rf_m_7_6), (455, rf_m_7_7), (456, rf_m_7_8), (519, rf_m_8_7), (512, rf_m_8_0), (192, rf_m_3_0)] (rf_chk (start1.aboutOf rf_sc)) = true := by decide +kernel
set_option maxRecDepth 100000 in
theorem rf_T15 : List.all [(128, rf_m_2_0), (130, rf_m_2_2), (584, rf_m_9_8), (258, rf_m_4_2), (619, rf_m_9_43), (216, rf_m_3_24), (621, rf_m_9_45), (256, rf_m_4_0)] (rf_chk (start1.aboutOf rf_sc)) = true := by decide +kernel
set_option maxRecDepth 100000 in
theorem rf_T16 : List.all [(205, rf_m_3_13), (218, rf_m_3_26), (515, rf_m_8_3), (523, rf_m_8_11), (606, rf_m_9_30), (522, rf_m_8_10), (601, rf_m_9_25), (586, rf_m_9_10), (616, rf_m_9_40), (521, rf_m_8_9), (618, rf_m_9_42)] (rf_chk (start1.aboutOf rf_sc)) = true := by decide +kernel
set_option maxRecDepth 100000 in
theorem rf_T17 : List.all [(595, rf_m_9_19), (605, rf_m_9_29), (607, rf_m_9_31), (204, rf_m_3_12), (531, rf_m_8_19), (217, rf_m_3_25), (581, rf_m_9_5), (526, rf_m_8_14), (530, rf_m_8_18), (452, rf_m_7_4), (534, rf_m_8_22)] (rf_chk (start1.aboutOf rf_sc)) = true := by decide +kernel
set_option maxRecDepth 100000 in
theorem rf_T18 : List.all [(533, rf_m_8_21), (1282, rf_m_20_2), (1281, rf_m_20_1), (2, rf_m_0_2), (1, rf_m_0_1), (133, rf_m_2_5), (514, rf_m_8_2), (602, rf_m_9_26), (321, rf_m_5_1), (640, rf_m_10_0), (262, rf_m_4_6), (450, rf_m_7_2), (138, rf_m_2_10), (594, rf_m_9_18), (449, rf_m_7_1), (195, rf_m_3_3)] (rf_chk (start1.aboutOf rf_sc)) = true := by decide +kernel
theorem rf_T : ∀ x ∈ rf_M, rf_chk (start1.aboutOf rf_sc) x = true := by
  intro x hx
  have h : x ∈ [(615, rf_m_9_39), (1216, rf_m_19_0), (384, rf_m_6_0), (1285, rf_m_20_5), (320, rf_m_5_0)] ++ ([(577, rf_m_9_1)] ++ ([(583, rf_m_9_7)] ++ ([(1284, rf_m_20_4)] ++ ([(612, rf_m_9_36)] ++ ([(139, rf_m_2_11), (768, rf_m_12_0), (267, rf_m_4_11), (704, rf_m_11_0), (129, rf_m_2_1), (591, rf_m_9_15), (706, rf_m_11_2)] ++ ([(705, rf_m_11_1), (707, rf_m_11_3), (832, rf_m_13_0)] ++ ([(0, rf_m_0_0), (140, rf_m_2_12)] ++ ([(265, rf_m_4_9), (708, rf_m_11_4), (257, rf_m_4_1), (269, rf_m_4_13), (264, rf_m_4_8), (579, rf_m_9_3)] ++ ([(451, rf_m_7_3), (268, rf_m_4_12), (590, rf_m_9_14), (611, rf_m_9_35)] ++ ([(520, rf_m_8_8), (64, rf_m_1_0), (457, rf_m_7_9), (576, rf_m_9_0), (263, rf_m_4_7), (259, rf_m_4_3)] ++ ([(625, rf_m_9_49), (266, rf_m_4_10), (626, rf_m_9_50), (578, rf_m_9_2), (134, rf_m_2_6)] ++ ([(197, rf_m_3_5), (582, rf_m_9_6), (513, rf_m_8_1)] ++ ([(597, rf_m_9_21), (448, rf_m_7_0), (960, rf_m_15_0), (223, rf_m_3_31), (630, rf_m_9_54), (453, rf_m_7_5), (580, rf_m_9_4)] ++ ([(196, rf_m_3_4), (454, rf_m_7_6), (455, rf_m_7_7), (456, rf_m_7_8), (519, rf_m_8_7), (512, rf_m_8_0), (192, rf_m_3_0)] ++ ([(128, rf_m_2_0), (130, rf_m_2_2), (584, rf_m_9_8), (258, rf_m_4_2), (619, rf_m_9_43), (216, rf_m_3_24), (621, rf_m_9_45), (256, rf_m_4_0)] ++ ([(205, rf_m_3_13), (218, rf_m_3_26), (515, rf_m_8_3), (523, rf_m_8_11), (606, rf_m_9_30), (522, rf_m_8_10), (601, rf_m_9_25), (586, rf_m_9_10), (616, rf_m_9_40), (521, rf_m_8_9), (618, rf_m_9_42)] ++ ([(595, rf_m_9_19), (605, rf_m_9_29), (607, rf_m_9_31), (204, rf_m_3_12), (531, rf_m_8_19), (217, rf_m_3_25), (581, rf_m_9_5), (526, rf_m_8_14), (530, rf_m_8_18), (452, rf_m_7_4), (534, rf_m_8_22)] ++ ([(533, rf_m_8_21), (1282, rf_m_20_2), (1281, rf_m_20_1), (2, rf_m_0_2), (1, rf_m_0_1), (133, rf_m_2_5), (514, rf_m_8_2), (602, rf_m_9_26), (321, rf_m_5_1), (640, rf_m_10_0), (262, rf_m_4_6), (450, rf_m_7_2), (138, rf_m_2_10), (594, rf_m_9_18), (449, rf_m_7_1), (195, rf_m_3_3)])))))))))))))))))) := hx
  rcases List.mem_append.mp h with h | h
  · exact List.all_eq_true.mp rf_T0 x h
  rcases List.mem_append.mp h with h | h
  · exact List.all_eq_true.mp rf_T1 x h
  rcases List.mem_append.mp h with h | h
  · exact List.all_eq_true.mp rf_T2 x h
  rcases List.mem_append.mp h with h | h
  · exact List.all_eq_true.mp rf_T3 x h
  rcases List.mem_append.mp h with h | h
  · exact List.all_eq_true.mp rf_T4 x h
  rcases List.mem_append.mp h with h | h
  · exact List.all_eq_true.mp rf_T5 x h
  rcases List.mem_append.mp h with h | h
  · exact List.all_eq_true.mp rf_T6 x h
  rcases List.mem_append.mp h with h | h
  · exact List.all_eq_true.mp rf_T7 x h
  rcases List.mem_append.mp h with h | h
  · exact List.all_eq_true.mp rf_T8 x h
  rcases List.mem_append.mp h with h | h
  · exact List.all_eq_true.mp rf_T9 x h
  rcases List.mem_append.mp h with h | h
  · exact List.all_eq_true.mp rf_T10 x h
  rcases List.mem_append.mp h with h | h
  · exact List.all_eq_true.mp rf_T11 x h
  rcases List.mem_append.mp h with h | h
  · exact List.all_eq_true.mp rf_T12 x h
  rcases List.mem_append.mp h with h | h
  · exact List.all_eq_true.mp rf_T13 x h
  rcases List.mem_append.mp h with h | h
  · exact List.all_eq_true.mp rf_T14 x h
  rcases List.mem_append.mp h with h | h
  · exact List.all_eq_true.mp rf_T15 x h
  rcases List.mem_append.mp h with h | h
  · exact List.all_eq_true.mp rf_T16 x h
  rcases List.mem_append.mp h with h | h
  · exact List.all_eq_true.mp rf_T17 x h
  exact List.all_eq_true.mp rf_T18 x h
theorem rf_I0 : rf_Inv (start1.aboutOf rf_sc) := fun x hx => rf_chk_of (rf_T x hx)
