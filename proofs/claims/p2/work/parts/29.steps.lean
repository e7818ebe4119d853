/-! the tasks of a body, one by one -/
def q_e1 (u : Int32) : Nat := if u = 0 ∨ u = 2 ∨ u = 12 ∨ u = 23 then 1 else 0
def q_t1 (u : Int32) : Nat := if u = 14 then 5 else if u = 16 then 3 else if u = 0 then 2 else 1
theorem q_CB.L {x : nM} {Γ : q_G} {nb ty a b0 n nm md b d : Nat} {t : q_Ty} {E : Nat → Prop} (h : q_CB x Γ nb ty a b0 n nm md b t d E) : q_L x n nm md 1 := ⟨ty, a, b0, h.1, h.2.2.2.2.2.2.2.2.1, h.2.2.1, h.2.2.2.1, h.2.2.2.2.1⟩
theorem q_CB.le {x : nM} {Γ : q_G} {nb ty a b0 n nm md b d : Nat} {t : q_Ty} {E : Nat → Prop} (h : q_CB x Γ nb ty a b0 n nm md b t d E) : a ≤ 180 ∧ d ≤ 6 ∧ g_l Γ b ≤ 4 ∧ b < nb ∧ nm ≤ 91 ∧ a ≤ ty := by
  obtain ⟨g1, g2, g3, g4, g5, g6, g7, g8, g9, g10, g11, g12, g13, g14⟩ := h
  obtain ⟨-, t2, -, -, t5, t6, -⟩ := g1
  exact ⟨by omega, g8, (g11.2.2.2 b g10).2.2.1, g10, by omega, by omega⟩
theorem FR_w {x y : nM} {Γ Δ : q_G} {nb n md : Nat} (h : q_FR x y Γ Δ nb n md) : q_we y n = q_we x n ∧ q_wt y n = q_wt x n := ⟨q_we.eq n (fun j hj => (h.1 j hj).1), q_wt.eq n (fun j hj => (h.1 j hj).1)⟩
theorem B_push2 {x : nM} {Γ : q_G} {nb ty a b0 n nm md b d : Nat} {t : q_Ty} {E : Nat → Prop} (h : q_CB x Γ nb ty a b0 n nm md b t d E) (hn : n + 1 < 260) (u1 f1 g1 u2 f2 g2 : Int32) :
    ∃ y, m_push (m_push x u1 f1 g1) u2 f2 g2 = y ∧ q_CB y Γ nb ty a b0 (n + 2) nm md b t d E ∧ q_FR x y Γ Γ nb n md ∧ (y.2 12 n = u1 ∧ y.2 13 n = f1 ∧ y.2 14 n = g1) ∧ (y.2 12 (n + 1) = u2 ∧ y.2 13 (n + 1) = f2 ∧ y.2 14 (n + 1) = g2) ∧ q_we y (n + 2) = q_e1 u2 + (q_e1 u1 + q_we x n) ∧ q_wt y (n + 2) = q_t1 u2 + (q_t1 u1 + q_wt x n) := by
  obtain ⟨a1, a2, a3, a4, a5⟩ := B_push h (by omega) u1 f1 g1
  obtain ⟨c1, c2, c3, c4, c5⟩ := B_push a1 hn u2 f2 g2
  refine ⟨_, rfl, c1, a2.tr c2 (by omega) (Nat.le_refl _), ?_, ⟨c3, c4, c5⟩, ?_, ?_⟩
  · obtain ⟨k1, k2, k3⟩ := c2.1 n (by omega)
    exact ⟨k1.trans a3, k2.trans a4, k3.trans a5⟩
  · rw [q_we, c3, q_we, (c2.1 n (by omega)).1, a3, (FR_w (a2.tr c2 (by omega) (Nat.le_refl _))).1]; rfl
  · rw [q_wt, c3, q_wt, (c2.1 n (by omega)).1, a3, (FR_w (a2.tr c2 (by omega) (Nat.le_refl _))).2]; rfl
theorem B_push3 {x : nM} {Γ : q_G} {nb ty a b0 n nm md b d : Nat} {t : q_Ty} {E : Nat → Prop} (h : q_CB x Γ nb ty a b0 n nm md b t d E) (hn : n + 2 < 260) (u1 f1 g1 u2 f2 g2 u3 f3 g3 : Int32) :
    ∃ y, m_push (m_push (m_push x u1 f1 g1) u2 f2 g2) u3 f3 g3 = y ∧ q_CB y Γ nb ty a b0 (n + 3) nm md b t d E ∧ q_FR x y Γ Γ nb n md ∧ (y.2 12 n = u1 ∧ y.2 13 n = f1 ∧ y.2 14 n = g1) ∧ (y.2 12 (n + 1) = u2 ∧ y.2 13 (n + 1) = f2 ∧ y.2 14 (n + 1) = g2) ∧ (y.2 12 (n + 2) = u3 ∧ y.2 13 (n + 2) = f3 ∧ y.2 14 (n + 2) = g3) ∧
    q_we y (n + 3) = q_e1 u3 + (q_e1 u2 + (q_e1 u1 + q_we x n)) ∧ q_wt y (n + 3) = q_t1 u3 + (q_t1 u2 + (q_t1 u1 + q_wt x n)) := by
  obtain ⟨z, ez, a1, a2, a3, a4, a5, a6⟩ := B_push2 h (by omega) u1 f1 g1 u2 f2 g2
  obtain ⟨c1, c2, c3, c4, c5⟩ := B_push a1 hn u3 f3 g3
  rw [ez]
  refine ⟨_, rfl, c1, a2.tr c2 (by omega) (Nat.le_refl _), ?_, ?_, ⟨c3, c4, c5⟩, ?_, ?_⟩
  · obtain ⟨k1, k2, k3⟩ := c2.1 n (by omega)
    exact ⟨k1.trans a3.1, k2.trans a3.2.1, k3.trans a3.2.2⟩
  · obtain ⟨k1, k2, k3⟩ := c2.1 (n + 1) (by omega)
    exact ⟨k1.trans a4.1, k2.trans a4.2.1, k3.trans a4.2.2⟩
  · rw [q_we, c3, (FR_w c2).1, a5]; rfl
  · rw [q_wt, c3, (FR_w c2).2, a6]; rfl
theorem q_E0 {E : Nat → Prop} {y : nM} {n md : Nat} (h : ∀ i, ¬ E i) : ∀ i, i < md → E i → q_pd y n i := fun i _ q => absurd q (h i)
/-- EXPRESSION -/
theorem S_14 {x : nM} {Γ : q_G} {nb ty a b0 n nm md b d ns r : Nat} {t : q_Ty} {E : Nat → Prop} (h : q_CB x Γ nb ty a b0 n nm md b t d E) (h0 : ∀ i, ¬ E i) (hs : ns ≤ nm) (hn : n ≤ 5 + 2 * g_l Γ b + 5 * d) (hT : q_TS Γ nb x md (md + 1) a n (b, 2, none :: t, d, ns)) (hw : md + q_we x n ≤ 2 * a + 3) (hr : 5 + q_wt x n + 8 * (ty - a) ≤ r + 1) :
    o_expression x ∧ q_SR (m_expression x) ty r := by
  obtain ⟨ha, hd, hl, hb, hnm, hat⟩ := h.le
  have hL := h.L
  obtain ⟨o1, l1⟩ := L_push hL (by omega) 15 0 0
  rw [o_expression, m_expression]
  have ru16 : ∀ (y : nM) (md' a' k : Nat), k ≤ n + 2 → q_ru Γ y md' (md' + 1) a' k 16 0 0 (b, 2, t, d, ns) (b, 2, none :: t, d, ns) := fun y md' a' k hk => ⟨rfl, by show k ≤ 7 + 2 * g_l Γ b + 5 * d; omega, rfl⟩
  have ru15 : ∀ (y : nM) (md' a' : Nat), q_ru Γ y md' (md' + 1) a' n 15 0 0 (b, 2, none :: t, d, ns) (b, 2, none :: t, d, ns) := fun y md' a' => ⟨rfl, ⟨t, rfl⟩, hn, rfl⟩
  have e3 : (m_push x 15 0 0).1 3 = x.1 3 := f_push _ _ _ _ 3 (by decide)
  by_cases c : x.1 3 = 45
  · rw [if_pos (by rw [e3]; exact c)]
    obtain ⟨o2, l2⟩ := L_goOn l1
    obtain ⟨o3, l3⟩ := L_push l2 (by omega) 23 144 1
    obtain ⟨o4, l4⟩ := L_push l3 (by omega) 16 0 0
    refine ⟨⟨o1, fun _ => ⟨o2, o3, o4, trivial⟩, fun q => absurd (by rw [e3]; exact c) q⟩, ?_⟩
    rw [k_expression_31]
    obtain ⟨p1, p2, p3, p4, p5⟩ := B_push h (show n < 260 by omega) 15 0 0
    obtain ⟨a', b', q1, q2, q3, q4⟩ := B_goOn p1
    have hp := q3 (by rw [e3, c]; decide)
    obtain ⟨y, ey, r1, r2, r3, r4, r5, r6⟩ := B_push2 q1 (show n + 1 + 1 < 260 by omega) 23 144 1 16 0 0
    rw [ey]
    have fr : q_FR x y Γ Γ nb n md := (p2.tr q4 (by omega) (Nat.le_refl _)).tr r2 (by omega) (Nat.le_refl _)
    have f15 : y.2 12 n = 15 ∧ y.2 13 n = 0 ∧ y.2 14 n = 0 := by
      obtain ⟨k1, k2, k3⟩ := (q4.tr r2 (Nat.le_refl _) (Nat.le_refl _)).1 n (by omega)
      exact ⟨k1.trans p3, k2.trans p4, k3.trans p5⟩
    have T0 := FR_TS fr (Nat.le_refl _) (show a ≤ a' by omega) hT
    have T1 : q_TS Γ nb y md (md + 1) a' (n + 1) (b, 2, none :: t, d, ns) := TS_cons hb (by decide) f15.1 (by rw [f15.2.1, f15.2.2]; exact ru15 y md a') T0
    have T2 : q_TS Γ nb y md (md + 1) a' (n + 2) (b, 2, none :: t, d, ns) := TS_cons (kd := 23) hb (by decide) r3.1 (by rw [r3.2.1, r3.2.2]; exact ⟨rfl, (by show n + 1 ≤ 8 + 2 * g_l Γ b + 5 * d; omega), 9, 0, none :: t, by decide, by decide, rfl, Or.inr (Or.inr (Or.inr (Or.inr (Or.inr (Or.inl ⟨rfl, rfl, none, t, rfl, rfl⟩))))), rfl⟩) T1
    have T3 : q_TS Γ nb y md (md + 1) a' (n + 3) (b, 2, t, d, ns) := TS_cons (kd := 16) hb (by decide) r4.1 (by rw [r4.2.1, r4.2.2]; exact ru16 y md a' (n + 2) (Nat.le_refl _)) T2
    have ww : q_we (m_goOn (m_push x 15 0 0)) (n + 1) = 0 + q_we x n := by
      rw [(FR_w q4).1, q_we, p3, (FR_w p2).1]; rfl
    have wt : q_wt (m_goOn (m_push x 15 0 0)) (n + 1) = 1 + q_wt x n := by
      rw [(FR_w q4).2, q_wt, p3, (FR_w p2).2]; rfl
    refine CB_CI r1 (q_E0 h0) hs T3 ?_ ?_
    · rw [show n + 1 + 2 = n + 1 + 2 from rfl, r5, ww]
      show md + (0 + (1 + (0 + q_we x n))) ≤ _
      omega
    · rw [r6, wt]
      show 3 + (1 + (1 + q_wt x n)) + 8 * (ty - a') ≤ r
      have := q1.le
      omega
  · rw [if_neg (by rw [e3]; exact c)]
    obtain ⟨o4, l4⟩ := L_push l1 (by omega) 16 0 0
    refine ⟨⟨o1, fun q => absurd (by rw [← e3]; exact q) c, fun _ => ⟨o4, trivial⟩⟩, ?_⟩
    rw [k_expression_31]
    obtain ⟨y, ey, r1, r2, r3, r4, r5, r6⟩ := B_push2 h (show n + 1 < 260 by omega) 15 0 0 16 0 0
    rw [ey]
    have T0 := FR_TS r2 (Nat.le_refl _) (Nat.le_refl a) hT
    have T1 : q_TS Γ nb y md (md + 1) a (n + 1) (b, 2, none :: t, d, ns) := TS_cons hb (by decide) r3.1 (by rw [r3.2.1, r3.2.2]; exact ru15 y md a) T0
    have T3 : q_TS Γ nb y md (md + 1) a (n + 2) (b, 2, t, d, ns) := TS_cons (kd := 16) hb (by decide) r4.1 (by rw [r4.2.1, r4.2.2]; exact ru16 y md a (n + 1) (by omega)) T1
    refine CB_CI r1 (q_E0 h0) hs T3 ?_ ?_
    · rw [r5]; show md + (0 + (0 + q_we x n)) ≤ _; omega
    · rw [r6]; show 3 + (1 + q_wt x n) + 8 * (ty - a) ≤ r; omega
/-- TERM -/
theorem S_16 {x : nM} {Γ : q_G} {nb ty a b0 n nm md b d ns r : Nat} {t : q_Ty} {E : Nat → Prop} (h : q_CB x Γ nb ty a b0 n nm md b t d E) (h0 : ∀ i, ¬ E i) (hs : ns ≤ nm) (hn : n ≤ 7 + 2 * g_l Γ b + 5 * d) (hT : q_TS Γ nb x md (md + 1) a n (b, 2, none :: t, d, ns)) (hw : md + q_we x n ≤ 2 * a + 3) (hr : 3 + q_wt x n + 8 * (ty - a) ≤ r + 1) :
    (o_push x 17 0 0 ∧ o_push (m_push x 17 0 0) 18 0 0 ∧ True) ∧ q_SR (m_push (m_push x 17 0 0) 18 0 0) ty r := by
  obtain ⟨ha, hd, hl, hb, hnm, hat⟩ := h.le
  obtain ⟨o1, l1⟩ := L_push h.L (by omega) 17 0 0
  obtain ⟨o2, l2⟩ := L_push l1 (by omega) 18 0 0
  refine ⟨⟨o1, o2, trivial⟩, ?_⟩
  obtain ⟨y, ey, r1, r2, r3, r4, r5, r6⟩ := B_push2 h (show n + 1 < 260 by omega) 17 0 0 18 0 0
  rw [ey]
  have T0 := FR_TS r2 (Nat.le_refl _) (Nat.le_refl a) hT
  have T1 : q_TS Γ nb y md (md + 1) a (n + 1) (b, 2, none :: t, d, ns) := TS_cons (kd := 17) hb (by decide) r3.1 ⟨rfl, ⟨t, rfl⟩, hn, rfl⟩ T0
  have T3 : q_TS Γ nb y md (md + 1) a (n + 2) (b, 2, t, d, ns) := TS_cons (kd := 18) hb (by decide) r4.1 ⟨rfl, (by show n + 1 ≤ 9 + 2 * g_l Γ b + 5 * d; omega), rfl⟩ T1
  refine CB_CI r1 (q_E0 h0) hs T3 ?_ ?_
  · rw [r5]; show md + (0 + (0 + q_we x n)) ≤ _; omega
  · rw [r6]; show 1 + (1 + q_wt x n) + 8 * (ty - a) ≤ r; omega
/-- a sign between two terms or factors -/
theorem S_33 {x : nM} {Γ : q_G} {nb ty a b0 n nm md b d ns r K P k : Nat} {t : q_Ty} {E : Nat → Prop} (h : q_CB x Γ nb ty a b0 n nm md b (none :: t) d E) (h0 : ∀ i, ¬ E i) (hs : ns ≤ nm) (hK : (K = 15 ∧ P = 16 ∧ n ≤ 5 + 2 * g_l Γ b + 5 * d) ∨ (K = 17 ∧ P = 18 ∧ n ≤ 7 + 2 * g_l Γ b + 5 * d)) (hk : 2 ≤ k ∧ k ≤ 9) (h3 : x.1 3 ≠ 0)
    (hT : q_TS Γ nb x md (md + 1) a n (b, 2, none :: t, d, ns)) (hw : md + q_we x n ≤ 2 * a + 3) (hr : 1 + q_wt x n + 8 * (ty - a) ≤ r + 1) : p_chain_33 x (nI K) (nI P) (nI k) ∧ q_SR (k_chain_33 x (nI K) (nI P) (nI k)) ty r := by
  obtain ⟨ha, hd, hl, hb, hnm, hat⟩ := h.le
  have hn : n ≤ 50 := by omega
  obtain ⟨o1, l1⟩ := L_goOn h.L
  obtain ⟨o2, l2⟩ := L_push l1 (by omega) (nI K) 0 0
  obtain ⟨o3, l3⟩ := L_push l2 (by omega) 23 144 (nI k)
  obtain ⟨o4, l4⟩ := L_push l3 (by omega) (nI P) 0 0
  refine ⟨⟨o1, o2, o3, o4, trivial⟩, ?_⟩
  rw [k_chain_33]
  obtain ⟨a', b', q1, q2, q3, q4⟩ := B_goOn h
  have hp := q3 h3
  obtain ⟨y, ey, r1, r2, r3, r4, r5, r6, r7⟩ := B_push3 q1 (show n + 2 < 260 by omega) (nI K) 0 0 23 144 (nI k) (nI P) 0 0
  rw [ey]
  have fr : q_FR x y Γ Γ nb n md := q4.tr r2 (Nat.le_refl _) (Nat.le_refl _)
  have T0 := FR_TS fr (Nat.le_refl _) (show a ≤ a' by omega) hT
  have T1 : q_TS Γ nb y md (md + 1) a' (n + 1) (b, 2, none :: t, d, ns) := by
    rcases hK with ⟨rfl, -, h5⟩ | ⟨rfl, -, h5⟩
    · exact TS_cons (kd := 15) hb (by decide) r3.1 ⟨rfl, ⟨t, rfl⟩, h5, rfl⟩ T0
    · exact TS_cons (kd := 17) hb (by decide) r3.1 ⟨rfl, ⟨t, rfl⟩, h5, rfl⟩ T0
  have T2 : q_TS Γ nb y md (md + 1) a' (n + 2) (b, 2, none :: none :: t, d, ns) := TS_cons (kd := 23) hb (by decide) r4.1 (by rw [r4.2.1, r4.2.2]; exact ⟨rfl, (by show n + 1 ≤ 8 + 2 * g_l Γ b + 5 * d; omega), 9, 0, none :: t, by decide, by decide, rfl, Or.inr (Or.inr (Or.inr (Or.inr (Or.inr (Or.inr (Or.inr (Or.inl ⟨rfl, ⟨k, hk.1, hk.2, rfl⟩, none, none, t, rfl, rfl⟩))))))), rfl⟩) T1
  have T3 : q_TS Γ nb y md (md + 1) a' (n + 3) (b, 2, none :: t, d, ns) := by
    rcases hK with ⟨-, rfl, h5⟩ | ⟨-, rfl, h5⟩
    · exact TS_cons (kd := 16) hb (by decide) r5.1 ⟨rfl, (by show n + 2 ≤ 7 + 2 * g_l Γ b + 5 * d; omega), rfl⟩ T2
    · exact TS_cons (kd := 18) hb (by decide) r5.1 ⟨rfl, (by show n + 2 ≤ 9 + 2 * g_l Γ b + 5 * d; omega), rfl⟩ T2
  have wK : q_e1 (nI K) = 0 ∧ q_e1 (nI P) = 0 ∧ q_t1 (nI K) = 1 ∧ q_t1 (nI P) ≤ 3 := by
    rcases hK with ⟨rfl, rfl, -⟩ | ⟨rfl, rfl, -⟩ <;> decide
  have wx := FR_w q4
  have h23 : q_e1 23 = 1 ∧ q_t1 23 = 1 := by decide
  have := q1.le
  refine CB_CI r1 (q_E0 h0) hs T3 ?_ ?_
  · rw [r6, wx.1]; omega
  · rw [r7, wx.2]; omega
theorem S_chain {x : nM} {Γ : q_G} {nb ty a b0 n nm md b d ns r K P v : Nat} {t : q_Ty} {E : Nat → Prop} {one two : Int32} (h : q_CB x Γ nb ty a b0 n nm md b (none :: t) d E) (h0 : ∀ i, ¬ E i) (hs : ns ≤ nm) (hK : (K = 15 ∧ P = 16 ∧ n ≤ 5 + 2 * g_l Γ b + 5 * d) ∨ (K = 17 ∧ P = 18 ∧ n ≤ 7 + 2 * g_l Γ b + 5 * d)) (hv : 2 ≤ v ∧ v ≤ 8) (h1 : one ≠ 0) (h2 : two ≠ 0)
    (hT : q_TS Γ nb x md (md + 1) a n (b, 2, none :: t, d, ns)) (hw : md + q_we x n ≤ 2 * a + 3) (hr : 1 + q_wt x n + 8 * (ty - a) ≤ r + 1) : o_chain x (nI K) one two (nI v) (nI P) ∧ q_SR (m_chain x (nI K) one two (nI v) (nI P)) ty r := by
  have key : x.1 3 ≠ 0 → p_chain_16 x (nI K) one (nI v) (nI P) ∧ q_SR (k_chain_16 x (nI K) one (nI v) (nI P)) ty r := fun h3 => by
    have s1 := S_33 (k := v) h h0 hs hK (by omega) h3 hT hw hr
    have s2 := S_33 (k := v + 1) h h0 hs hK (by omega) h3 hT hw hr
    rw [← nI_1] at s2
    rw [p_chain_16, k_chain_16]
    by_cases c : x.1 3 = one
    · rw [if_pos c]; exact ⟨⟨fun _ => s1.1, fun q => absurd c q⟩, s1.2⟩
    · rw [if_neg c]; exact ⟨⟨fun q => absurd q c, fun _ => s2.1⟩, s2.2⟩
  rw [o_chain, m_chain]
  by_cases c1 : x.1 3 = one
  · have k := key (by rw [c1]; exact h1)
    rw [if_pos c1]; exact ⟨⟨fun _ => k.1, fun q => absurd c1 q⟩, k.2⟩
  rw [if_neg c1]
  by_cases c2 : x.1 3 = two
  · have k := key (by rw [c2]; exact h2)
    rw [if_pos c2]; exact ⟨⟨fun q => absurd q c1, fun _ => ⟨fun _ => k.1, fun q => absurd c2 q⟩⟩, k.2⟩
  rw [if_neg c2]
  refine ⟨⟨fun q => absurd q c1, fun _ => ⟨fun q => absurd q c2, fun _ => trivial⟩⟩, CB_CI h (q_E0 h0) hs hT hw (by omega)⟩
/-- DOWN -/
theorem S_7 {x : nM} {Γ : q_G} {nb ty a b0 n nm md b d ns r : Nat} {t : q_Ty} {E : Nat → Prop} (h : q_CB x Γ nb ty a b0 n nm md b t d E) (h0 : ∀ i, ¬ E i) (hs : ns ≤ nm) (hd : 1 ≤ d) (hT : q_TS Γ nb x md (md + 1) a n (b, 2, t, d - 1, ns)) (hw : md + q_we x n ≤ 2 * a + 3) (hr : 1 + q_wt x n + 8 * (ty - a) ≤ r + 1) : q_SR (nm_f x 24 (x.1 24 - 1)) ty r := by
  have h24 : x.1 24 = nI d := h.2.2.2.2.2.2.1
  have h8 := h.le
  obtain ⟨k1, k2⟩ := B_deep (d' := d - 1) h (x.1 24 - 1) (by rw [h24, show d = d - 1 + 1 by omega]; exact nz_dm (d - 1)) (by omega)
  exact CB_CI k1 (q_E0 h0) hs (FR_TS k2 (Nat.le_refl _) (Nat.le_refl _) hT) (by rw [(FR_w k2).1]; exact hw) (by rw [(FR_w k2).2]; omega)
/-- ROW -/
theorem S_5 {x : nM} {Γ : q_G} {nb ty a b0 n nm md b d ns r : Nat} {E : Nat → Prop} (h : q_CB x Γ nb ty a b0 n nm md b [] d E) (h0 : ∀ i, ¬ E i) (hs : ns ≤ nm) (hn : n ≤ 2 + 2 * g_l Γ b + 5 * d) (hT : q_TS Γ nb x md (md + 1) a n (b, 2, [], d, ns)) (hw : md + q_we x n ≤ 2 * a + 3) (hr : 1 + q_wt x n + 8 * (ty - a) ≤ r + 1) : o_row x ∧ q_SR (m_row x) ty r := by
  obtain ⟨ha, hd, hl, hb, hnm, hat⟩ := h.le
  obtain ⟨o1, l1⟩ := L_goOn h.L
  obtain ⟨o2, l2⟩ := L_push l1 (by omega) 5 0 0
  obtain ⟨o3, l3⟩ := L_push l2 (by omega) 6 0 0
  have oe := (L_expect h.L 8).1
  rw [o_row, m_row]
  obtain ⟨a', b', q1, q2, q3, q4⟩ := B_goOn h
  have wx := FR_w q4
  have h1 := q1.le
  by_cases c : x.1 3 = 59
  · rw [if_pos c]
    have hp := q3 (by rw [c]; decide)
    refine ⟨⟨fun _ => ⟨o1, o2, o3, trivial⟩, fun q => absurd c q⟩, ?_⟩
    obtain ⟨y, ey, r1, r2, r3, r4, r5, r6⟩ := B_push2 q1 (show n + 1 < 260 by omega) 5 0 0 6 0 0
    rw [ey]
    have T0 := FR_TS (q4.tr r2 (Nat.le_refl _) (Nat.le_refl _)) (Nat.le_refl _) q2 hT
    have T1 : q_TS Γ nb y md (md + 1) a' (n + 1) (b, 2, [], d, ns) := TS_cons (kd := 5) hb (by decide) r3.1 ⟨rfl, rfl, hn, rfl⟩ T0
    have T3 : q_TS Γ nb y md (md + 1) a' (n + 2) (b, 2, [], d, ns) := TS_cons (kd := 6) hb (by decide) r4.1 ⟨rfl, rfl, (by show n + 1 ≤ 3 + 2 * g_l Γ b + 5 * d; omega), rfl⟩ T1
    refine CB_CI r1 (q_E0 h0) hs T3 ?_ ?_
    · rw [r5, wx.1]; show md + (0 + (0 + q_we x n)) ≤ _; omega
    · rw [r6, wx.2]; show 1 + (1 + q_wt x n) + 8 * (ty - a') ≤ r; omega
  · rw [if_neg c]
    refine ⟨⟨fun q => absurd q c, fun _ => ⟨oe, trivial⟩⟩, ?_⟩
    rw [m_expect]
    by_cases c8 : x.1 3 = 8
    · rw [if_pos c8]
      have hp := q3 (by rw [c8]; decide)
      exact CB_CI q1 (q_E0 h0) hs (FR_TS q4 (Nat.le_refl _) q2 hT) (by rw [wx.1]; omega) (by rw [wx.2]; omega)
    · rw [if_neg c8]; exact Or.inl (e_fail (by decide))
/-- CONDITION -/
theorem S_13 {x : nM} {Γ : q_G} {nb ty a b0 n nm md b d ns r : Nat} {t : q_Ty} {E : Nat → Prop} (h : q_CB x Γ nb ty a b0 n nm md b (none :: t) d E) (h0 : ∀ i, ¬ E i) (hs : ns ≤ nm) (hn : n ≤ 4 + 2 * g_l Γ b + 5 * d) (hT : q_TS Γ nb x md (md + 1) a n (b, 2, none :: t, d, ns)) (hw : md + q_we x n ≤ 2 * a + 3) (hr : 1 + q_wt x n + 8 * (ty - a) ≤ r + 1) : o_condition x ∧ q_SR (m_condition x) ty r := by
  obtain ⟨ha, hd, hl, hb, hnm, hat⟩ := h.le
  have hbad : ∀ z : nM, q_L z n nm md 1 → ∀ w, p_condition_71 z w := fun z hz w => by
    obtain ⟨o1, l1⟩ := L_goOn hz
    obtain ⟨o2, l2⟩ := L_push l1 (by omega) 23 144 w
    exact ⟨o1, o2, (L_push l2 (by omega) 14 0 0).1, trivial⟩
  have good : ∀ k, 2 ≤ k → k ≤ 9 → x.1 3 ≠ 0 → p_condition_57 x (nI k) ∧ q_SR (k_condition_57 x (nI k)) ty r := fun k k2 k9 h3 => by
    have nz : ¬ nI k = 0 := nI_ne0 (by omega) (by omega)
    rw [p_condition_57, k_condition_57, if_neg nz]
    refine ⟨⟨fun q => absurd q nz, fun _ => hbad x h.L _⟩, ?_⟩
    rw [k_condition_71]
    obtain ⟨a', b', q1, q2, q3, q4⟩ := B_goOn h
    have hp := q3 h3
    have wx := FR_w q4
    have h1 := q1.le
    obtain ⟨y, ey, r1, r2, r3, r4, r5, r6⟩ := B_push2 q1 (show n + 1 < 260 by omega) 23 144 (nI k) 14 0 0
    rw [ey]
    have T0 := FR_TS (q4.tr r2 (Nat.le_refl _) (Nat.le_refl _)) (Nat.le_refl _) q2 hT
    have T1 : q_TS Γ nb y md (md + 1) a' (n + 1) (b, 2, none :: none :: t, d, ns) := TS_cons (kd := 23) hb (by decide) r3.1 (by rw [r3.2.1, r3.2.2]; exact ⟨rfl, (by show n ≤ 8 + 2 * g_l Γ b + 5 * d; omega), 9, 0, none :: t, by decide, by decide, rfl, Or.inr (Or.inr (Or.inr (Or.inr (Or.inr (Or.inr (Or.inr (Or.inl ⟨rfl, ⟨k, k2, k9, rfl⟩, none, none, t, rfl, rfl⟩))))))), rfl⟩) T0
    have T3 : q_TS Γ nb y md (md + 1) a' (n + 2) (b, 2, none :: t, d, ns) := TS_cons (kd := 14) hb (by decide) r4.1 ⟨rfl, (by show n + 1 ≤ 5 + 2 * g_l Γ b + 5 * d; omega), rfl⟩ T1
    refine CB_CI r1 (q_E0 h0) hs T3 ?_ ?_
    · rw [r5, wx.1]; show md + (0 + (1 + q_we x n)) ≤ _; omega
    · rw [r6, wx.2]; show 5 + (1 + q_wt x n) + 8 * (ty - a') ≤ r; omega
  rw [o_condition, m_condition]
  by_cases c1 : x.1 3 = 61
  · have g := good 6 (by decide) (by decide) (by rw [c1]; decide)
    rw [if_pos c1]; exact ⟨⟨fun _ => g.1, fun q => absurd c1 q⟩, g.2⟩
  rw [if_neg c1]
  by_cases c2 : x.1 3 = 35
  · have g := good 7 (by decide) (by decide) (by rw [c2]; decide)
    rw [if_pos c2]; exact ⟨⟨fun q => absurd q c1, fun _ => ⟨fun _ => g.1, fun q => absurd c2 q⟩⟩, g.2⟩
  rw [if_neg c2]
  by_cases c3 : x.1 3 = 60
  · have g := good 8 (by decide) (by decide) (by rw [c3]; decide)
    rw [if_pos c3]; exact ⟨⟨fun q => absurd q c1, fun _ => ⟨fun q => absurd q c2, fun _ => ⟨fun _ => g.1, fun q => absurd c3 q⟩⟩⟩, g.2⟩
  rw [if_neg c3]
  by_cases c4 : x.1 3 = 62
  · have g := good 9 (by decide) (by decide) (by rw [c4]; decide)
    rw [if_pos c4]; exact ⟨⟨fun q => absurd q c1, fun _ => ⟨fun q => absurd q c2, fun _ => ⟨fun q => absurd q c3, fun _ => ⟨fun _ => g.1, fun q => absurd c4 q⟩⟩⟩⟩, g.2⟩
  rw [if_neg c4]
  refine ⟨⟨fun q => absurd q c1, fun _ => ⟨fun q => absurd q c2, fun _ => ⟨fun q => absurd q c3, fun _ => ⟨fun q => absurd q c4, fun _ => ⟨fun _ => hbad _ (L_fail h.L _ _) _, fun q => absurd rfl q⟩⟩⟩⟩⟩, Or.inl ?_⟩
  rw [k_condition_57, if_pos rfl, k_condition_71, f_push _ _ _ _ 7 (by decide), f_push _ _ _ _ 7 (by decide), f_goOn _ 7 (by decide) (by decide) (by decide) (by decide)]
  exact e_fail (by decide)
theorem q_div : ∀ m, m < 256 → nI m / 16 = nI (m / 16) ∧ nI m - nI m / 16 * 16 = nI (m % 16) := by decide +kernel
/-- EMIT -/
theorem S_23 {x : nM} {Γ : q_G} {nb ty a b0 n nm md b d ns r o l : Nat} {t t' : q_Ty} {E : Nat → Prop} {f g : Int32} (h : q_CB x Γ nb ty a b0 n nm md b t d E) (h0 : ∀ i, ¬ E i) (hs : ns ≤ nm) (ho : o < 12) (hl4 : l ≤ 4) (hf : f = nI (16 * o + l)) (hst : q_st Γ b (nI o) (nI l) g t t') (hT : q_TS Γ nb x md (md + 1) a n (b, 2, t', d, ns)) (hw : md + (1 + q_we x n) ≤ 2 * a + 3) (hr : 1 + q_wt x n + 8 * (ty - a) ≤ r + 1) :
    o_emit x (f / 16) (f - f / 16 * 16) g ∧ q_SR (m_emit x (f / 16) (f - f / 16 * 16) g).1 ty r := by
  obtain ⟨ha, hd, hl, hb, hnm, hat⟩ := h.le
  obtain ⟨e1, e2⟩ := q_div (16 * o + l) (by omega)
  rw [hf, e2, e1, show (16 * o + l) / 16 = o by omega, show (16 * o + l) % 16 = l by omega]
  have ge : q_GE Γ (q_ga Γ (md + 1) (b, some t')) nb (md + 1) := q_ga.ge h.2.2.2.2.2.2.2.2.2.2.1.p (Nat.le_refl _)
  refine ⟨(L_emit h.L (by omega) _ _ _).1, ?_⟩
  have n78 : ¬ (nI o = 7 ∨ nI o = 8) := fun q => by
    rcases hst with ⟨r, _⟩ | ⟨r, _⟩ | ⟨r, _⟩ | ⟨r, _⟩ | ⟨r, _⟩ | ⟨r, _⟩ | ⟨r, _⟩ | ⟨r, _⟩ | ⟨r, _⟩ <;> rw [r] at q <;> exact absurd q (by decide)
  obtain ⟨k1, k2, k3, k4, k5⟩ := B_emit (t' := t') (E' := E) h (by omega) (nI o) (nI l) g (fun _ q => q) (fun O' L' A' q1 q2 q3 => by
    have am : g_a (q_ga Γ (md + 1) (b, some t')) md = (b, some t) := (ge.2.1 md (by omega)).trans h.2.2.2.2.2.2.2.2.2.2.2.2.2
    exact ⟨by rw [am]; exact hb, Or.inl ⟨b, t, t', am, q_ga.at, by rw [q1, q2, q3]; exact ge.st hb hst⟩⟩) (fun q => absurd q n78)
  exact CB_CI k1 (q_E0 h0) hs (FR_TS k2 (by omega) (Nat.le_refl _) hT) (by rw [(FR_w k2).1]; omega) (by rw [(FR_w k2).2]; omega)
/-- a closing sign: the token, then one less deep -/
theorem B_close {x : nM} {Γ : q_G} {nb ty a b0 n nm md b d : Nat} {t : q_Ty} {E : Nat → Prop} (h : q_CB x Γ nb ty a b0 n nm md b t d E) (hd : 1 ≤ d) (w : Int32) (hw : w ≠ 0) : (m_close x w).1 7 ≠ 0 ∨ ∃ a' b', q_CB (m_close x w) Γ nb ty a' b' n nm md b t (d - 1) E ∧ a + 1 ≤ a' ∧ q_FR x (m_close x w) Γ Γ nb n md := by
  rw [m_close]
  by_cases c : x.1 3 = w
  · have e : m_expect x w = m_goOn x := by rw [m_expect, if_pos c]
    rw [e]
    obtain ⟨a', b', q1, q2, q3, q4⟩ := B_goOn h
    have h24 : (m_goOn x).1 24 = nI d := q1.2.2.2.2.2.2.1
    have h8 := h.le
    obtain ⟨k1, k2⟩ := B_deep (d' := d - 1) q1 ((m_goOn x).1 24 - 1) (by rw [h24, show d = d - 1 + 1 by omega]; exact nz_dm (d - 1)) (by omega)
    exact Or.inr ⟨a', b', k1, q3 (by rw [c]; exact hw), q4.tr k2 (Nat.le_refl _) (Nat.le_refl _)⟩
  · have e : m_expect x w = m_fail x 1 (x.1 4) := by rw [m_expect, if_neg c]
    rw [e]
    refine Or.inl ?_
    rw [q_f1, if_neg (by decide)]; exact e_fail (by decide)
/-- CLOSE -/
theorem S_19 {x : nM} {Γ : q_G} {nb ty a b0 n nm md b d ns r : Nat} {t : q_Ty} {E : Nat → Prop} (h : q_CB x Γ nb ty a b0 n nm md b t d E) (h0 : ∀ i, ¬ E i) (hs : ns ≤ nm) (hd : 1 ≤ d) (hT : q_TS Γ nb x md (md + 1) a n (b, 2, t, d - 1, ns)) (hw : md + q_we x n ≤ 2 * a + 3) (hr : 1 + q_wt x n + 8 * (ty - a) ≤ r + 1) : o_close x 41 ∧ q_SR (m_close x 41) ty r := by
  refine ⟨(L_close h.L 41).1, ?_⟩
  rcases B_close h hd 41 (by decide) with q | ⟨a', b', k1, k2, k3⟩
  · exact Or.inl q
  · exact CB_CI k1 (q_E0 h0) hs (FR_TS k3 (Nat.le_refl _) (by omega) hT) (by rw [(FR_w k3).1]; omega) (by rw [(FR_w k3).2]; omega)
/-- a place that a name has, as code speaks of it -/
theorem q_lnk {x : nM} {Γ : q_G} {nb ty a b0 n nm md b d : Nat} {t : q_Ty} {E : Nat → Prop} (h : q_CB x Γ nb ty a b0 n nm md b t d E) {k : Nat} (hk : k < nm) : ∃ v, x.2 18 k = nI v ∧ v ≤ g_l Γ b ∧ m_links x (nI k) = nI (g_l Γ b - v) ∧
    ((x.2 17 k = 0 ∧ q_pl Γ (q_an (g_p Γ) (g_l Γ b - v) b) (x.2 19 k)) ∨
   (x.2 17 k = 1 ∧ ∃ a m, x.2 19 k = nI a ∧ x.2 20 k = nI m ∧ 1 ≤ m ∧ m ≤ 30 ∧ 3 ≤ a ∧ a + m ≤ g_c Γ (q_an (g_p Γ) (g_l Γ b - v) b)) ∨
   (x.2 17 k = 2 ∧ ∃ c, c < nb ∧ c ≠ 0 ∧ x.2 19 k = nI (g_e Γ c) ∧ x.2 20 k = nI (g_n Γ c) ∧ g_p Γ c = q_an (g_p Γ) (g_l Γ b - v) b)) := by
  have hl := h.le
  obtain ⟨g1, g2, g3, g4, g5, g6, g7, g8, g9, g10, g11, g12, g13, g14⟩ := h
  obtain ⟨v, q1, q2, q3⟩ := g12 k hk
  refine ⟨v, q1, q2, ?_, q3⟩
  rw [m_links, q_g x 18 k (by omega), q1, g6]
  exact pk_sub q2
/-- CALL of a procedure, its arguments on the stack -/
theorem B_call {x : nM} {Γ : q_G} {nb ty a b0 n nm md b d k m : Nat} {t : q_Ty} {E : Nat → Prop} (h : q_CB x Γ nb ty a b0 n nm md b t d E) (hm : md < 400) (hk : k < nm) (h17 : x.2 17 k = 2) (ht : t = List.replicate m none) (h20 : x.2 20 k = nI m) (hm3 : m < 2 ^ 31) :
    ∃ Δ, q_CB (m_emit x 5 (m_links x (nI k)) (nm_g x 19 (nI k))).1 Δ nb ty a b0 n nm (md + 1) b [] d E ∧ q_FR x (m_emit x 5 (m_links x (nI k)) (nm_g x 19 (nI k))).1 Γ Δ nb n md := by
  obtain ⟨ha, hd, hl, hb, hnm, hat⟩ := h.le
  obtain ⟨v, q1, q2, q3, q4⟩ := q_lnk h hk
  have ge : q_GE Γ (q_ga Γ (md + 1) (b, some [])) nb (md + 1) := q_ga.ge h.2.2.2.2.2.2.2.2.2.2.1.p (Nat.le_refl _)
  rcases q4 with ⟨q5, _⟩ | ⟨q5, _⟩ | ⟨q5, c, c1, c2, c3, c4, c5⟩
  · rw [h17] at q5; exact absurd q5 (by decide)
  · rw [h17] at q5; exact absurd q5 (by decide)
  · have e3 : g_n Γ c ≤ 3 := (h.2.2.2.2.2.2.2.2.2.2.1.2.2.2 c c1).2.1
    have em : m = g_n Γ c := nz_inj (h20.symm.trans c4) hm3 (by omega)
    rw [q3, q_g x 19 k (by omega), c3]
    have am : g_a (q_ga Γ (md + 1) (b, some [])) md = (b, some t) := (ge.2.1 md (by omega)).trans h.2.2.2.2.2.2.2.2.2.2.2.2.2
    obtain ⟨k1, k2, k3, k4, k5⟩ := B_emit (t' := []) (E' := E) h hm 5 (nI (g_l Γ b - v)) (nI (g_e Γ c)) (fun _ q => q) (fun O' L' A' p1 p2 p3 => by
      refine ⟨by rw [am]; exact hb, Or.inr (Or.inl ⟨p1, b, c, g_l Γ b - v, ?_, q_ga.at, c1, p2, Nat.sub_le _ _, p3, c2, c5⟩)⟩
      rw [am, ht, em]; rfl) (fun q => absurd q (by decide))
    exact ⟨_, k1, k2⟩
/-- ARGUMENT -/
theorem S_22 {x : nM} {Γ : q_G} {nb ty a b0 n nm md b d ns r k m : Nat} {t : q_Ty} {E : Nat → Prop} (h : q_CB x Γ nb ty a b0 n nm md b t d E) (h0 : ∀ i, ¬ E i) (hs : ns ≤ nm) (hd : 1 ≤ d) (hn : n ≤ 4 + 2 * g_l Γ b + 5 * d) (hk : k < ns) (h17 : x.2 17 k = 2) (hma : m ≤ a) (ht : t = List.replicate m none)
    (hT : q_TS Γ nb x md (md + 1) a n (b, 2, [], d - 1, ns)) (hw : md + q_we x n ≤ 2 * a + 3) (hr : 1 + q_wt x n + 8 * (ty - a) ≤ r + 1) : o_argument x (nI k) (nI m) ∧ q_SR (m_argument x (nI k) (nI m)) ty r := by
  obtain ⟨ha, hd6, hl, hb, hnm, hat⟩ := h.le
  have o60 : ∀ z : nM, q_L z n nm md 1 → p_argument_60 z (nI k) := fun z hz => by
    obtain ⟨o1, l1⟩ := L_close hz 41
    exact ⟨o1, L_links _ (by omega), q_in (by omega) (by decide), (L_emit l1 (by omega) _ _ _).1, trivial⟩
  have ki : vp_in (nI k) 100 := q_in (by omega) (by decide)
  rw [o_argument, m_argument]
  by_cases c1 : x.1 3 = 44
  · rw [if_pos c1]
    obtain ⟨o1, l1⟩ := L_goOn h.L
    obtain ⟨o2, l2⟩ := L_push l1 (by omega) 22 (nI k) (nI m + 1)
    obtain ⟨o3, l3⟩ := L_push l2 (by omega) 14 0 0
    refine ⟨⟨fun _ => ⟨o1, o2, o3, trivial⟩, fun q => absurd c1 q⟩, ?_⟩
    obtain ⟨a', b', q1, q2, q3, q4⟩ := B_goOn h
    have hp := q3 (by rw [c1]; decide)
    have wx := FR_w q4
    have h1 := q1.le
    obtain ⟨y, ey, r1, r2, r3, r4, r5, r6⟩ := B_push2 q1 (show n + 1 < 260 by omega) 22 (nI k) (nI m + 1) 14 0 0
    rw [ey]
    have fr := q4.tr r2 (Nat.le_refl _) (Nat.le_refl _)
    have T0 := FR_TS fr (Nat.le_refl _) q2 hT
    have T1 : q_TS Γ nb y md (md + 1) a' (n + 1) (b, 2, none :: t, d, ns) := TS_cons (kd := 22) hb (by decide) r3.1 (by
      rw [r3.2.1, r3.2.2, nI_1]
      exact ⟨rfl, hd, hn, ⟨k, rfl, hk, by rw [fr.2.1 17 (by decide) (by decide)]; exact h17⟩, ⟨m + 1, rfl, by omega, by show none :: t = _; rw [ht]; rfl⟩, rfl⟩) T0
    have T3 : q_TS Γ nb y md (md + 1) a' (n + 2) (b, 2, t, d, ns) := TS_cons (kd := 14) hb (by decide) r4.1 ⟨rfl, (by show n + 1 ≤ 5 + 2 * g_l Γ b + 5 * d; omega), rfl⟩ T1
    refine CB_CI r1 (q_E0 h0) hs T3 ?_ ?_
    · rw [r5, wx.1]; show md + (0 + (0 + q_we x n)) ≤ _; omega
    · rw [r6, wx.2]; show 5 + (1 + q_wt x n) + 8 * (ty - a') ≤ r; omega
  rw [if_neg c1]
  have e20 : nm_g x 20 (nI k) = x.2 20 k := q_g x 20 k (by omega)
  by_cases c2 : x.1 3 = 41
  · rw [if_pos c2, e20]
    by_cases c3 : nI m = x.2 20 k
    · rw [if_pos c3]
      refine ⟨⟨fun q => absurd q c1, fun _ => ⟨fun _ => ⟨ki, fun _ => o60 x h.L, fun q => absurd c3 q⟩, fun q => absurd c2 q⟩⟩, ?_⟩
      rw [k_argument_60]
      rcases B_close h hd 41 (by decide) with q | ⟨a', b', k1, k2, k3⟩
      · exact Or.inl (by rw [f_emit _ _ _ _ 7 (by decide)]; exact q)
      · have k17 : (m_close x 41).2 17 k = 2 := by rw [k3.2.1 17 (by decide) (by decide)]; exact h17
        have k20 : (m_close x 41).2 20 k = nI m := by rw [k3.2.1 20 (by decide) (by decide)]; exact c3.symm
        obtain ⟨Δ, p1, p2⟩ := B_call k1 (by omega) (by omega) k17 ht k20 (by omega)
        have fr := k3.tr p2 (Nat.le_refl _) (Nat.le_refl _)
        have hh := k1.le
        exact CB_CI p1 (q_E0 h0) hs (FR_TS fr (by omega) (by omega) hT) (by rw [(FR_w fr).1]; omega) (by rw [(FR_w fr).2]; omega)
    · rw [if_neg c3]
      refine ⟨⟨fun q => absurd q c1, fun _ => ⟨fun _ => ⟨ki, fun q => absurd q c3, fun _ => o60 _ (L_fail h.L _ _)⟩, fun q => absurd c2 q⟩⟩, Or.inl ?_⟩
      rw [k_argument_60, f_emit _ _ _ _ 7 (by decide), m_close, q_f1, if_neg (by decide), m_expect]
      split
      · rw [f_goOn _ 7 (by decide) (by decide) (by decide) (by decide)]; exact e_fail (by decide)
      · rw [e_fail2 (e_fail (by decide))]; exact e_fail (by decide)
  · rw [if_neg c2]
    refine ⟨⟨fun q => absurd q c1, fun _ => ⟨fun q => absurd q c2, fun _ => o60 x h.L⟩⟩, Or.inl ?_⟩
    rw [k_argument_60, f_emit _ _ _ _ 7 (by decide), m_close, q_f1, if_neg (by decide), m_expect, if_neg c2]
    exact e_fail (by decide)
/-- an array's element: CHK, then LDX, or what STX wants -/
theorem B_chk {x : nM} {Γ : q_G} {nb ty a b0 n nm md b d k : Nat} {u : Option Nat} {t : q_Ty} {E : Nat → Prop} (h : q_CB x Γ nb ty a b0 n nm md b (u :: t) d E) (hm : md < 400) (hk : k < nm) (h17 : x.2 17 k = 1) :
    ∃ Δ m, q_CB (m_emit x 11 0 (nm_g x 20 (nI k))).1 Δ nb ty a b0 n nm (md + 1) b (some m :: t) d E ∧ q_FR x (m_emit x 11 0 (nm_g x 20 (nI k))).1 Γ Δ nb n md ∧ ∃ v, (m_emit x 11 0 (nm_g x 20 (nI k))).1.2 18 k = nI v ∧ v ≤ g_l Δ b ∧ q_arr Δ b (nI (g_l Δ b - v)) ((m_emit x 11 0 (nm_g x 20 (nI k))).1.2 19 k) m := by
  obtain ⟨ha, hd, hl, hb, hnm, hat⟩ := h.le
  obtain ⟨v, q1, q2, q3, q4⟩ := q_lnk h hk
  rcases q4 with ⟨q5, _⟩ | ⟨q5, a1, m, c1, c2, c3, c4, c5, c6⟩ | ⟨q5, _⟩
  · rw [h17] at q5; exact absurd q5 (by decide)
  · have ge : q_GE Γ (q_ga Γ (md + 1) (b, some (some m :: t))) nb (md + 1) := q_ga.ge h.2.2.2.2.2.2.2.2.2.2.1.p (Nat.le_refl _)
    have am : g_a (q_ga Γ (md + 1) (b, some (some m :: t))) md = (b, some (u :: t)) := (ge.2.1 md (by omega)).trans h.2.2.2.2.2.2.2.2.2.2.2.2.2
    rw [q_g x 20 k (by omega), c2]
    obtain ⟨k1, k2, k3, k4, k5⟩ := B_emit (t' := some m :: t) (E' := E) h hm 11 0 (nI m) (fun _ q => q) (fun O' L' A' p1 p2 p3 =>
      ⟨by rw [am]; exact hb, Or.inl ⟨b, u :: t, some m :: t, am, q_ga.at, by rw [p1, p2, p3]; exact Or.inr (Or.inr (Or.inr (Or.inr (Or.inr (Or.inr (Or.inr (Or.inr ⟨rfl, m, u, t, rfl, c3, c4, rfl, rfl⟩)))))))⟩⟩) (fun q => absurd q (by decide))
    refine ⟨_, m, k1, k2, v, by rw [k2.2.1 18 (by decide) (by decide)]; exact q1, q2, ?_⟩
    rw [k2.2.1 19 (by decide) (by decide)]
    exact ⟨g_l Γ b - v, a1, rfl, Nat.sub_le _ _, c1, c5, c6⟩
  · rw [h17] at q5; exact absurd q5 (by decide)
theorem L_el {x : nM} {n nm md k : Nat} (h : q_L x n nm md 1) (hn : n < 250) (hm : md < 390) (hk : k < 100) (g : Int32) : o_element x (nI k) g := by
  have ki : vp_in (nI k) 100 := q_in hk (by decide)
  obtain ⟨o1, l1⟩ := L_close h 93
  obtain ⟨o2, l2, -⟩ := L_emit l1 (by omega) 11 0 (nm_g (m_close x 93) 20 (nI k))
  obtain ⟨o3, l3⟩ := L_expect l2 127
  rw [o_element]
  refine ⟨o1, ki, o2, fun _ => ⟨L_links _ hk, ki, (L_emit l2 (by omega) _ _ _).1, trivial⟩, fun _ => ⟨o3, L_links _ hk, ki, ?_, ?_, trivial⟩⟩
  · exact (L_push l3 (by omega) _ _ _).1
  · exact (L_push (L_push l3 (by omega) _ _ _).2 (by omega) _ _ _).1
/-- ELEMENT -/
theorem S_20 {x : nM} {Γ : q_G} {nb ty a b0 n nm md b d ns r k : Nat} {t : q_Ty} {E : Nat → Prop} (h : q_CB x Γ nb ty a b0 n nm md b (none :: t) d E) (h0 : ∀ i, ¬ E i) (hs : ns ≤ nm) (hd : 1 ≤ d) (hk : k < ns) (h17 : x.2 17 k = 1)
    (hT : q_TS Γ nb x md (md + 1) a n (b, 2, none :: t, d - 1, ns)) (hw : md + q_we x n ≤ 2 * a + 3) (hr : 1 + q_wt x n + 8 * (ty - a) ≤ r + 1) : o_element x (nI k) 0 ∧ q_SR (m_element x (nI k) 0) ty r := by
  obtain ⟨ha, hd6, hl, hb, hnm, hat⟩ := h.le
  obtain ⟨oc, lc⟩ := L_close h.L 93
  obtain ⟨oe, le, -⟩ := L_emit lc (show md < 400 by omega) 11 0 (nm_g (m_close x 93) 20 (nI k))
  have ki : vp_in (nI k) 100 := q_in (by omega) (by decide)
  refine ⟨⟨oc, ki, oe, fun _ => ⟨L_links _ (by omega), ki, (L_emit le (by omega) _ _ _).1, trivial⟩, fun q => absurd rfl q⟩, ?_⟩
  rw [m_element, if_pos rfl]
  rcases B_close h hd 93 (by decide) with q | ⟨a', b', k1, k2, k3⟩
  · exact Or.inl (by rw [f_emit _ _ _ _ 7 (by decide), f_emit _ _ _ _ 7 (by decide)]; exact q)
  · have k17 : (m_close x 93).2 17 k = 1 := by rw [k3.2.1 17 (by decide) (by decide)]; exact h17
    obtain ⟨Δ, m, p1, p2, v, v1, v2, v3⟩ := B_chk k1 (by omega) (by omega) k17
    generalize hy : (m_emit (m_close x 93) 11 0 (nm_g (m_close x 93) 20 (nI k))).1 = y at *
    have e6 : y.1 21 = nI (g_l Δ b) := p1.2.2.2.2.2.1
    have el : m_links y (nI k) = nI (g_l Δ b - v) := by rw [m_links, q_g y 18 k (by omega), v1, e6]; exact pk_sub v2
    rw [el, q_g y 19 k (by omega)]
    have ge : q_GE Δ (q_ga Δ (md + 1 + 1) (b, some (none :: t))) nb (md + 1 + 1) := q_ga.ge p1.2.2.2.2.2.2.2.2.2.2.1.p (Nat.le_refl _)
    have am : g_a (q_ga Δ (md + 1 + 1) (b, some (none :: t))) (md + 1) = (b, some (some m :: t)) := (ge.2.1 (md + 1) (by omega)).trans p1.2.2.2.2.2.2.2.2.2.2.2.2.2
    obtain ⟨s1, s2, -⟩ := B_emit (t' := none :: t) (E' := E) p1 (by omega) 3 (nI (g_l Δ b - v)) (y.2 19 k) (fun _ q => q) (fun O' L' A' w1 w2 w3 =>
      ⟨by rw [am]; exact hb, Or.inl ⟨b, some m :: t, none :: t, am, q_ga.at, by rw [w1, w2, w3]; exact Or.inr (Or.inr (Or.inr (Or.inl ⟨rfl, m, t, rfl, rfl, ge.arr hb v3⟩)))⟩⟩) (fun q => absurd q (by decide))
    have fr := (k3.tr p2 (Nat.le_refl _) (Nat.le_refl _)).tr s2 (Nat.le_refl _) (by omega)
    have hh := k1.le
    exact CB_CI s1 (q_E0 h0) hs (FR_TS fr (by omega) (by omega) hT) (by rw [(FR_w fr).1]; omega) (by rw [(FR_w fr).2]; omega)
/-- GIVEN -/
theorem S_21 {x : nM} {Γ : q_G} {nb ty a b0 n nm md b d ns r k : Nat} {E : Nat → Prop} (h : q_CB x Γ nb ty a b0 n nm md b [none] d E) (h0 : ∀ i, ¬ E i) (hs : ns ≤ nm) (hd : 1 ≤ d) (hn : n + 5 ≤ 3 + 2 * g_l Γ b + 5 * d) (hk : k < ns) (h17 : x.2 17 k = 1)
    (hT : q_TS Γ nb x md (md + 1) a n (b, 2, [], d - 1, ns)) (hw : md + q_we x n ≤ 2 * a + 3) (hr : 1 + q_wt x n + 8 * (ty - a) ≤ r + 1) : o_element x (nI k) 1 ∧ q_SR (m_element x (nI k) 1) ty r := by
  obtain ⟨ha, hd6, hl, hb, hnm, hat⟩ := h.le
  refine ⟨L_el h.L (by omega) (by omega) (by omega) 1, ?_⟩
  rw [m_element, if_neg (by decide)]
  rcases B_close h hd 93 (by decide) with q | ⟨a', b', k1, k2, k3⟩
  · refine Or.inl ?_
    rw [f_push _ _ _ _ 7 (by decide), f_push _ _ _ _ 7 (by decide), m_expect]
    split
    · rw [f_goOn _ 7 (by decide) (by decide) (by decide) (by decide), f_emit _ _ _ _ 7 (by decide)]; exact q
    · rw [e_fail2 (by rw [f_emit _ _ _ _ 7 (by decide)]; exact q), f_emit _ _ _ _ 7 (by decide)]; exact q
  · have k17 : (m_close x 93).2 17 k = 1 := by rw [k3.2.1 17 (by decide) (by decide)]; exact h17
    obtain ⟨Δ, m, p1, p2, v, v1, v2, v3⟩ := B_chk k1 (by omega) (by omega) k17
    generalize hy : (m_emit (m_close x 93) 11 0 (nm_g (m_close x 93) 20 (nI k))).1 = y at *
    by_cases c : y.1 3 = 127
    · have e : m_expect y 127 = m_goOn y := by rw [m_expect, if_pos c]
      rw [e]
      obtain ⟨a2, b2, q1, q2, q3, q4⟩ := B_goOn p1
      have g18 : (m_goOn y).2 18 k = nI v := by rw [g_goOn]; exact v1
      have g19 : (m_goOn y).2 19 k = y.2 19 k := by rw [g_goOn]
      have e6 : (m_goOn y).1 21 = nI (g_l Δ b) := q1.2.2.2.2.2.1
      have el : m_links (m_goOn y) (nI k) = nI (g_l Δ b - v) := by rw [m_links, q_g _ 18 k (by omega), g18, e6]; exact pk_sub v2
      have h2 := q1.le
      rw [el, q_g _ 19 k (by omega), g19, show (64 : Int32) + nI (g_l Δ b - v) = nI (16 * 4 + (g_l Δ b - v)) from nI_add 64 _]
      obtain ⟨z, ez, r1, r2, r3, r4, r5, r6⟩ := B_push2 q1 (show n + 1 < 260 by omega) 23 (nI (16 * 4 + (g_l Δ b - v))) (y.2 19 k) 14 0 0
      rw [ez]
      have f0 := k3.tr p2 (Nat.le_refl _) (Nat.le_refl _)
      have f1 := (f0.tr q4 (Nat.le_refl _) (by omega)).tr r2 (Nat.le_refl _) (by omega)
      have el' : g_l Δ b = g_l Γ b := (f0.2.2.2.1 b hb).2.2.2.1
      have T0 := FR_TS f1 (show md ≤ md + 1 by omega) (show a ≤ a2 by omega) hT
      have T1 : q_TS Δ nb z (md + 1) (md + 1 + 1) a2 (n + 1) (b, 2, [none, some m], d - 1, ns) := TS_cons (kd := 23) hb (by decide) r3.1 (by
        rw [r3.2.1, r3.2.2]
        exact ⟨rfl, (by show n ≤ 8 + 2 * g_l Δ b + 5 * (d - 1); omega), 4, g_l Δ b - v, [], by decide, by omega, rfl, Or.inr (Or.inr (Or.inr (Or.inr (Or.inl ⟨rfl, none, m, rfl, v3⟩)))), rfl⟩) T0
      have T3 : q_TS Δ nb z (md + 1) (md + 1 + 1) a2 (n + 2) (b, 2, [some m], d - 1, ns) := TS_cons (kd := 14) hb (by decide) r4.1 ⟨rfl, (by show n + 1 ≤ 5 + 2 * g_l Δ b + 5 * (d - 1); omega), rfl⟩ T1
      have wx := FR_w (f0.tr q4 (Nat.le_refl _) (by omega))
      refine CB_CI r1 (q_E0 h0) hs T3 ?_ ?_
      · rw [r5, wx.1]; show md + 1 + (0 + (1 + q_we x n)) ≤ _; omega
      · rw [r6, wx.2]; show 5 + (1 + q_wt x n) + 8 * (ty - a2) ≤ r; omega
    · have e : m_expect y 127 = m_fail y 1 (y.1 4) := by rw [m_expect, if_neg c]
      rw [e]
      exact Or.inl (by rw [f_push _ _ _ _ 7 (by decide), f_push _ _ _ _ 7 (by decide)]; exact e_fail (by decide))
/-- more names may be sure -/
theorem q_ru.up {Γ : q_G} {mm md a n kd ns' : Nat} {x : nM} {f s : Int32} {c c' : q_C} (h : c.2.2.2.2 ≤ ns') (g : q_ru Γ x md mm a n kd f s c c') : ∃ m', c'.2.2.2.2 ≤ m' ∧ q_ru Γ x md mm a n kd f s (c.1, c.2.1, c.2.2.1, c.2.2.2.1, ns') (c'.1, c'.2.1, c'.2.2.1, c'.2.2.2.1, m') := by
  obtain ⟨b, ph, t, d, ns⟩ := c
  match kd, g with
  | 0, ⟨g1, g2, g3, g4⟩ => rw [g4]; exact ⟨ns', h, g1, g2, g3, rfl⟩
  | 1, ⟨g1, g2, g3, g4, g5, g6⟩ => rw [g6]; exact ⟨ns', h, g1, g2, g3, g4, g5, rfl⟩
  | 2, ⟨g1, g2, g3, g4, g5⟩ => rw [g5]; exact ⟨ns', h, g1, g2, g3, g4, rfl⟩
  | 3, ⟨g1, g2, g3, g4, g5, g6, g7, k, k1, k2, k3, k4⟩ => rw [k4]; exact ⟨k, Nat.le_refl _, g1, g2, g3, g4, g5, g6, g7, k, k1, Nat.le_trans k2 h, k3, rfl⟩
  | 4, ⟨g1, g2, g3, g4⟩ => rw [g4]; exact ⟨0, Nat.le_refl _, g1, g2, g3, rfl⟩
  | 5, ⟨g1, g2, g3, g4⟩ => rw [g4]; exact ⟨ns', h, g1, g2, g3, rfl⟩
  | 6, ⟨g1, g2, g3, g4⟩ => rw [g4]; exact ⟨ns', h, g1, g2, g3, rfl⟩
  | 7, ⟨g1, g2, g3, g4⟩ => rw [g4]; exact ⟨ns', h, g1, g2, g3, rfl⟩
  | 8, ⟨g1, g2, g3, g4, g5⟩ => rw [g5]; exact ⟨ns', h, g1, g2, g3, g4, rfl⟩
  | 9, ⟨g1, g2, g3, g4, g5, g6⟩ => rw [g6]; exact ⟨ns', h, g1, g2, g3, g4, g5, rfl⟩
  | 10, ⟨g1, g2, g3, g4, g5, g6⟩ => rw [g6]; exact ⟨ns', h, g1, g2, g3, g4, g5, rfl⟩
  | 11, ⟨g1, g2, g3, g4, g5, g6⟩ => rw [g6]; exact ⟨ns', h, g1, g2, g3, g4, g5, rfl⟩
  | 12, ⟨g1, g2, g3, g4, g5, g6⟩ => rw [g6]; exact ⟨ns', h, g1, g2, g3, g4, g5, rfl⟩
  | 13, ⟨g1, g2, g3, g4⟩ => rw [g4]; exact ⟨ns', h, g1, g2, g3, rfl⟩
  | 14, ⟨g1, g2, g3⟩ => rw [g3]; exact ⟨ns', h, g1, g2, rfl⟩
  | 15, ⟨g1, g2, g3, g4⟩ => rw [g4]; exact ⟨ns', h, g1, g2, g3, rfl⟩
  | 16, ⟨g1, g2, g3⟩ => rw [g3]; exact ⟨ns', h, g1, g2, rfl⟩
  | 17, ⟨g1, g2, g3, g4⟩ => rw [g4]; exact ⟨ns', h, g1, g2, g3, rfl⟩
  | 18, ⟨g1, g2, g3⟩ => rw [g3]; exact ⟨ns', h, g1, g2, rfl⟩
  | 19, ⟨g1, g2, g3⟩ => rw [g3]; exact ⟨ns', h, g1, g2, rfl⟩
  | 20, ⟨g1, g2, g3, ⟨k, k1, k2, k3⟩, g4⟩ => rw [g4]; exact ⟨ns', h, g1, g2, g3, ⟨k, k1, Nat.lt_of_lt_of_le k2 h, k3⟩, rfl⟩
  | 21, ⟨g1, g2, g3, g4, ⟨k, k1, k2, k3⟩, g5⟩ => rw [g5]; exact ⟨ns', h, g1, g2, g3, g4, ⟨k, k1, Nat.lt_of_lt_of_le k2 h, k3⟩, rfl⟩
  | 22, ⟨g1, g2, g3, ⟨k, k1, k2, k3⟩, g4, g5⟩ => rw [g5]; exact ⟨ns', h, g1, g2, g3, ⟨k, k1, Nat.lt_of_lt_of_le k2 h, k3⟩, g4, rfl⟩
  | 23, ⟨g1, g2, o, l, t', k1, k2, k3, k4, k5⟩ => rw [k5]; exact ⟨ns', h, g1, g2, o, l, t', k1, k2, k3, k4, rfl⟩
  | _ + 24, g => exact absurd g id
theorem q_TS.up {Γ : q_G} {nb md mm a : Nat} {x : nM} : ∀ (n : Nat) (c : q_C) (ns' : Nat), c.2.2.2.2 ≤ ns' → q_TS Γ nb x md mm a n c → q_TS Γ nb x md mm a n (c.1, c.2.1, c.2.2.1, c.2.2.2.1, ns') := by
  intro n
  induction n with
  | zero => intro c ns' _ g; exact g
  | succ n ih =>
    intro c ns' h g
    obtain ⟨g1, kd, c', g2, g3, g4, g5⟩ := g
    obtain ⟨m', k1, k2⟩ := q_ru.up h g4
    exact ⟨g1, kd, _, g2, g3, k2, ih c' m' k1 g5⟩
theorem e_peek (x : nM) : (m_peek x).1 = x := by
  rw [m_peek]
  have h := U_look x (x.1 6)
  refine Prod.ext (funext fun k => ?_) h.1
  show (nm_f (nm_f (nm_f (nm_f (m_look x (x.1 6)) 3 (x.1 3)) 4 (x.1 4)) 5 (x.1 5)) 6 (x.1 6)).1 k = x.1 k
  rw [q_f1, q_f1, q_f1, q_f1]
  by_cases e6 : k = 6
  · rw [if_pos e6, e6]
  rw [if_neg e6]
  by_cases e5 : k = 5
  · rw [if_pos e5, e5]
  rw [if_neg e5]
  by_cases e4 : k = 4
  · rw [if_pos e4, e4]
  rw [if_neg e4]
  by_cases e3 : k = 3
  · rw [if_pos e3, e3]
  rw [if_neg e3]
  exact h.2 k e3 e4 e5 e6
/-- one deeper, unless that is an error -/
theorem B_open {x : nM} {Γ : q_G} {nb ty a b0 n nm md b d : Nat} {t : q_Ty} {E : Nat → Prop} (h : q_CB x Γ nb ty a b0 n nm md b t d E) : (m_open x).1 7 ≠ 0 ∨ ∃ a' b', q_CB (m_open x) Γ nb ty a' b' n nm md b t (d + 1) E ∧ (a ≤ a' ∧ (x.1 3 ≠ 0 → a + 1 ≤ a')) ∧ q_FR x (m_open x) Γ Γ nb n md ∧ d < 6 := by
  rw [m_open]
  have h24 : x.1 24 = nI d := h.2.2.2.2.2.2.1
  by_cases c : x.1 24 = 6
  · rw [if_pos c, k_open_18, f_goOn _ 7 (by decide) (by decide) (by decide) (by decide), q_f1, if_neg (by decide)]
    exact Or.inl (e_fail (by decide))
  · rw [if_neg c, k_open_18]
    have h8 := h.le
    have d6 : d < 6 := by
      rcases Nat.lt_or_ge d 6 with q | q
      · exact q
      · exfalso; apply c; rw [h24, show d = 6 by omega]; rfl
    obtain ⟨k1, k2⟩ := B_deep (d' := d + 1) h (x.1 24 + 1) (by rw [h24]; exact nI_1 d) (by omega)
    obtain ⟨a', b', q1, q2, q3, q4⟩ := B_goOn k1
    exact Or.inr ⟨a', b', q1, ⟨q2, q3⟩, k2.tr q4 (Nat.le_refl _) (Nat.le_refl _), d6⟩
theorem e_open {x : nM} (h : x.1 7 ≠ 0) : (m_open x).1 7 ≠ 0 := by
  rw [m_open]
  split
  · rw [k_open_18, f_goOn _ 7 (by decide) (by decide) (by decide) (by decide), q_f1, if_neg (by decide), e_fail2 h]; exact h
  · rw [k_open_18, f_goOn _ 7 (by decide) (by decide) (by decide) (by decide), q_f1, if_neg (by decide)]; exact h
/-- FACTOR -/
theorem S_18 {x : nM} {Γ : q_G} {nb ty a b0 n nm md b d ns r : Nat} {t : q_Ty} {E : Nat → Prop} (h : q_CB x Γ nb ty a b0 n nm md b t d E) (h0 : ∀ i, ¬ E i) (hs : ns ≤ nm) (hn : n ≤ 9 + 2 * g_l Γ b + 5 * d) (hT' : q_TS Γ nb x md (md + 1) a n (b, 2, none :: t, d, ns)) (hw : md + q_we x n ≤ 2 * a + 3) (hr : 1 + q_wt x n + 8 * (ty - a) ≤ r + 1) : o_factor x ∧ q_SR (m_factor x) ty r := by
  obtain ⟨ha, hd6, hl, hb, hnm, hat⟩ := h.le
  have hT : q_TS Γ nb x md (md + 1) a n (b, 2, none :: t, d, nm) := q_TS.up n _ nm hs hT'
  have hL := h.L
  obtain ⟨oo, lo⟩ := L_open hL
  obtain ⟨op1, lp1⟩ := L_push lo (by omega) 19 0 0
  have op2 := (L_push lp1 (by omega) 14 0 0).1
  obtain ⟨oe, le, -⟩ := L_emit hL (by omega) 0 0 (x.1 5)
  have og := (L_goOn le).1
  rw [o_factor, m_factor]
  by_cases c1 : x.1 3 = 3
  · rw [if_pos c1]
    refine ⟨⟨fun _ => ⟨oe, og, trivial⟩, fun q => absurd c1 q⟩, ?_⟩
    have ge : q_GE Γ (q_ga Γ (md + 1) (b, some (none :: t))) nb (md + 1) := q_ga.ge h.2.2.2.2.2.2.2.2.2.2.1.p (Nat.le_refl _)
    have am : g_a (q_ga Γ (md + 1) (b, some (none :: t))) md = (b, some t) := (ge.2.1 md (by omega)).trans h.2.2.2.2.2.2.2.2.2.2.2.2.2
    obtain ⟨k1, k2, -⟩ := B_emit (t' := none :: t) (E' := E) h (by omega) 0 0 (x.1 5) (fun _ q => q) (fun O' L' A' q1 q2 q3 => ⟨by rw [am]; exact hb, Or.inl ⟨b, t, none :: t, am, q_ga.at, by rw [q1, q2, q3]; exact Or.inl ⟨rfl, rfl⟩⟩⟩) (fun q => absurd q (by decide))
    obtain ⟨a', b', q1, q2, q3, q4⟩ := B_goOn k1
    have hp := q3 (by rw [f_emit _ _ _ _ 3 (by decide), c1]; decide)
    have fr := k2.tr q4 (Nat.le_refl _) (by omega)
    have hh := q1.le
    exact CB_CI q1 (q_E0 h0) (Nat.le_refl _) (FR_TS fr (by omega) (by omega) hT) (by rw [(FR_w fr).1]; omega) (by rw [(FR_w fr).2]; omega)
  rw [if_neg c1]
  by_cases c2 : x.1 3 = 40
  · rw [if_pos c2]
    refine ⟨⟨fun q => absurd q c1, fun _ => ⟨fun _ => ⟨oo, op1, op2, trivial⟩, fun q => absurd c2 q⟩⟩, ?_⟩
    rcases B_open h with q | ⟨a', b', k1, k2', k3, k4⟩
    · exact Or.inl (by rw [f_push _ _ _ _ 7 (by decide), f_push _ _ _ _ 7 (by decide)]; exact q)
    · have k2 := k2'.2 (by rw [c2]; decide)
      obtain ⟨y, ey, r1, r2, r3, r4, r5, r6⟩ := B_push2 k1 (show n + 1 < 260 by omega) 19 0 0 14 0 0
      rw [ey]
      have fr := k3.tr r2 (Nat.le_refl _) (Nat.le_refl _)
      have T0 := FR_TS fr (Nat.le_refl _) (show a ≤ a' by omega) hT
      have T1 : q_TS Γ nb y md (md + 1) a' (n + 1) (b, 2, none :: t, d + 1, nm) := TS_cons (kd := 19) hb (by decide) r3.1 ⟨rfl, (by show 1 ≤ d + 1; omega), rfl⟩ T0
      have T3 : q_TS Γ nb y md (md + 1) a' (n + 2) (b, 2, t, d + 1, nm) := TS_cons (kd := 14) hb (by decide) r4.1 ⟨rfl, (by show n + 1 ≤ 5 + 2 * g_l Γ b + 5 * (d + 1); omega), rfl⟩ T1
      have hh := k1.le
      have wx := FR_w k3
      refine CB_CI r1 (q_E0 h0) (Nat.le_refl _) T3 ?_ ?_
      · rw [r5, wx.1]; show md + (0 + (0 + q_we x n)) ≤ _; omega
      · rw [r6, wx.2]; show 5 + (1 + q_wt x n) + 8 * (ty - a') ≤ r; omega
  rw [if_neg c2]
  by_cases c3 : x.1 3 = 2
  · rw [if_pos c3, e_peek]
    obtain ⟨of, ff⟩ := L_find hL.h15 (by omega) (x.1 5)
    have opk := (L_peek hL).1
    suffices key : ∀ w : Int32, w = 0 ∨ w = 1 → p_factor_101 x (m_find x (x.1 5)) w ∧ q_SR (k_factor_101 x (m_find x (x.1 5)) w) ty r by
      have k1 := key 1 (Or.inr rfl)
      have k0 := key 0 (Or.inl rfl)
      refine ⟨⟨fun q => absurd q c1, fun _ => ⟨fun q => absurd q c2, fun _ => ⟨fun _ => ⟨of, opk, fun _ => k1.1, fun _ => k0.1⟩, fun q => absurd c3 q⟩⟩⟩, ?_⟩
      split
      · exact k1.2
      · exact k0.2
    intro w hw01
    rw [p_factor_101, k_factor_101]
    rcases ff with ff | ⟨k, hk, ff, -⟩
    · rw [ff, if_neg (by decide)]
      exact ⟨⟨fun q => absurd q (by decide), fun _ => trivial⟩, Or.inl (e_fail (by decide))⟩
    · have hpos : (0 : Int32) ≤ nI k := nI_pos' (by omega)
      have ki : vp_in (nI k) 100 := q_in (by omega) (by decide)
      rw [ff, if_pos hpos, q_g x 17 k (by omega)]
      have o144 : ∀ z : nM, q_L z n nm md 1 → ∀ v2 w0 w1, p_factor_144 z (nI k) v2 w0 w1 := fun z hz v2 w0 w1 => by
        obtain ⟨e1, e2, -⟩ := L_emit hz (by omega) 1 (m_links z (nI k)) (nm_g z 19 (nI k))
        obtain ⟨e3, e4⟩ := L_goOn hz
        obtain ⟨e5, e6⟩ := L_open e4
        obtain ⟨e7, e8⟩ := L_push e6 (by omega) 20 (nI k) 0
        exact ⟨fun _ => ⟨fun _ => ⟨L_links _ (by omega), ki, e1, (L_goOn e2).1, trivial⟩, fun _ => ⟨e3, e5, e7, (L_push e8 (by omega) _ _ _).1, trivial⟩⟩, fun _ => trivial⟩
      by_cases d2 : x.2 17 k = 2
      · rw [if_pos d2]
        exact ⟨⟨fun _ => ⟨ki, fun _ => trivial, fun q => absurd d2 q⟩, fun q => absurd hpos q⟩, Or.inl (by rw [k_factor_147]; exact e_fail (by decide))⟩
      rw [if_neg d2]
      obtain ⟨v, v1, v2, v3, v4⟩ := q_lnk h hk
      by_cases d1 : x.2 17 k = 1
      · rw [if_pos d1]
        refine ⟨⟨fun _ => ⟨ki, fun q => absurd q d2, fun _ => ⟨ki, fun _ => o144 x hL _ _ _, fun q => absurd d1 q⟩⟩, fun q => absurd hpos q⟩, ?_⟩
        rw [k_factor_144]
        by_cases w1 : w = 1
        · rw [if_pos w1, if_neg (by rw [w1]; decide)]
          obtain ⟨a1, b1, p1, p2, p3, p4⟩ := B_goOn h
          have pp := p3 (by rw [c3]; decide)
          rcases B_open p1 with q | ⟨a', b', k1, ⟨k2, -⟩, k3, k4⟩
          · exact Or.inl (by rw [f_push _ _ _ _ 7 (by decide), f_push _ _ _ _ 7 (by decide)]; exact q)
          · obtain ⟨y, ey, r1, r2, r3, r4, r5, r6⟩ := B_push2 k1 (show n + 1 < 260 by omega) 20 (nI k) 0 14 0 0
            rw [ey]
            have f0 := p4.tr k3 (Nat.le_refl _) (Nat.le_refl _)
            have fr := f0.tr r2 (Nat.le_refl _) (Nat.le_refl _)
            have T0 := FR_TS fr (Nat.le_refl _) (show a ≤ a' by omega) hT
            have T1 : q_TS Γ nb y md (md + 1) a' (n + 1) (b, 2, none :: t, d + 1, nm) := TS_cons (kd := 20) hb (by decide) r3.1 (by
              rw [r3.2.1, r3.2.2]
              exact ⟨rfl, (by show 1 ≤ d + 1; omega), ⟨t, rfl⟩, ⟨k, rfl, hk, by rw [fr.2.1 17 (by decide) (by decide)]; exact d1⟩, rfl⟩) T0
            have T3 : q_TS Γ nb y md (md + 1) a' (n + 2) (b, 2, t, d + 1, nm) := TS_cons (kd := 14) hb (by decide) r4.1 ⟨rfl, (by show n + 1 ≤ 5 + 2 * g_l Γ b + 5 * (d + 1); omega), rfl⟩ T1
            have hh := k1.le
            have wx := FR_w f0
            refine CB_CI r1 (q_E0 h0) (Nat.le_refl _) T3 ?_ ?_
            · rw [r5, wx.1]; show md + (0 + (0 + q_we x n)) ≤ _; omega
            · rw [r6, wx.2]; show 5 + (1 + q_wt x n) + 8 * (ty - a') ≤ r; omega
        · rw [if_neg w1, k_factor_147]; exact Or.inl (e_fail (by decide))
      · rw [if_neg d1]
        refine ⟨⟨fun _ => ⟨ki, fun q => absurd q d2, fun _ => ⟨ki, fun q => absurd q d1, fun _ => o144 x hL _ _ _⟩⟩, fun q => absurd hpos q⟩, ?_⟩
        rw [k_factor_144]
        by_cases w0 : w = 0
        · rw [if_pos w0, if_pos w0, v3, q_g x 19 k (by omega)]
          have hv : q_var Γ b (nI (g_l Γ b - v)) (x.2 19 k) := by
            rcases v4 with ⟨_, q⟩ | ⟨q, _⟩ | ⟨q, _⟩
            · exact ⟨_, rfl, Nat.sub_le _ _, q⟩
            · exact absurd q d1
            · exact absurd q d2
          have ge : q_GE Γ (q_ga Γ (md + 1) (b, some (none :: t))) nb (md + 1) := q_ga.ge h.2.2.2.2.2.2.2.2.2.2.1.p (Nat.le_refl _)
          have am : g_a (q_ga Γ (md + 1) (b, some (none :: t))) md = (b, some t) := (ge.2.1 md (by omega)).trans h.2.2.2.2.2.2.2.2.2.2.2.2.2
          obtain ⟨k1, k2, -⟩ := B_emit (t' := none :: t) (E' := E) h (by omega) 1 (nI (g_l Γ b - v)) (x.2 19 k) (fun _ q => q) (fun O' L' A' q1 q2 q3 => ⟨by rw [am]; exact hb, Or.inl ⟨b, t, none :: t, am, q_ga.at, by rw [q1, q2, q3]; exact Or.inr (Or.inl ⟨rfl, ge.var hb hv, rfl⟩)⟩⟩) (fun q => absurd q (by decide))
          obtain ⟨a', b', q1, q2, q3, q4⟩ := B_goOn k1
          have hp := q3 (by rw [f_emit _ _ _ _ 3 (by decide), c3]; decide)
          have fr := k2.tr q4 (Nat.le_refl _) (by omega)
          have hh := q1.le
          exact CB_CI q1 (q_E0 h0) (Nat.le_refl _) (FR_TS fr (by omega) (by omega) hT) (by rw [(FR_w fr).1]; omega) (by rw [(FR_w fr).2]; omega)
        · rw [if_neg w0, k_factor_147]; exact Or.inl (e_fail (by decide))
  · rw [if_neg c3]
    exact ⟨⟨fun q => absurd q c1, fun _ => ⟨fun q => absurd q c2, fun _ => ⟨fun q => absurd q c3, fun _ => trivial⟩⟩⟩, Or.inl (e_fail (by decide))⟩
/-! branches and repetitions -/
theorem B_jump {x : nM} {Γ : q_G} {nb ty a b0 n nm md b d : Nat} {t : q_Ty} {E E' : Nat → Prop} (h : q_CB x Γ nb ty a b0 n nm md b t d E) (hm : md < 400) (O A : Int32) (hO : (O = 7 ∧ t = []) ∨ (O = 8 ∧ ∃ u, t = [u])) (hE : ∀ i, E i → E' i) (htq : E' md ∨ ∃ j, A = nI j ∧ j ≤ md ∧ g_a Γ j = (b, some [])) :
    ∃ Δ, q_CB (m_emit x O 0 A).1 Δ nb ty a b0 n nm (md + 1) b [] d E' ∧ q_FR x (m_emit x O 0 A).1 Γ Δ nb n md ∧ (m_emit x O 0 A).2 = nI md ∧ (m_emit x O 0 A).1.2 26 md = O ∧ g_a Δ md = (b, some t) := by
  obtain ⟨ha, hd, hl, hb, hnm, hat⟩ := h.le
  have ge : q_GE Γ (q_ga Γ (md + 1) (b, some [])) nb (md + 1) := q_ga.ge h.2.2.2.2.2.2.2.2.2.2.1.p (Nat.le_refl _)
  have am : g_a (q_ga Γ (md + 1) (b, some [])) md = (b, some t) := (ge.2.1 md (by omega)).trans h.2.2.2.2.2.2.2.2.2.2.2.2.2
  obtain ⟨k1, k2, k3, k4, k5⟩ := B_emit (t' := []) (E' := E') h hm O 0 A hE (fun O' L' A' q1 q2 q3 => by
    refine ⟨by rw [am]; exact hb, ?_⟩
    rcases hO with ⟨rfl, rfl⟩ | ⟨rfl, u, rfl⟩
    · exact Or.inr (Or.inr (Or.inr (Or.inl ⟨q1, b, Or.inr am⟩)))
    · exact Or.inr (Or.inr (Or.inr (Or.inr (Or.inl ⟨q1, b, u, am, q_ga.at⟩))))) (fun _ => htq)
  exact ⟨_, k1, k2, k3, k4, k5⟩
/-- THEN -/
theorem S_8 {x : nM} {Γ : q_G} {nb ty a b0 n nm md b d ns r : Nat} {u : Option Nat} {E : Nat → Prop} (f s : Int32) (h : q_CB x Γ nb ty a b0 n nm md b [u] d E) (h0 : ∀ i, ¬ E i) (hs : ns ≤ nm) (hd : 1 ≤ d) (hn : n + 5 ≤ 3 + 2 * g_l Γ b + 5 * d) (hT : q_TS Γ nb x md (md + 1) a n (b, 2, [], d - 1, ns)) (hw : md + q_we x n ≤ 2 * a + 3) (hr : 1 + q_wt x n + 8 * (ty - a) ≤ r + 1) : o_branches x 8 f s ∧ q_SR (m_branches x 8 f s) ty r := by
  obtain ⟨ha, hd6, hl, hb, hnm, hat⟩ := h.le
  obtain ⟨o1, l1⟩ := L_expect h.L 10
  obtain ⟨o2, l2, -⟩ := L_emit l1 (by omega) 8 0 0
  obtain ⟨o3, l3⟩ := L_push l2 (by omega) 9 (m_emit (m_expect x 10) 8 0 0).2 0
  have o4 := (L_push l3 (by omega) 6 0 0).1
  rw [o_branches, m_branches, if_pos rfl]
  refine ⟨⟨fun _ => ⟨o1, o2, o3, o4, trivial⟩, fun q => absurd rfl q⟩, ?_⟩
  by_cases c : x.1 3 = 10
  · have e : m_expect x 10 = m_goOn x := by rw [m_expect, if_pos c]
    rw [e]
    obtain ⟨a', b', q1, q2, q3, q4⟩ := B_goOn h
    have hp := q3 (by rw [c]; decide)
    obtain ⟨Δ, k1, k2, k3, k4, k5⟩ := B_jump (E' := fun i => i = md) q1 (by omega) 8 0 (Or.inr ⟨rfl, u, rfl⟩) (fun i q => absurd q (h0 i)) (Or.inl rfl)
    rw [k3]
    obtain ⟨y, ey, r1, r2, r3, r4, r5, r6⟩ := B_push2 k1 (show n + 1 < 260 by omega) 9 (nI md) 0 6 0 0
    rw [ey]
    have f0 := q4.tr k2 (Nat.le_refl _) (Nat.le_refl _)
    have f1 := f0.tr r2 (Nat.le_refl _) (by omega)
    have gl : g_l Δ b = g_l Γ b := (f0.2.2.2.1 b hb).2.2.2.1
    have T0 := FR_TS f1 (show md ≤ md + 1 by omega) (show a ≤ a' by omega) hT
    have T1 : q_TS Δ nb y (md + 1) (md + 1 + 1) a' (n + 1) (b, 2, [], d, ns) := TS_cons (kd := 9) hb (by decide) r3.1 (by
      rw [r3.2.1, r3.2.2]
      exact ⟨rfl, rfl, hd, (by show n + 5 ≤ 3 + 2 * g_l Δ b + 5 * d; omega), ⟨md, rfl, by omega, ⟨[u], k5⟩, by rw [r2.2.2.1 md (by omega)]; exact k4⟩, rfl⟩) T0
    have T3 : q_TS Δ nb y (md + 1) (md + 1 + 1) a' (n + 2) (b, 2, [], d, ns) := TS_cons (kd := 6) hb (by decide) r4.1 ⟨rfl, rfl, (by show n + 1 ≤ 3 + 2 * g_l Δ b + 5 * d; omega), rfl⟩ T1
    have hh := q1.le
    have wx := FR_w f0
    refine CB_CI r1 (fun i _ q => ⟨n, by omega, Or.inr (Or.inl ⟨r3.1, by rw [q]; exact r3.2.1⟩)⟩) hs T3 ?_ ?_
    · rw [r5, wx.1]; show md + 1 + (0 + (0 + q_we x n)) ≤ _; omega
    · rw [r6, wx.2]; show 1 + (1 + q_wt x n) + 8 * (ty - a') ≤ r; omega
  · have e : m_expect x 10 = m_fail x 1 (x.1 4) := by rw [m_expect, if_neg c]
    rw [e]
    exact Or.inl (by rw [f_push _ _ _ _ 7 (by decide), f_push _ _ _ _ 7 (by decide), f_emit _ _ _ _ 7 (by decide)]; exact e_fail (by decide))
/-- the end of an if: its jump led here, one less deep -/
theorem S_105 {x : nM} {Γ : q_G} {nb ty a b0 n nm md b d ns r j : Nat} {t : q_Ty} {E : Nat → Prop} (h : q_CB x Γ nb ty a b0 n nm md b [] d E) (hE : ∀ i, E i → i = j) (hs : ns ≤ nm) (hd : 1 ≤ d) (hj : j < md) (hm : md < 400) (haj : g_a Γ j = (b, some t)) (hO : x.2 26 j = 7 ∨ x.2 26 j = 8) (hT : q_TS Γ nb x md (md + 1) a n (b, 2, [], d - 1, ns)) (hw : md + q_we x n ≤ 2 * a + 3) (hr : 1 + q_wt x n + 8 * (ty - a) ≤ r + 1) : q_SR (nm_f (nm_a x 28 (nI j) (x.1 25)) 24 (x.1 24 - 1)) ty r := by
  have h8 := h.le
  obtain ⟨k1, k2⟩ := B_patch (E' := fun _ => False) h hj hm haj hO (fun i q => Or.inl (hE i q))
  have h24 : x.1 24 = nI d := h.2.2.2.2.2.2.1
  obtain ⟨k3, k4⟩ := B_deep (d' := d - 1) k1 (x.1 24 - 1) (by rw [h24, show d = d - 1 + 1 by omega]; exact nz_dm (d - 1)) (by omega)
  have fr := k2.tr k4 (Nat.le_refl _) (Nat.le_refl _)
  exact CB_CI k3 (fun _ _ q => q.elim) hs (FR_TS fr (Nat.le_refl _) (Nat.le_refl _) hT) (by rw [(FR_w fr).1]; exact hw) (by rw [(FR_w fr).2]; omega)
/-- ELSE -/
theorem S_9 {x : nM} {Γ : q_G} {nb ty a b0 n nm md b d ns r j : Nat} {t : q_Ty} {E : Nat → Prop} (s : Int32) (h : q_CB x Γ nb ty a b0 n nm md b [] d E) (hE : ∀ i, E i → i = j) (hs : ns ≤ nm) (hd : 1 ≤ d) (hn : n + 5 ≤ 3 + 2 * g_l Γ b + 5 * d) (hj : j < md) (haj : g_a Γ j = (b, some t)) (hO : x.2 26 j = 8) (hT : q_TS Γ nb x md (md + 1) a n (b, 2, [], d - 1, ns)) (hw : md + q_we x n ≤ 2 * a + 3) (hr : 1 + q_wt x n + 8 * (ty - a) ≤ r + 1) : o_branches x 9 (nI j) s ∧ q_SR (m_branches x 9 (nI j) s) ty r := by
  obtain ⟨ha, hd6, hl, hb, hnm, hat⟩ := h.le
  have ji : vp_in (nI j) 400 := q_in (by omega) (by decide)
  obtain ⟨o1, l1⟩ := L_goOn h.L
  obtain ⟨o2, l2, -⟩ := L_emit l1 (by omega) 7 0 0
  obtain ⟨o3, l3⟩ := L_push l2 (by omega) 10 (m_emit (m_goOn x) 7 0 0).2 0
  have o4 := (L_push (l3.a 28 (nI j) ((m_push (m_emit (m_goOn x) 7 0 0).1 10 (m_emit (m_goOn x) 7 0 0).2 0).1 25)) (by omega) 6 0 0).1
  rw [o_branches, m_branches, if_neg (by decide), if_pos rfl]
  by_cases c : x.1 3 = 11
  · rw [if_pos c]
    refine ⟨⟨fun q => absurd q (by decide), fun _ => ⟨fun _ => ⟨fun _ => ⟨o1, o2, o3, ji, o4, trivial⟩, fun q => absurd c q⟩, fun q => absurd rfl q⟩⟩, ?_⟩
    obtain ⟨a', b', q1, q2, q3, q4⟩ := B_goOn h
    have hp := q3 (by rw [c]; decide)
    obtain ⟨Δ, k1, k2, k3, k4, k5⟩ := B_jump (E' := fun i => i = j ∨ i = md) q1 (by omega) 7 0 (Or.inl ⟨rfl, rfl⟩) (fun i q => Or.inl (hE i q)) (Or.inl (Or.inr rfl))
    rw [k3]
    obtain ⟨p1, p2, p3, p4, p5⟩ := B_push k1 (show n < 260 by omega) 10 (nI md) 0
    have f0 := q4.tr k2 (Nat.le_refl _) (Nat.le_refl _)
    have f1 := f0.tr p2 (Nat.le_refl _) (by omega)
    obtain ⟨s1, s2⟩ := B_patch (j := j) (E' := fun i => i = md) p1 (by omega) (by omega) (t := t) (by rw [f0.2.2.2.2.1 j (by omega)]; exact haj) (Or.inr (by rw [f1.2.2.1 j hj]; exact hO)) (fun i q => q)
    obtain ⟨t1, t2, t3, t4, t5⟩ := B_push s1 (show n + 1 < 260 by omega) 6 0 0
    generalize hy : m_push (nm_a (m_push (m_emit (m_goOn x) 7 0 0).1 10 (nI md) 0) 28 (nI j) ((m_push (m_emit (m_goOn x) 7 0 0).1 10 (nI md) 0).1 25)) 6 0 0 = y at *
    have f2 := (f1.tr s2 (Nat.le_refl n |> fun _ => by omega) (by omega)).tr t2 (by omega) (by omega)
    have f3 := s2.tr t2 (by omega) (Nat.le_refl _)
    have gl : g_l Δ b = g_l Γ b := (f0.2.2.2.1 b hb).2.2.2.1
    have y10 : y.2 12 n = 10 ∧ y.2 13 n = nI md ∧ y.2 14 n = 0 := by
      obtain ⟨w1, w2, w3⟩ := f3.1 n (by omega)
      exact ⟨w1.trans p3, w2.trans p4, w3.trans p5⟩
    have T0 := FR_TS f2 (show md ≤ md + 1 by omega) (show a ≤ a' by omega) hT
    have y26 : y.2 26 md = 7 := by rw [f3.2.2.1 md (by omega), p2.2.2.1 md (by omega)]; exact k4
    have T1 : q_TS Δ nb y (md + 1) (md + 1 + 1) a' (n + 1) (b, 2, [], d, ns) := TS_cons (kd := 10) hb (by decide) y10.1 (by
      rw [y10.2.1, y10.2.2]
      exact ⟨rfl, rfl, hd, (by show n + 5 ≤ 3 + 2 * g_l Δ b + 5 * d; omega), ⟨md, rfl, by omega, ⟨[], k5⟩, y26⟩, rfl⟩) T0
    have T3 : q_TS Δ nb y (md + 1) (md + 1 + 1) a' (n + 2) (b, 2, [], d, ns) := TS_cons (kd := 6) hb (by decide) t3 ⟨rfl, rfl, (by show n + 1 ≤ 3 + 2 * g_l Δ b + 5 * d; omega), rfl⟩ T1
    have hh := q1.le
    have wx := FR_w f2
    refine CB_CI t1 (fun i _ q => ⟨n, by omega, Or.inr (Or.inr (Or.inl ⟨y10.1, by rw [q]; exact y10.2.1⟩))⟩) hs T3 ?_ ?_
    · rw [q_we, q_we, t3, y10.1, wx.1]; show md + 1 + (0 + (0 + q_we x n)) ≤ _; omega
    · rw [q_wt, q_wt, t3, y10.1, wx.2]; show 1 + (1 + q_wt x n) + 8 * (ty - a') ≤ r; omega
  · rw [if_neg c, k_branches_93, if_pos rfl, k_branches_105]
    refine ⟨⟨fun q => absurd q (by decide), fun _ => ⟨fun _ => ⟨fun q => absurd q c, fun _ => ⟨fun _ => ⟨ji, trivial⟩, fun q => absurd rfl q⟩⟩, fun q => absurd rfl q⟩⟩, ?_⟩
    exact S_105 h hE hs hd hj (by omega) haj (Or.inr hO) hT hw hr
/-- IF_END -/
theorem S_10 {x : nM} {Γ : q_G} {nb ty a b0 n nm md b d ns r j : Nat} {t : q_Ty} {E : Nat → Prop} (s : Int32) (h : q_CB x Γ nb ty a b0 n nm md b [] d E) (hE : ∀ i, E i → i = j) (hs : ns ≤ nm) (hd : 1 ≤ d) (hj : j < md) (haj : g_a Γ j = (b, some t)) (hO : x.2 26 j = 7) (hT : q_TS Γ nb x md (md + 1) a n (b, 2, [], d - 1, ns)) (hw : md + q_we x n ≤ 2 * a + 3) (hr : 1 + q_wt x n + 8 * (ty - a) ≤ r + 1) : o_branches x 10 (nI j) s ∧ q_SR (m_branches x 10 (nI j) s) ty r := by
  obtain ⟨ha, hd6, hl, hb, hnm, hat⟩ := h.le
  have ji : vp_in (nI j) 400 := q_in (by omega) (by decide)
  rw [o_branches, m_branches, if_neg (by decide), if_neg (by decide), k_branches_93, if_neg (by decide), if_pos rfl, k_branches_105]
  refine ⟨⟨fun q => absurd q (by decide), fun _ => ⟨fun q => absurd q (by decide), fun _ => ⟨fun q => absurd q (by decide), fun _ => ⟨fun _ => ⟨ji, trivial⟩, fun q => absurd rfl q⟩⟩⟩⟩, S_105 h hE hs hd hj (by omega) haj (Or.inl hO) hT hw hr⟩
/-- DO -/
theorem S_11 {x : nM} {Γ : q_G} {nb ty a b0 n nm md b d ns r j : Nat} {u : Option Nat} {E : Nat → Prop} (s : Int32) (h : q_CB x Γ nb ty a b0 n nm md b [u] d E) (h0 : ∀ i, ¬ E i) (hs : ns ≤ nm) (hd : 1 ≤ d) (hn : n + 5 ≤ 3 + 2 * g_l Γ b + 5 * d) (hj : j < md + 1) (haj : g_a Γ j = (b, some [])) (hT : q_TS Γ nb x md (md + 1) a n (b, 2, [], d - 1, ns)) (hw : md + q_we x n ≤ 2 * a + 3) (hr : 1 + q_wt x n + 8 * (ty - a) ≤ r + 1) : o_branches x 11 (nI j) s ∧ q_SR (m_branches x 11 (nI j) s) ty r := by
  obtain ⟨ha, hd6, hl, hb, hnm, hat⟩ := h.le
  obtain ⟨o1, l1⟩ := L_expect h.L 13
  obtain ⟨o2, l2, -⟩ := L_emit l1 (by omega) 8 0 0
  obtain ⟨o3, l3⟩ := L_push l2 (by omega) 12 (nI j) (m_emit (m_expect x 13) 8 0 0).2
  have o4 := (L_push l3 (by omega) 6 0 0).1
  rw [o_branches, m_branches, if_neg (by decide), if_neg (by decide), k_branches_93, if_neg (by decide), if_neg (by decide), if_pos rfl]
  refine ⟨⟨fun q => absurd q (by decide), fun _ => ⟨fun q => absurd q (by decide), fun _ => ⟨fun q => absurd q (by decide), fun _ => ⟨fun q => absurd q (by decide), fun _ => ⟨fun _ => ⟨o1, o2, o3, o4, trivial⟩, fun q => absurd rfl q⟩⟩⟩⟩⟩, ?_⟩
  by_cases c : x.1 3 = 13
  · have e : m_expect x 13 = m_goOn x := by rw [m_expect, if_pos c]
    rw [e]
    obtain ⟨a', b', q1, q2, q3, q4⟩ := B_goOn h
    have hp := q3 (by rw [c]; decide)
    obtain ⟨Δ, k1, k2, k3, k4, k5⟩ := B_jump (E' := fun i => i = md) q1 (by omega) 8 0 (Or.inr ⟨rfl, u, rfl⟩) (fun i q => absurd q (h0 i)) (Or.inl rfl)
    rw [k3]
    obtain ⟨y, ey, r1, r2, r3, r4, r5, r6⟩ := B_push2 k1 (show n + 1 < 260 by omega) 12 (nI j) (nI md) 6 0 0
    rw [ey]
    have f0 := q4.tr k2 (Nat.le_refl _) (Nat.le_refl _)
    have f1 := f0.tr r2 (Nat.le_refl _) (by omega)
    have gl : g_l Δ b = g_l Γ b := (f0.2.2.2.1 b hb).2.2.2.1
    have T0 := FR_TS f1 (show md ≤ md + 1 by omega) (show a ≤ a' by omega) hT
    have T1 : q_TS Δ nb y (md + 1) (md + 1 + 1) a' (n + 1) (b, 2, [], d, ns) := TS_cons (kd := 12) hb (by decide) r3.1 (by
      rw [r3.2.1, r3.2.2]
      exact ⟨rfl, rfl, hd, ⟨j, rfl, by omega, by rw [f0.2.2.2.2.1 j (by omega)]; exact haj⟩, ⟨md, rfl, by omega, ⟨[u], k5⟩, by rw [r2.2.2.1 md (by omega)]; exact k4⟩, rfl⟩) T0
    have T3 : q_TS Δ nb y (md + 1) (md + 1 + 1) a' (n + 2) (b, 2, [], d, ns) := TS_cons (kd := 6) hb (by decide) r4.1 ⟨rfl, rfl, (by show n + 1 ≤ 3 + 2 * g_l Δ b + 5 * d; omega), rfl⟩ T1
    have hh := q1.le
    have wx := FR_w f0
    refine CB_CI r1 (fun i _ q => ⟨n, by omega, Or.inr (Or.inr (Or.inr ⟨r3.1, by rw [q]; exact r3.2.2⟩))⟩) hs T3 ?_ ?_
    · rw [r5, wx.1]; show md + 1 + (0 + (1 + q_we x n)) ≤ _; omega
    · rw [r6, wx.2]; show 1 + (1 + q_wt x n) + 8 * (ty - a') ≤ r; omega
  · have e : m_expect x 13 = m_fail x 1 (x.1 4) := by rw [m_expect, if_neg c]
    rw [e]
    exact Or.inl (by rw [f_push _ _ _ _ 7 (by decide), f_push _ _ _ _ 7 (by decide), f_emit _ _ _ _ 7 (by decide)]; exact e_fail (by decide))
/-- WHILE_END -/
theorem S_12 {x : nM} {Γ : q_G} {nb ty a b0 n nm md b d ns r j k : Nat} {t : q_Ty} {E : Nat → Prop} (h : q_CB x Γ nb ty a b0 n nm md b [] d E) (hE : ∀ i, E i → i = k) (hs : ns ≤ nm) (hd : 1 ≤ d) (hj : j < md + 1) (haj : g_a Γ j = (b, some [])) (hk : k < md) (hak : g_a Γ k = (b, some t)) (hO : x.2 26 k = 8) (hT : q_TS Γ nb x md (md + 1) a n (b, 2, [], d - 1, ns)) (hw : md + (1 + q_we x n) ≤ 2 * a + 3) (hr : 1 + q_wt x n + 8 * (ty - a) ≤ r + 1) : o_branches x 12 (nI j) (nI k) ∧ q_SR (m_branches x 12 (nI j) (nI k)) ty r := by
  obtain ⟨ha, hd6, hl, hb, hnm, hat⟩ := h.le
  have ki : vp_in (nI k) 400 := q_in (by omega) (by decide)
  have o2 := (L_emit h.L (show md < 400 by omega) 7 0 (nI j)).1
  rw [o_branches, m_branches, if_neg (by decide), if_neg (by decide), k_branches_93, if_neg (by decide), if_neg (by decide), if_neg (by decide)]
  refine ⟨⟨fun q => absurd q (by decide), fun _ => ⟨fun q => absurd q (by decide), fun _ => ⟨fun q => absurd q (by decide), fun _ => ⟨fun q => absurd q (by decide), fun _ => ⟨fun q => absurd q (by decide), fun _ => ⟨o2, ki, trivial⟩⟩⟩⟩⟩⟩, ?_⟩
  obtain ⟨Δ, k1, k2, k3, k4, k5⟩ := B_jump (E' := fun i => i = k) h (by omega) 7 (nI j) (Or.inl ⟨rfl, rfl⟩) (fun i q => hE i q) (Or.inr ⟨j, rfl, by omega, haj⟩)
  refine S_105 (j := k) (t := t) k1 (fun i q => q) hs hd (by omega) (by omega) (by rw [k2.2.2.2.2.1 k (by omega)]; exact hak) (Or.inr (by rw [k2.2.2.1 k hk]; exact hO)) (FR_TS k2 (by omega) (Nat.le_refl _) hT) (by rw [(FR_w k2).1]; omega) (by rw [(FR_w k2).2]; omega)
/-! statements -/
theorem q_te {x : nM} : ∀ (n j : Nat), j ≤ 260 → j < n → p_takesElse_7 n x (nI j - 1) := by
  intro n
  induction n with
  | zero => intro j _ h; omega
  | succ n ih =>
    intro j hj hn
    rw [p_takesElse_7]
    cases j with
    | zero => exact ⟨fun _ => ⟨fun _ => trivial, fun q => absurd q_m1 q⟩, fun q => absurd q_m1 q⟩
    | succ j =>
      have e : nI (j + 1) - 1 = nI j := nz_dm j
      rw [e]
      have h0 : ¬ nI j < 0 := nI_pos (by omega)
      have hin : vp_in (nI j) 260 := q_in (by omega) (by decide)
      have e2 : nI j + -1 = nI j - 1 := (nz_sm _).symm
      rw [e2]
      have k := ih j (by omega) (by omega)
      exact ⟨fun q => absurd q h0, fun _ => ⟨hin, fun _ => k, fun _ => ⟨hin, fun _ => k, fun _ => ⟨fun q => absurd q h0, fun _ => ⟨hin, fun _ => trivial, fun _ => trivial⟩⟩⟩⟩⟩
theorem L_te {x : nM} {nt nm md s : Nat} (h : q_L x nt nm md s) (hn : nt ≤ 260) : o_takesElse x := by
  unfold o_takesElse
  rw [h.h11]
  exact q_te 300 nt hn (by omega)
theorem L_c40 {x : nM} {nt nm md s : Nat} (h : q_L x nt nm md s) (hn : nt < 250) (k : Int32) : p_call_40 x k := by
  obtain ⟨o1, l1⟩ := L_open h
  obtain ⟨o2, l2⟩ := L_push l1 (by omega) 22 k 1
  exact ⟨o1, o2, (L_push l2 (by omega) 14 0 0).1, trivial⟩
theorem L_c100 {x : nM} {nt nm md s k : Nat} (h : q_L x nt nm md s) (hm : md < 390) (hk : k < 100) (w : Int32) : p_call_100 x (nI k) w := by
  have ki : vp_in (nI k) 100 := q_in hk (by decide)
  have o127 : ∀ z : nM, q_L z nt nm md s → p_call_127 z (nI k) := fun z hz => ⟨L_links _ hk, ki, (L_emit hz (by omega) _ _ _).1, trivial⟩
  exact ⟨ki, fun _ => o127 x h, fun _ => ⟨fun _ => o127 _ (L_fail h _ _), fun _ => o127 _ (L_fail h _ _)⟩⟩
theorem L_call {x : nM} {nt nm md s k : Nat} (h : q_L x nt nm md s) (hn : nt < 250) (hm : md < 390) (hk : k < 100) : o_call x (nI k) := by
  obtain ⟨o1, l1⟩ := L_goOn h
  have ki : vp_in (nI k) 100 := q_in hk (by decide)
  exact ⟨o1, fun _ => ⟨fun _ => L_c40 l1 hn _, fun _ => ⟨ki, fun _ => L_c40 (L_fail l1 _ _) hn _, fun _ => L_c40 l1 hn _⟩⟩, fun _ => ⟨fun _ => L_c100 l1 hm hk _, fun _ => ⟨fun _ => L_c100 l1 hm hk _, fun _ => ⟨fun _ => ⟨L_te l1 (by omega), fun _ => L_c100 l1 hm hk _, fun _ => L_c100 l1 hm hk _⟩, fun _ => L_c100 l1 hm hk _⟩⟩⟩⟩
theorem e_c127 {x : nM} {v : Int32} (h : x.1 7 ≠ 0) : (k_call_127 x v).1 7 ≠ 0 := by rw [k_call_127, f_emit _ _ _ _ 7 (by decide)]; exact h
theorem e_c40 {x : nM} {v : Int32} (h : x.1 7 ≠ 0) : (k_call_40 x v).1 7 ≠ 0 := by rw [k_call_40, f_push _ _ _ _ 7 (by decide), f_push _ _ _ _ 7 (by decide)]; exact e_open h
/-- a call -/
theorem S_call {x : nM} {Γ : q_G} {nb ty a b0 n nm md b d r k : Nat} {E : Nat → Prop} (h : q_CB x Γ nb ty a b0 n nm md b [] d E) (h0 : ∀ i, ¬ E i) (h3 : x.1 3 ≠ 0) (hk : k < nm) (h17 : x.2 17 k = 2) (hn : n ≤ 3 + 2 * g_l Γ b + 5 * d) (hT : q_TS Γ nb x md (md + 1) a n (b, 2, [], d, nm)) (hw : md + q_we x n ≤ 2 * a + 3) (hr : 1 + q_wt x n + 8 * (ty - a) ≤ r + 1) : q_SR (m_call x (nI k)) ty r := by
  obtain ⟨ha, hd6, hl, hb, hnm, hat⟩ := h.le
  obtain ⟨a1, b1, p1, p2, p3, p4⟩ := B_goOn h
  have pp := p3 h3
  have hh1 := p1.le
  have g17 : (m_goOn x).2 17 k = 2 := by rw [g_goOn]; exact h17
  generalize hg : m_goOn x = g at *
  have k40 : q_SR (k_call_40 g (nI k)) ty r := by
    rw [k_call_40]
    rcases B_open p1 with q | ⟨a', b', k1, ⟨k2, -⟩, k3, k4⟩
    · exact Or.inl (by rw [f_push _ _ _ _ 7 (by decide), f_push _ _ _ _ 7 (by decide)]; exact q)
    · obtain ⟨y, ey, r1, r2, r3, r4, r5, r6⟩ := B_push2 k1 (show n + 1 < 260 by omega) 22 (nI k) 1 14 0 0
      rw [ey]
      have f0 := p4.tr k3 (Nat.le_refl _) (Nat.le_refl _)
      have fr := f0.tr r2 (Nat.le_refl _) (Nat.le_refl _)
      have T0 := FR_TS fr (Nat.le_refl _) (show a ≤ a' by omega) hT
      have T1 : q_TS Γ nb y md (md + 1) a' (n + 1) (b, 2, [none], d + 1, nm) := TS_cons (kd := 22) hb (by decide) r3.1 (by
        rw [r3.2.1, r3.2.2]
        exact ⟨rfl, (by show 1 ≤ d + 1; omega), (by show n ≤ 4 + 2 * g_l Γ b + 5 * (d + 1); omega), ⟨k, rfl, hk, by rw [fr.2.1 17 (by decide) (by decide)]; exact h17⟩, ⟨1, rfl, by omega, rfl⟩, rfl⟩) T0
      have T3 : q_TS Γ nb y md (md + 1) a' (n + 2) (b, 2, [], d + 1, nm) := TS_cons (kd := 14) hb (by decide) r4.1 ⟨rfl, (by show n + 1 ≤ 5 + 2 * g_l Γ b + 5 * (d + 1); omega), rfl⟩ T1
      have hh := k1.le
      have wx := FR_w f0
      refine CB_CI r1 (q_E0 h0) (Nat.le_refl _) T3 ?_ ?_
      · rw [r5, wx.1]; show md + (0 + (0 + q_we x n)) ≤ _; omega
      · rw [r6, wx.2]; show 5 + (1 + q_wt x n) + 8 * (ty - a') ≤ r; omega
  have k100 : ∀ w, q_SR (k_call_100 g (nI k) w) ty r := fun w => by
    rw [k_call_100]
    have e20 : nm_g g 20 (nI k) = g.2 20 k := q_g g 20 k (by omega)
    by_cases c : nm_g g 20 (nI k) ≤ 0
    · rw [if_pos c, k_call_127]
      obtain ⟨v, v1, v2, v3, v4⟩ := q_lnk p1 hk
      rcases v4 with ⟨q5, _⟩ | ⟨q5, _⟩ | ⟨q5, cc, c1, c2, c3, c4, c5⟩
      · rw [g17] at q5; exact absurd q5 (by decide)
      · rw [g17] at q5; exact absurd q5 (by decide)
      · have e3 : g_n Γ cc ≤ 3 := (h.2.2.2.2.2.2.2.2.2.2.1.2.2.2 cc c1).2.1
        have z0 : g_n Γ cc = 0 := by
          rw [e20, c4] at c
          have := (nI_leI (b := 0) (show g_n Γ cc < 2 ^ 31 by omega) (by decide)).mp c
          omega
        obtain ⟨Δ, s1, s2⟩ := B_call (m := 0) p1 (by omega) hk g17 rfl (by rw [c4, z0]) (by omega)
        have fr := p4.tr s2 (Nat.le_refl _) (Nat.le_refl _)
        exact CB_CI s1 (q_E0 h0) (Nat.le_refl _) (FR_TS fr (by omega) (by omega) hT) (by rw [(FR_w fr).1]; omega) (by rw [(FR_w fr).2]; omega)
    · rw [if_neg c]
      split <;> (rw [k_call_120]; exact Or.inl (e_c127 (e_fail (by decide))))
  rw [m_call, hg]
  split
  · split
    · exact k40
    · split
      · exact Or.inl (e_c40 (e_fail (by decide)))
      · exact k40
  · split
    · exact k100 1
    · split
      · exact k100 1
      · split
        · split
          · exact k100 0
          · exact k100 1
        · exact k100 0
/-- a name in front of a statement -/
theorem S_named {x : nM} {Γ : q_G} {nb ty a b0 n nm md b d r : Nat} {E : Nat → Prop} (h : q_CB x Γ nb ty a b0 n nm md b [] d E) (h0 : ∀ i, ¬ E i) (h3 : x.1 3 = 2) (hn : n ≤ 3 + 2 * g_l Γ b + 5 * d) (hT : q_TS Γ nb x md (md + 1) a n (b, 2, [], d, nm)) (hw : md + q_we x n ≤ 2 * a + 3) (hr : 1 + q_wt x n + 8 * (ty - a) ≤ r + 1) : o_named x ∧ q_SR (m_named x) ty r := by
  obtain ⟨ha, hd6, hl, hb, hnm, hat⟩ := h.le
  have hL := h.L
  have hz : x.1 3 ≠ 0 := by rw [h3]; decide
  obtain ⟨of, ff⟩ := L_find hL.h15 (by omega) (x.1 5)
  have opk := (L_peek hL).1
  rw [o_named, m_named, e_peek]
  rcases ff with ff | ⟨k, hk, ff, -⟩
  · rw [ff, if_neg (by decide)]
    exact ⟨⟨of, opk, fun q => absurd q (by decide), fun _ => trivial⟩, Or.inl (e_fail (by decide))⟩
  have hpos : (0 : Int32) ≤ nI k := nI_pos' (by omega)
  have ki : vp_in (nI k) 100 := q_in (by omega) (by decide)
  rw [ff, if_pos hpos, q_g x 17 k (by omega)]
  have oc := L_call hL (show n < 250 by omega) (show md < 390 by omega) (show k < 100 by omega)
  obtain ⟨og, lg⟩ := L_goOn hL
  obtain ⟨oo, lo⟩ := L_open lg
  obtain ⟨op, lp⟩ := L_push lo (show n < 260 by omega) 21 (nI k) 0
  have op2 := (L_push lp (show n + 1 < 260 by omega) 14 0 0).1
  obtain ⟨og2, lg2⟩ := L_goOn lg
  obtain ⟨oq, lq⟩ := L_push lg2 (show n < 260 by omega) 23 (32 + m_links (m_goOn (m_goOn x)) (nI k)) (nm_g (m_goOn (m_goOn x)) 19 (nI k))
  have oq2 := (L_push lq (show n + 1 < 260 by omega) 14 0 0).1
  refine ⟨⟨of, opk, fun _ => ⟨ki, fun _ => ⟨fun _ => trivial, fun _ => ⟨fun _ => trivial, fun _ => ⟨oc, trivial⟩⟩⟩, fun _ => ⟨ki, fun _ => ⟨fun _ => ⟨og, oo, op, op2, trivial⟩, fun _ => trivial⟩, fun _ => ⟨fun _ => ⟨og, og2, L_links _ (by omega), ki, oq, oq2, trivial⟩, fun _ => trivial⟩⟩⟩, fun q => absurd hpos q⟩, ?_⟩
  obtain ⟨a1, b1, p1, p2, p3, p4⟩ := B_goOn h
  have pp := p3 hz
  by_cases d2 : x.2 17 k = 2
  · rw [if_pos d2]
    split
    · rw [k_named_52]; exact Or.inl (e_fail (by decide))
    · split
      · rw [k_named_52]; exact Or.inl (e_fail (by decide))
      · exact S_call h h0 hz hk d2 hn hT hw hr
  rw [if_neg d2]
  by_cases d1 : x.2 17 k = 1
  · rw [if_pos d1]
    split
    · rcases B_open p1 with q | ⟨a', b', k1, ⟨k2, -⟩, k3, k4⟩
      · exact Or.inl (by rw [f_push _ _ _ _ 7 (by decide), f_push _ _ _ _ 7 (by decide)]; exact q)
      · obtain ⟨y, ey, r1, r2, r3, r4, r5, r6⟩ := B_push2 k1 (show n + 1 < 260 by omega) 21 (nI k) 0 14 0 0
        rw [ey]
        have f0 := p4.tr k3 (Nat.le_refl _) (Nat.le_refl _)
        have fr := f0.tr r2 (Nat.le_refl _) (Nat.le_refl _)
        have T0 := FR_TS fr (Nat.le_refl _) (show a ≤ a' by omega) hT
        have T1 : q_TS Γ nb y md (md + 1) a' (n + 1) (b, 2, [none], d + 1, nm) := TS_cons (kd := 21) hb (by decide) r3.1 (by
          rw [r3.2.1, r3.2.2]
          exact ⟨rfl, (by show 1 ≤ d + 1; omega), rfl, (by show n + 5 ≤ 3 + 2 * g_l Γ b + 5 * (d + 1); omega), ⟨k, rfl, hk, by rw [fr.2.1 17 (by decide) (by decide)]; exact d1⟩, rfl⟩) T0
        have T3 : q_TS Γ nb y md (md + 1) a' (n + 2) (b, 2, [], d + 1, nm) := TS_cons (kd := 14) hb (by decide) r4.1 ⟨rfl, (by show n + 1 ≤ 5 + 2 * g_l Γ b + 5 * (d + 1); omega), rfl⟩ T1
        have hh := k1.le
        have wx := FR_w f0
        refine CB_CI r1 (q_E0 h0) (Nat.le_refl _) T3 ?_ ?_
        · rw [r5, wx.1]; show md + (0 + (0 + q_we x n)) ≤ _; omega
        · rw [r6, wx.2]; show 5 + (1 + q_wt x n) + 8 * (ty - a') ≤ r; omega
    · exact Or.inl (e_fail (by decide))
  rw [if_neg d1]
  split
  · obtain ⟨a2, b2, s1, s2, s3, s4⟩ := B_goOn p1
    obtain ⟨v, v1, v2, v3, v4⟩ := q_lnk s1 hk
    have f0 := p4.tr s4 (Nat.le_refl _) (Nat.le_refl _)
    have e17 : (m_goOn (m_goOn x)).2 17 k = x.2 17 k := by rw [f0.2.1 17 (by decide) (by decide)]
    have hv : q_var Γ b (nI (g_l Γ b - v)) ((m_goOn (m_goOn x)).2 19 k) := by
      rcases v4 with ⟨_, q⟩ | ⟨q, _⟩ | ⟨q, _⟩
      · exact ⟨_, rfl, Nat.sub_le _ _, q⟩
      · exact absurd (e17.symm.trans q) d1
      · exact absurd (e17.symm.trans q) d2
    rw [v3, q_g _ 19 k (by omega), show (32 : Int32) + nI (g_l Γ b - v) = nI (16 * 2 + (g_l Γ b - v)) from nI_add 32 _]
    obtain ⟨y, ey, r1, r2, r3, r4, r5, r6⟩ := B_push2 s1 (show n + 1 < 260 by omega) 23 (nI (16 * 2 + (g_l Γ b - v))) ((m_goOn (m_goOn x)).2 19 k) 14 0 0
    rw [ey]
    have fr := f0.tr r2 (Nat.le_refl _) (Nat.le_refl _)
    have T0 := FR_TS fr (Nat.le_refl _) (show a ≤ a2 by omega) hT
    have T1 : q_TS Γ nb y md (md + 1) a2 (n + 1) (b, 2, [none], d, nm) := TS_cons (kd := 23) hb (by decide) r3.1 (by
      rw [r3.2.1, r3.2.2]
      exact ⟨rfl, (by show n ≤ 8 + 2 * g_l Γ b + 5 * d; omega), 2, g_l Γ b - v, [], by decide, by omega, rfl, Or.inr (Or.inr (Or.inl ⟨rfl, hv, none, rfl⟩)), rfl⟩) T0
    have T3 : q_TS Γ nb y md (md + 1) a2 (n + 2) (b, 2, [], d, nm) := TS_cons (kd := 14) hb (by decide) r4.1 ⟨rfl, (by show n + 1 ≤ 5 + 2 * g_l Γ b + 5 * d; omega), rfl⟩ T1
    have hh := s1.le
    have wx := FR_w f0
    refine CB_CI r1 (q_E0 h0) (Nat.le_refl _) T3 ?_ ?_
    · rw [r5, wx.1]; show md + (0 + (1 + q_we x n)) ≤ _; omega
    · rw [r6, wx.2]; show 5 + (1 + q_wt x n) + 8 * (ty - a2) ≤ r; omega
  · exact Or.inl (e_fail (by decide))
/-- three tasks behind an opening word -/
theorem S_open3 {x : nM} {Γ : q_G} {nb ty a b0 n nm md b d r : Nat} {E : Nat → Prop} {u1 f1 u2 u3 : Int32} (h : q_CB x Γ nb ty a b0 n nm md b [] d E) (h0 : ∀ i, ¬ E i) (h3 : x.1 3 ≠ 0) (hn : n ≤ 3 + 2 * g_l Γ b + 5 * d) (hT : q_TS Γ nb x md (md + 1) a n (b, 2, [], d, nm)) (hw : md + q_we x n ≤ 2 * a + 3) (hr : 1 + q_wt x n + 8 * (ty - a) ≤ r + 1) (he : q_e1 u1 = 0 ∧ q_e1 u2 = 0 ∧ q_e1 u3 = 0) (ht : q_t1 u3 + (q_t1 u2 + q_t1 u1) ≤ 7)
    (hb3 : ∀ (y : nM) (a' : Nat), (y.2 12 n = u1 ∧ y.2 13 n = f1 ∧ y.2 14 n = 0) → (y.2 12 (n + 1) = u2 ∧ y.2 13 (n + 1) = 0 ∧ y.2 14 (n + 1) = 0) → (y.2 12 (n + 2) = u3 ∧ y.2 13 (n + 2) = 0 ∧ y.2 14 (n + 2) = 0) → q_TS Γ nb y md (md + 1) a' n (b, 2, [], d, nm) → q_TS Γ nb y md (md + 1) a' (n + 3) (b, 2, [], d + 1, nm)) :
    q_SR (m_push (m_push (m_push (m_open x) u1 f1 0) u2 0 0) u3 0 0) ty r := by
  obtain ⟨ha, hd6, hl, hb, hnm, hat⟩ := h.le
  rcases B_open h with q | ⟨a', b', k1, ⟨k2', k2⟩, k3, k4⟩
  · exact Or.inl (by rw [f_push _ _ _ _ 7 (by decide), f_push _ _ _ _ 7 (by decide), f_push _ _ _ _ 7 (by decide)]; exact q)
  · have hp := k2 h3
    obtain ⟨y, ey, r1, r2, r3, r4, r5, r6, r7⟩ := B_push3 k1 (show n + 2 < 260 by omega) u1 f1 0 u2 0 0 u3 0 0
    rw [ey]
    have T0 := FR_TS (k3.tr r2 (Nat.le_refl _) (Nat.le_refl _)) (Nat.le_refl _) k2' hT
    have hh := k1.le
    have wx := FR_w k3
    refine CB_CI r1 (q_E0 h0) (Nat.le_refl _) (hb3 y a' r3 r4 r5 T0) ?_ ?_
    · rw [r6, wx.1]; omega
    · rw [r7, wx.2]; omega
/-- STATEMENT -/
theorem S_6 {x : nM} {Γ : q_G} {nb ty a b0 n nm md b d ns r : Nat} {E : Nat → Prop} (h : q_CB x Γ nb ty a b0 n nm md b [] d E) (h0 : ∀ i, ¬ E i) (hs : ns ≤ nm) (hn : n ≤ 3 + 2 * g_l Γ b + 5 * d) (hT' : q_TS Γ nb x md (md + 1) a n (b, 2, [], d, ns)) (hw : md + q_we x n ≤ 2 * a + 3) (hr : 1 + q_wt x n + 8 * (ty - a) ≤ r + 1) : o_statement x ∧ q_SR (m_statement x) ty r := by
  obtain ⟨ha, hd6, hl, hb, hnm, hat⟩ := h.le
  have hT : q_TS Γ nb x md (md + 1) a n (b, 2, [], d, nm) := q_TS.up n _ nm hs hT'
  have hL := h.L
  obtain ⟨oo, lo⟩ := L_open hL
  have on := fun c => S_named (r := r) h h0 c hn hT hw hr
  have p3 : ∀ u1 f1 u2 u3 : Int32, o_push (m_open x) u1 f1 0 ∧ o_push (m_push (m_open x) u1 f1 0) u2 0 0 ∧ o_push (m_push (m_push (m_open x) u1 f1 0) u2 0 0) u3 0 0 := fun u1 f1 u2 u3 => by
    obtain ⟨e1, e2⟩ := L_push lo (show n < 260 by omega) u1 f1 0
    obtain ⟨e3, e4⟩ := L_push e2 (show n + 1 < 260 by omega) u2 0 0
    exact ⟨e1, e3, (L_push e4 (show n + 2 < 260 by omega) u3 0 0).1⟩
  have b7 := p3 7 0 5 6
  have b9 := p3 8 0 13 14
  have b12 := p3 11 ((m_open x).1 25) 13 14
  obtain ⟨og, lg⟩ := L_goOn hL
  obtain ⟨og1, lg1⟩ := L_push lg (show n < 260 by omega) 23 144 10
  have og2 := (L_push lg1 (show n + 1 < 260 by omega) 14 0 0).1
  have stay : q_SR x ty r := CB_CI h (q_E0 h0) (Nat.le_refl _) hT hw (by omega)
  refine ⟨⟨fun c => ⟨(on c).1, trivial⟩, fun _ => ⟨fun _ => trivial, fun _ => ⟨fun _ => trivial, fun _ => ⟨fun _ => trivial, fun _ => ⟨fun _ => trivial, fun _ => ⟨fun _ => ⟨oo, b7.1, b7.2.1, b7.2.2, trivial⟩, fun _ => ⟨fun _ => trivial, fun _ => ⟨fun _ => ⟨oo, b9.1, b9.2.1, b9.2.2, trivial⟩, fun _ => ⟨fun _ => trivial, fun _ => ⟨fun _ => trivial, fun _ => ⟨fun _ => ⟨oo, b12.1, b12.2.1, b12.2.2, trivial⟩, fun _ => ⟨fun _ => trivial, fun _ => ⟨fun _ => ⟨og, og1, og2, trivial⟩, fun _ => trivial⟩⟩⟩⟩⟩⟩⟩⟩⟩⟩⟩⟩⟩, ?_⟩
  rw [m_statement]
  by_cases c2 : x.1 3 = 2
  · rw [if_pos c2]; exact (on c2).2
  rw [if_neg c2]
  by_cases k3 : x.1 3 = 3
  · rw [if_pos k3]; exact stay
  rw [if_neg k3]
  by_cases k4 : x.1 3 = 4
  · rw [if_pos k4]; exact stay
  rw [if_neg k4]
  by_cases k5 : x.1 3 = 5
  · rw [if_pos k5]; exact stay
  rw [if_neg k5]
  by_cases k6 : x.1 3 = 6
  · rw [if_pos k6]; exact stay
  rw [if_neg k6]
  by_cases c7 : x.1 3 = 7
  · rw [if_pos c7]
    refine S_open3 h h0 (by rw [c7]; decide) hn hT hw hr (by decide) (by decide) (fun y a' y1 y2 y3 T0 => ?_)
    have T1 : q_TS Γ nb y md (md + 1) a' (n + 1) (b, 2, [], d + 1, nm) := TS_cons (kd := 7) hb (by decide) y1.1 ⟨rfl, rfl, (by show 1 ≤ d + 1; omega), rfl⟩ T0
    have T2 : q_TS Γ nb y md (md + 1) a' (n + 2) (b, 2, [], d + 1, nm) := TS_cons (kd := 5) hb (by decide) y2.1 ⟨rfl, rfl, (by show n + 1 ≤ 2 + 2 * g_l Γ b + 5 * (d + 1); omega), rfl⟩ T1
    exact TS_cons (kd := 6) hb (by decide) y3.1 ⟨rfl, rfl, (by show n + 2 ≤ 3 + 2 * g_l Γ b + 5 * (d + 1); omega), rfl⟩ T2
  rw [if_neg c7]
  by_cases k8 : x.1 3 = 8
  · rw [if_pos k8]; exact stay
  rw [if_neg k8]
  by_cases c9 : x.1 3 = 9
  · rw [if_pos c9]
    refine S_open3 h h0 (by rw [c9]; decide) hn hT hw hr (by decide) (by decide) (fun y a' y1 y2 y3 T0 => ?_)
    have T1 : q_TS Γ nb y md (md + 1) a' (n + 1) (b, 2, [none], d + 1, nm) := TS_cons (kd := 8) hb (by decide) y1.1 ⟨rfl, ⟨none, rfl⟩, (by show 1 ≤ d + 1; omega), (by show n + 5 ≤ 3 + 2 * g_l Γ b + 5 * (d + 1); omega), rfl⟩ T0
    have T2 : q_TS Γ nb y md (md + 1) a' (n + 2) (b, 2, [none], d + 1, nm) := TS_cons (kd := 13) hb (by decide) y2.1 ⟨rfl, ⟨[], rfl⟩, (by show n + 1 ≤ 4 + 2 * g_l Γ b + 5 * (d + 1); omega), rfl⟩ T1
    exact TS_cons (kd := 14) hb (by decide) y3.1 ⟨rfl, (by show n + 2 ≤ 5 + 2 * g_l Γ b + 5 * (d + 1); omega), rfl⟩ T2
  rw [if_neg c9]
  by_cases k10 : x.1 3 = 10
  · rw [if_pos k10]; exact stay
  rw [if_neg k10]
  by_cases k11 : x.1 3 = 11
  · rw [if_pos k11]; exact stay
  rw [if_neg k11]
  by_cases c12 : x.1 3 = 12
  · rw [if_pos c12]
    rcases B_open h with q | ⟨a', b', k1, -⟩
    · exact Or.inl (by rw [f_push _ _ _ _ 7 (by decide), f_push _ _ _ _ 7 (by decide), f_push _ _ _ _ 7 (by decide)]; exact q)
    have e25 : (m_open x).1 25 = nI md := k1.2.2.2.2.1
    rw [e25]
    refine S_open3 h h0 (by rw [c12]; decide) hn hT hw hr (by decide) (by decide) (fun y a' y1 y2 y3 T0 => ?_)
    have T1 : q_TS Γ nb y md (md + 1) a' (n + 1) (b, 2, [none], d + 1, nm) := TS_cons (kd := 11) hb (by decide) y1.1 (by
      rw [y1.2.1, y1.2.2]
      exact ⟨rfl, ⟨none, rfl⟩, (by show 1 ≤ d + 1; omega), (by show n + 5 ≤ 3 + 2 * g_l Γ b + 5 * (d + 1); omega), ⟨md, rfl, by omega, h.2.2.2.2.2.2.2.2.2.2.2.2.2⟩, rfl⟩) T0
    have T2 : q_TS Γ nb y md (md + 1) a' (n + 2) (b, 2, [none], d + 1, nm) := TS_cons (kd := 13) hb (by decide) y2.1 ⟨rfl, ⟨[], rfl⟩, (by show n + 1 ≤ 4 + 2 * g_l Γ b + 5 * (d + 1); omega), rfl⟩ T1
    exact TS_cons (kd := 14) hb (by decide) y3.1 ⟨rfl, (by show n + 2 ≤ 5 + 2 * g_l Γ b + 5 * (d + 1); omega), rfl⟩ T2
  rw [if_neg c12]
  by_cases k13 : x.1 3 = 13
  · rw [if_pos k13]; exact stay
  rw [if_neg k13]
  by_cases c14 : x.1 3 = 14
  · rw [if_pos c14]
    obtain ⟨a', b', q1, q2, q3, q4⟩ := B_goOn h
    have hp := q3 (by rw [c14]; decide)
    obtain ⟨y, ey, r1, r2, r3, r4, r5, r6⟩ := B_push2 q1 (show n + 1 < 260 by omega) 23 144 10 14 0 0
    rw [ey]
    have fr := q4.tr r2 (Nat.le_refl _) (Nat.le_refl _)
    have T0 := FR_TS fr (Nat.le_refl _) q2 hT
    have T1 : q_TS Γ nb y md (md + 1) a' (n + 1) (b, 2, [none], d, nm) := TS_cons (kd := 23) hb (by decide) r3.1 (by
      rw [r3.2.1, r3.2.2]
      exact ⟨rfl, (by show n ≤ 8 + 2 * g_l Γ b + 5 * d; omega), 9, 0, [], by decide, by decide, rfl, Or.inr (Or.inr (Or.inr (Or.inr (Or.inr (Or.inr (Or.inl ⟨rfl, rfl, none, rfl⟩)))))), rfl⟩) T0
    have T3 : q_TS Γ nb y md (md + 1) a' (n + 2) (b, 2, [], d, nm) := TS_cons (kd := 14) hb (by decide) r4.1 ⟨rfl, (by show n + 1 ≤ 5 + 2 * g_l Γ b + 5 * d; omega), rfl⟩ T1
    have hh := q1.le
    have wx := FR_w q4
    refine CB_CI r1 (q_E0 h0) (Nat.le_refl _) T3 ?_ ?_
    · rw [r5, wx.1]; show md + (0 + (1 + q_we x n)) ≤ _; omega
    · rw [r6, wx.2]; show 5 + (1 + q_wt x n) + 8 * (ty - a') ≤ r; omega
  rw [if_neg c14]
  exact stay
