/-! heads and ends of blocks -/
theorem q_kd {x : nM} {n i kd : Nat} (h : x.2 12 n = nI kd) (hk : kd < 24) (h1 : kd ≠ 1 ∧ kd ≠ 9 ∧ kd ≠ 10 ∧ kd ≠ 12) : ¬ q_p1 x n i := by
  intro q
  rcases q with ⟨q, _⟩ | ⟨q, _⟩ | ⟨q, _⟩ | ⟨q, _⟩ <;> rw [h] at q
  · exact h1.1 (nz_inj (b := 1) q (by omega) (by decide))
  · exact h1.2.1 (nz_inj (b := 9) q (by omega) (by decide))
  · exact h1.2.2.1 (nz_inj (b := 10) q (by omega) (by decide))
  · exact h1.2.2.2 (nz_inj (b := 12) q (by omega) (by decide))
/-- BLOCK_END -/
theorem S_2 {x : nM} {Γ : q_G} {nb ty a b0 n nm md b ns r : Nat} {E : Nat → Prop} (h : q_CB x Γ nb ty a b0 n nm md b [] 0 E) (h0 : ∀ i, ¬ E i) (hs : ns ≤ nm) (hT : q_TS Γ nb x md (md + 1) a n (b, 3, [], 0, ns)) (hw : md + (1 + q_we x n) ≤ 2 * a + 3) (hr : 1 + q_wt x n + 8 * (ty - a) ≤ r + 1) : o_emit x 9 (nI (g_n Γ b)) 0 ∧ q_SR (m_emit x 9 (nI (g_n Γ b)) 0).1 ty r := by
  obtain ⟨ha, hd6, hl, hb, hnm, hat⟩ := h.le
  refine ⟨(L_emit h.L (by omega) _ _ _).1, ?_⟩
  have hp := h.2.2.2.2.2.2.2.2.2.2.1.p
  obtain ⟨g1, g2, g3, g4, g5, g6, g7, g8, g9, g10, g11, g12, g13, g14⟩ := h
  have gp := g_emit x md g5 (by omega) 9 (nI (g_n Γ b)) 0
  have old : ∀ k, k ≠ 26 → k ≠ 27 → k ≠ 28 → (m_emit x 9 (nI (g_n Γ b)) 0).1.2 k = x.2 k := fun k q1 q2 q3 => by
    funext j; rw [gp k j, if_neg (by omega), if_neg (by omega), if_neg (by omega)]
  have cd : ∀ k j, j < md → (m_emit x 9 (nI (g_n Γ b)) 0).1.2 k j = x.2 k j := fun k j hj => by rw [gp, if_neg (by omega), if_neg (by omega), if_neg (by omega)]
  have n26 : (m_emit x 9 (nI (g_n Γ b)) 0).1.2 26 md = 9 := by rw [gp, if_neg (by omega), if_neg (by omega), if_pos ⟨rfl, rfl⟩]
  have n27 : (m_emit x 9 (nI (g_n Γ b)) 0).1.2 27 md = nI (g_n Γ b) := by rw [gp, if_neg (by omega), if_pos ⟨rfl, rfl⟩]
  have n28 : (m_emit x 9 (nI (g_n Γ b)) 0).1.2 28 md = 0 := by rw [gp, if_pos ⟨rfl, rfl⟩]
  have ge : q_GE Γ Γ nb (md + 1) := q_GE.rf hp
  have tk : ∀ j, j < n → (m_emit x 9 (nI (g_n Γ b)) 0).1.2 12 j = x.2 12 j ∧ (m_emit x 9 (nI (g_n Γ b)) 0).1.2 13 j = x.2 13 j ∧ (m_emit x 9 (nI (g_n Γ b)) 0).1.2 14 j = x.2 14 j := fun j _ => by
    rw [old 12 (by decide) (by decide) (by decide), old 13 (by decide) (by decide) (by decide), old 14 (by decide) (by decide) (by decide)]; exact ⟨rfl, rfl, rfl⟩
  refine Or.inr ⟨Γ, nb, a, b0, n, nm, md + 1, (b, 3, [], 0, ns), g1.cong ?_ ?_ ?_ ?_, ?_, ?_, ?_, ?_, ?_, ?_, Nat.zero_le 6, hs, g9, g10, ?_, ?_, ⟨?_, ?_⟩, ⟨fun q => absurd (show (3 : Nat) = 0 from q) (by decide), fun q => absurd (show (3 : Nat) = 1 from q) (by decide), fun q => absurd (show (3 : Nat) = 2 from q) (by decide)⟩, ?_, ?_, ?_⟩
  · exact f_emit _ _ _ _ 1 (by decide)
  · exact f_emit _ _ _ _ 3 (by decide)
  · exact f_emit _ _ _ _ 4 (by decide)
  · exact f_emit _ _ _ _ 6 (by decide)
  · rw [f_emit _ _ _ _ 7 (by decide)]; exact g2
  · rw [f_emit _ _ _ _ 11 (by decide)]; exact g3
  · rw [f_emit _ _ _ _ 15 (by decide)]; exact g4
  · rw [m_emit, g5]; exact nI_1 md
  · rw [f_emit _ _ _ _ 21 (by decide)]; exact g6
  · rw [f_emit _ _ _ _ 24 (by decide)]; exact g7
  · obtain ⟨k1, k2, k3, k4⟩ := g11
    refine ⟨k1, k2, k3, fun e he => ?_⟩
    obtain ⟨m1, m2, m3, m4, m5⟩ := k4 e he
    exact ⟨m1, m2, m3, m4, Or.inl (by rcases m5 with q | ⟨q, _⟩ <;> omega)⟩
  · intro k hk
    exact ge.nm (Nat.le_refl _) g10 (by rw [old 17 (by decide) (by decide) (by decide)]) (by rw [old 18 (by decide) (by decide) (by decide)]) (by rw [old 19 (by decide) (by decide) (by decide)]) (by rw [old 20 (by decide) (by decide) (by decide)]) (g12 k hk)
  · intro i hi
    by_cases e : i = md
    · subst e
      exact ⟨⟨by rw [g14]; exact hb, Or.inr (Or.inr (Or.inr (Or.inr (Or.inr ⟨n26, n28, b, g14, n27⟩))))⟩, Or.inl (fun q => by rw [n26] at q; exact absurd q (by decide))⟩
    · obtain ⟨q1, q2⟩ := g13 i (by omega)
      refine ⟨ge.ok (Nat.le_refl _) (by omega) (Or.inl (by omega)) (cd 26 i (by omega)) (cd 27 i (by omega)) (Or.inl (cd 28 i (by omega))) q1, ?_⟩
      rcases q2 with q | q | q
      · exact Or.inl (ge.tq (mm' := md + 1) (by omega) (by omega) (by omega) (by omega) (fun j hj => cd 26 j hj) (cd 26 i (by omega)) (cd 28 i (by omega)) q)
      · exact Or.inr (q.up (Nat.le_refl _) tk)
      · exact absurd q (h0 i)
  · intro _ i hi
    have e : i = md := by omega
    rw [e]; exact Or.inr ⟨n26, n28⟩
  · exact ge.TS (mm' := md + 1) (Nat.le_refl _) (by omega) (Nat.le_refl _) (by omega) (Nat.le_refl _) (fun j hj => cd 26 j hj) n _ tk (fun k _ => ⟨by rw [old 17 (by decide) (by decide) (by decide)], by rw [old 18 (by decide) (by decide) (by decide)]⟩) hT
  · rw [q_we.eq n (fun j hj => (tk j hj).1)]; omega
  · rw [q_wt.eq n (fun j hj => (tk j hj).1)]; omega
/-- PROC_END, PROGRAM_END: tokens alone, in a head -/
theorem q_CO.go {x y : nM} {Γ : q_G} {nb n n' md ph ph' : Nat} (h : q_CO x Γ nb n md ph) (h1 : ph ≠ 2) (h2 : ph' ≠ 2) (e26 : y.2 26 = x.2 26) (e27 : y.2 27 = x.2 27) (e28 : y.2 28 = x.2 28) (hp : ∀ i, i < md → q_pd x n i → q_pd y n' i) : q_CO y Γ nb n' md ph' := by
  have m1 : q_mm md ph = md := if_neg h1
  have m2 : q_mm md ph' = md := if_neg h2
  unfold q_CO at *
  rw [m1] at h
  rw [m2, e26, e27, e28]
  exact ⟨fun i hi => ⟨(h.1 i hi).1, (h.1 i hi).2.imp id (hp i hi)⟩, fun _ => h.2 h1⟩
theorem S_3 {x : nM} {Γ : q_G} {nb ty a b0 n nm md r : Nat} {c c' : q_C} (h : q_CI x Γ nb ty a b0 (n + 1) nm md (r + 1) c) (h12 : x.2 12 n = nI 3) (hru : q_ru Γ x md md a n 3 (x.2 13 n) (x.2 14 n) c c') (hT : q_TS Γ nb x md md a n c') :
    o_expect (nm_f x 11 (x.1 11 - 1)) 59 ∧ q_SR (nm_f (nm_f (nm_f (m_expect (nm_f x 11 (x.1 11 - 1)) 59) 15 (x.2 13 n)) 22 (x.2 14 n)) 21 ((m_expect (nm_f x 11 (x.1 11 - 1)) 59).1 21 - 1)) ty r := by
  obtain ⟨b, ph, t, d, ns⟩ := c
  obtain ⟨u1, u2, u3, u4, u5, u6, u7, k, k1, k2, k3, k4⟩ := hru
  have u1 : ph = 3 := u1
  have u2 : d = 0 := u2
  have u3 : b ≠ 0 := u3
  subst u1 u2
  obtain ⟨g1, g2, g3, g4, g5, g6, g7, g8, hs, g9, g10, g11, g12, g13, g14, gT, gw, gr⟩ := h
  have g6 : x.1 21 = nI (g_l Γ b) := g6
  have hs : ns ≤ nm := hs
  have g10 : b < nb := g10
  have e11 : x.1 11 - 1 = nI n := by rw [g3]; exact nz_dm n
  have hLp : q_L (nm_f x 11 (x.1 11 - 1)) n nm md 1 := ⟨ty, a, b0, g1.cong rfl rfl rfl rfl, g9, by rw [q_f1, if_pos rfl]; exact e11, g4, g5⟩
  refine ⟨(L_expect hLp 59).1, ?_⟩
  have w12 : q_we x (n + 1) = q_we x n := by rw [q_we, h12]; show 0 + _ = _; omega
  have v12 : q_wt x (n + 1) = 1 + q_wt x n := by rw [q_wt, h12]; rfl
  rw [w12] at gw
  rw [v12] at gr
  by_cases c : (nm_f x 11 (x.1 11 - 1)).1 3 = 59
  · have e : m_expect (nm_f x 11 (x.1 11 - 1)) 59 = m_goOn (nm_f x 11 (x.1 11 - 1)) := by rw [m_expect, if_pos c]
    rw [e]
    generalize hz : nm_f x 11 (x.1 11 - 1) = z at *
    have z2 : z.2 = x.2 := by rw [← hz]; rfl
    have zf : ∀ j, j ≠ 11 → z.1 j = x.1 j := fun j hj => by rw [← hz, q_f1, if_neg hj]
    have z1 : q_T z ty a b0 := g1.cong (zf 1 (by decide)) (zf 3 (by decide)) (zf 4 (by decide)) (zf 6 (by decide))
    obtain ⟨a', b', p1, p2⟩ := M_goOn1 z1 (by rw [c]; decide)
    have gf : ∀ j, j ≠ 3 → j ≠ 4 → j ≠ 5 → j ≠ 6 → j ≠ 11 → (m_goOn z).1 j = x.1 j := fun j q3 q4 q5 q6 q11 => by rw [f_goOn _ j q3 q4 q5 q6]; exact zf j q11
    have g2' : (m_goOn z).2 = x.2 := by rw [g_goOn]; exact z2
    obtain ⟨bo1, bo2, bo3, bo4⟩ := g11
    have lp : g_p Γ b < b ∧ g_l Γ b = g_l Γ (g_p Γ b) + 1 := by
      rcases (bo4 b g10).1 with ⟨q, _⟩ | q
      · exact absurd q u3
      · exact q
    have hyp : ∀ (A B : Int32), (nm_f (nm_f (nm_f (m_goOn z) 15 A) 22 B) 21 ((m_goOn z).1 21 - 1)).2 = x.2 := fun A B => g2'
    refine Or.inr ⟨Γ, nb, a', b', n, k, md, (g_p Γ b, 1, [], 0, k), ?_, ?_, ?_, ?_, ?_, ?_, ?_, Nat.zero_le 6, Nat.le_refl _, ?_, ?_, ?_, ?_, ?_, ⟨fun q => absurd (show (1 : Nat) = 0 from q) (by decide), fun _ => ⟨?_, u6, u7⟩, fun q => absurd (show (1 : Nat) = 2 from q) (by decide)⟩, ?_, ?_, ?_⟩
    · exact p1.cong rfl rfl rfl rfl
    · show (m_goOn z).1 7 = 0
      rw [gf 7 (by decide) (by decide) (by decide) (by decide) (by decide)]; exact g2
    · show (m_goOn z).1 11 = nI n
      rw [f_goOn _ 11 (by decide) (by decide) (by decide) (by decide)]; exact hLp.h11
    · exact k1
    · show (m_goOn z).1 25 = nI md
      rw [gf 25 (by decide) (by decide) (by decide) (by decide) (by decide)]; exact g5
    · show (m_goOn z).1 21 - 1 = nI (g_l Γ (g_p Γ b))
      rw [gf 21 (by decide) (by decide) (by decide) (by decide) (by decide), g6, lp.2]; exact nz_dm _
    · show (m_goOn z).1 24 = nI 0
      rw [gf 24 (by decide) (by decide) (by decide) (by decide) (by decide)]; exact g7
    · have k2 : k ≤ ns := k2
      omega
    · show g_p Γ b < nb; omega
    · refine ⟨bo1, bo2, bo3, fun e he => ?_⟩
      obtain ⟨m1, m2, m3, m4, m5⟩ := bo4 e he
      exact ⟨m1, m2, m3, m4, Or.inl (by rcases m5 with q | ⟨q, _⟩; exact q; exact absurd (show (3 : Nat) = 0 from q) (by decide))⟩
    · intro j hj
      have k2 : k ≤ ns := k2
      obtain ⟨v, v1, v2⟩ := k3 j hj
      have v2 : v < g_l Γ b := v2
      obtain ⟨w, w1, w2, w3⟩ := g12 j (by omega)
      have ew : w = v := nz_inj (w1.symm.trans v1) (by have := (bo4 b g10).2.2.1; have w2 : w ≤ g_l Γ b := w2; omega) (by have := (bo4 b g10).2.2.1; omega)
      subst ew
      refine ⟨w, by rw [hyp]; exact w1, by show w ≤ g_l Γ (g_p Γ b); omega, ?_⟩
      have ea : q_an (g_p Γ) (g_l Γ b - w) b = q_an (g_p Γ) (g_l Γ (g_p Γ b) - w) (g_p Γ b) := by
        rw [show g_l Γ b - w = (g_l Γ (g_p Γ b) - w) + 1 by omega]; rfl
      rw [hyp]
      show _ ∨ _
      rw [← ea]; exact w3
    · exact q_CO.go g13 (show (3 : Nat) ≠ 2 by decide) (show (1 : Nat) ≠ 2 by decide) (by rw [hyp]) (by rw [hyp]) (by rw [hyp]) (fun i hi ⟨j, q1, q2⟩ => by
        by_cases ej : j = n
        · subst ej; exact absurd q2 (q_kd h12 (by decide) (by decide))
        · exact ⟨j, by omega, by rw [hyp]; exact q2⟩)
    · exact u5
    · rw [k4] at hT
      have := (q_GE.rf (mm := md) (q_BO.p (show q_BO Γ nb md 3 b from ⟨bo1, bo2, bo3, bo4⟩))).TS (x := x) (y := nm_f (nm_f (nm_f (m_goOn z) 15 (x.2 13 n)) 22 (x.2 14 n)) 21 ((m_goOn z).1 21 - 1)) (md' := md) (mm' := md) (a' := a') (Nat.le_refl _) (Nat.le_refl _) (Nat.le_refl _) (Nat.le_refl _) (show a ≤ a' by omega) (fun j _ => by rw [hyp]) n _ (fun j _ => by rw [hyp]; exact ⟨rfl, rfl, rfl⟩) (fun _ _ => by rw [hyp]; exact ⟨rfl, rfl⟩) hT
      exact this
    · rw [q_we.eq (x := x) n (fun j _ => by rw [hyp])]; omega
    · rw [q_wt.eq (x := x) n (fun j _ => by rw [hyp])]
      have := p1.2.2.2.2.1; have := p1.2.2.2.2.2.1
      omega
  · have e : m_expect (nm_f x 11 (x.1 11 - 1)) 59 = m_fail (nm_f x 11 (x.1 11 - 1)) 1 ((nm_f x 11 (x.1 11 - 1)).1 4) := by rw [m_expect, if_neg c]
    rw [e]
    exact Or.inl (by rw [q_f1, if_neg (by decide), q_f1, if_neg (by decide), q_f1, if_neg (by decide)]; exact e_fail (by decide))
/-- PROGRAM_END -/
theorem S_4 {x : nM} {Γ : q_G} {nb ty a b0 n nm md r : Nat} {c c' : q_C} (h : q_CI x Γ nb ty a b0 (n + 1) nm md (r + 1) c) (h12 : x.2 12 n = nI 4) (hru : q_ru Γ x md md a n 4 (x.2 13 n) (x.2 14 n) c c') :
    o_expect (nm_f x 11 (x.1 11 - 1)) 46 ∧ q_SR (if (m_expect (nm_f x 11 (x.1 11 - 1)) 46).1 3 = 0 then m_expect (nm_f x 11 (x.1 11 - 1)) 46 else m_fail (m_expect (nm_f x 11 (x.1 11 - 1)) 46) 1 ((m_expect (nm_f x 11 (x.1 11 - 1)) 46).1 4)) ty r := by
  obtain ⟨b, ph, t, d, ns⟩ := c
  obtain ⟨u1, u2, u3, u4⟩ := hru
  have u1 : ph = 3 := u1
  have u2 : d = 0 := u2
  subst u1 u2 u3
  obtain ⟨g1, g2, g3, g4, g5, g6, g7, g8, hs, g9, g10, g11, g12, g13, g14, gT, gw, gr⟩ := h
  have e11 : x.1 11 - 1 = nI 0 := by rw [g3]; exact nz_dm 0
  have hLp : q_L (nm_f x 11 (x.1 11 - 1)) 0 nm md 1 := ⟨ty, a, b0, g1.cong rfl rfl rfl rfl, g9, by rw [q_f1, if_pos rfl]; exact e11, g4, g5⟩
  refine ⟨(L_expect hLp 46).1, ?_⟩
  have w12 : q_we x 1 = 0 := by rw [q_we, h12]; rfl
  have v12 : q_wt x 1 = 1 := by rw [q_wt, h12]; rfl
  rw [w12] at gw
  rw [v12] at gr
  split
  · by_cases c : (nm_f x 11 (x.1 11 - 1)).1 3 = 46
    · have e : m_expect (nm_f x 11 (x.1 11 - 1)) 46 = m_goOn (nm_f x 11 (x.1 11 - 1)) := by rw [m_expect, if_pos c]
      rw [e]
      generalize hz : nm_f x 11 (x.1 11 - 1) = z at *
      have z2 : z.2 = x.2 := by rw [← hz]; rfl
      have zf : ∀ j, j ≠ 11 → z.1 j = x.1 j := fun j hj => by rw [← hz, q_f1, if_neg hj]
      have z1 : q_T z ty a b0 := g1.cong (zf 1 (by decide)) (zf 3 (by decide)) (zf 4 (by decide)) (zf 6 (by decide))
      obtain ⟨a', b', p1, p2⟩ := M_goOn1 z1 (by rw [c]; decide)
      have gf : ∀ j, j ≠ 3 → j ≠ 4 → j ≠ 5 → j ≠ 6 → j ≠ 11 → (m_goOn z).1 j = x.1 j := fun j q3 q4 q5 q6 q11 => by rw [f_goOn _ j q3 q4 q5 q6]; exact zf j q11
      have g2' : (m_goOn z).2 = x.2 := by rw [g_goOn]; exact z2
      refine Or.inr ⟨Γ, nb, a', b', 0, nm, md, (b, 4, [], 0, 0), p1, ?_, ?_, ?_, ?_, ?_, ?_, Nat.zero_le 6, Nat.zero_le _, by omega, g10, ?_, ?_, ?_, ⟨fun q => absurd (show (4 : Nat) = 0 from q) (by decide), fun q => absurd (show (4 : Nat) = 1 from q) (by decide), fun q => absurd (show (4 : Nat) = 2 from q) (by decide)⟩, rfl, ?_, ?_⟩
      · rw [gf 7 (by decide) (by decide) (by decide) (by decide) (by decide)]; exact g2
      · rw [f_goOn _ 11 (by decide) (by decide) (by decide) (by decide)]; exact hLp.h11
      · rw [gf 15 (by decide) (by decide) (by decide) (by decide) (by decide)]; exact g4
      · rw [gf 25 (by decide) (by decide) (by decide) (by decide) (by decide)]; exact g5
      · rw [gf 21 (by decide) (by decide) (by decide) (by decide) (by decide)]; exact g6
      · rw [gf 24 (by decide) (by decide) (by decide) (by decide) (by decide)]; exact g7
      · obtain ⟨bo1, bo2, bo3, bo4⟩ := g11
        refine ⟨bo1, bo2, bo3, fun e he => ?_⟩
        obtain ⟨m1, m2, m3, m4, m5⟩ := bo4 e he
        exact ⟨m1, m2, m3, m4, Or.inl (by rcases m5 with q | ⟨q, _⟩; exact q; exact absurd (show (3 : Nat) = 0 from q) (by decide))⟩
      · intro k hk
        have := g12 k hk
        unfold q_nm at this ⊢
        rw [g2']; exact this
      · exact q_CO.go g13 (show (3 : Nat) ≠ 2 by decide) (show (4 : Nat) ≠ 2 by decide) (by rw [g2']) (by rw [g2']) (by rw [g2']) (fun i hi ⟨j, q1, q2⟩ => by
          have ej : j = 0 := by omega
          subst ej; exact absurd q2 (q_kd h12 (by decide) (by decide)))
      · show md + 0 ≤ 2 * a' + 3; omega
      · show 0 + 8 * (ty - a') ≤ r
        have := p1.2.2.2.2.1; have := p1.2.2.2.2.2.1
        omega
    · have e : m_expect (nm_f x 11 (x.1 11 - 1)) 46 = m_fail (nm_f x 11 (x.1 11 - 1)) 1 ((nm_f x 11 (x.1 11 - 1)).1 4) := by rw [m_expect, if_neg c]
      rw [e]
      exact Or.inl (e_fail (by decide))
  · exact Or.inl (e_fail (by decide))
/-- the ghosts with a block's cells -/
def q_gc (Γ : q_G) (b v : Nat) : q_G := (Γ.1, Γ.2.1, (fun e => if e = b then v else Γ.2.2.1 e), Γ.2.2.2)
theorem q_gc.ge {Γ : q_G} {nb b v mm : Nat} (h : ∀ e, e < nb → g_p Γ e < nb) (h0 : g_c Γ b = 0) : q_GE Γ (q_gc Γ b v) nb mm := by
  refine ⟨fun e _ => ⟨rfl, rfl, rfl, rfl, ?_⟩, fun _ _ => rfl, h⟩
  by_cases q : e = b
  · exact Or.inr (by rw [q]; exact h0)
  · exact Or.inl (by show (if e = b then v else _) = _; rw [if_neg q])
theorem q_gc.at {Γ : q_G} {b v : Nat} : g_c (q_gc Γ b v) b = v := by show (if b = b then v else _) = v; rw [if_pos rfl]
/-- BLOCK -/
theorem S_0 {x : nM} {Γ : q_G} {nb ty a b0 n nm md r : Nat} {c c' : q_C} (h : q_CI x Γ nb ty a b0 (n + 1) nm md (r + 1) c) (h12 : x.2 12 n = nI 0) (hru : q_ru Γ x md md a n 0 (x.2 13 n) (x.2 14 n) c c') (hT : q_TS Γ nb x md md a n c') :
    o_block (nm_f x 11 (x.1 11 - 1)) ∧ q_SR (m_block (nm_f x 11 (x.1 11 - 1))) ty r := by
  obtain ⟨b, ph, t, d, ns⟩ := c
  obtain ⟨u1, u2, u3, u4⟩ := hru
  have u1 : ph = 0 := u1
  have u3 : d = 0 := u3
  subst u1 u3
  obtain ⟨g1, g2, g3, g4, g5, g6, g7, g8, hs, g9, g10, g11, g12, g13, g14, gT, gw, gr⟩ := h
  have g6 : x.1 21 = nI (g_l Γ b) := g6
  have hs : ns ≤ nm := hs
  have g10 : b < nb := g10
  have u2 : n ≤ 1 + 2 * g_l Γ b := u2
  obtain ⟨ph1, ph2, ph3, ph4⟩ := g14.1 rfl
  have ph1 : g_e Γ b = md := ph1
  have ph2 : g_c Γ b = 0 := ph2
  have ph4 : x.1 23 = nI (g_n Γ b) := ph4
  have e11 : x.1 11 - 1 = nI n := by rw [g3]; exact nz_dm n
  have w12 : q_we x (n + 1) = 1 + q_we x n := by rw [q_we, h12]; rfl
  have v12 : q_wt x (n + 1) = 2 + q_wt x n := by rw [q_wt, h12]; rfl
  rw [w12] at gw
  rw [v12] at gr
  have hp := g11.p
  obtain ⟨bo1, bo2, bo3, bo4⟩ := g11
  have hl4 := (bo4 b g10).2.2.1
  have ha180 : a ≤ 180 := by have := g1.2.1; have := g1.2.2.2.2.1; have := g1.2.2.2.2.2.1; omega
  generalize hz : nm_f x 11 (x.1 11 - 1) = z at *
  have z2 : z.2 = x.2 := by rw [← hz]; rfl
  have zf : ∀ j, j ≠ 11 → z.1 j = x.1 j := fun j hj => by rw [← hz, q_f1, if_neg hj]
  have z11 : z.1 11 = nI n := by rw [← hz, q_f1, if_pos rfl]; exact e11
  have z1 : q_T z ty a b0 := g1.cong (zf 1 (by decide)) (zf 3 (by decide)) (zf 4 (by decide)) (zf 6 (by decide))
  have z25 : z.1 25 = nI md := (zf 25 (by decide)).trans g5
  have hLz : q_L z n nm md 1 := ⟨ty, a, b0, z1, g9, z11, (zf 15 (by decide)).trans g4, z25⟩
  obtain ⟨o1, l1, l2⟩ := L_emit hLz (show md < 400 by omega) 7 0 0
  have gp := g_emit z md z25 (by omega) 7 0 0
  have mE : q_M z (m_emit z 7 0 0).1 := M_emit _ _ _ _
  have fe : ∀ j, j ≠ 25 → (m_emit z 7 0 0).1.1 j = z.1 j := fun j hj => f_emit _ _ _ _ j hj
  generalize hy0 : (m_emit z 7 0 0).1 = y0 at *
  have y7 : y0.1 7 = 0 := by rw [fe 7 (by decide), zf 7 (by decide)]; exact g2
  have y22 : y0.1 22 = nI 3 := by rw [fe 22 (by decide), zf 22 (by decide)]; exact ph3
  obtain ⟨o2, nm', l3, hv⟩ := V_var l1 y7 y22
  have mV : q_M z (m_variables y0) := mE.tr (M_variables y0)
  rw [o_block, m_block, hy0, l2]
  generalize hy1 : m_variables y0 = y1 at *
  obtain ⟨o3, l4⟩ := L_push l3 (show n < 260 by omega) 1 (nI md) (y1.1 23)
  refine ⟨⟨o1, o2, o3, trivial⟩, ?_⟩
  by_cases e7 : y1.1 7 = 0
  · obtain ⟨cb, vs1, vs2, vs3, vs4, vs5, vs6, vs7, vs8, vs9⟩ := hv e7
    have gy := g_push y1 n vs1.h11 (by omega) 1 (nI md) (y1.1 23)
    have fy : ∀ j, j ≠ 11 → (m_push y1 1 (nI md) (y1.1 23)).1 j = y1.1 j := fun j hj => f_push _ _ _ _ j hj
    have mP : q_M z (m_push y1 1 (nI md) (y1.1 23)) := mV.tr (M_push _ _ _ _)
    have y11 : (m_push y1 1 (nI md) (y1.1 23)).1 11 = nI (n + 1) := l4.h11
    generalize hy : m_push y1 1 (nI md) (y1.1 23) = y at *
    have fx : ∀ j, j ≠ 3 → j ≠ 4 → j ≠ 5 → j ≠ 6 → j ≠ 11 → j ≠ 15 → j ≠ 22 → j ≠ 25 → y.1 j = x.1 j := fun j q3 q4 q5 q6 q11 q15 q22 q25 => by
      rw [fy j q11, vs8 j q3 q4 q5 q6 q15 q22, fe j q25, zf j q11]
    have nm91 := vs1.nm
    -- the arrays
    have gy0 : ∀ k j, y0.2 k j = if k = 28 ∧ j = md then 0 else if k = 27 ∧ j = md then 0 else if k = 26 ∧ j = md then 7 else x.2 k j := fun k j => by rw [gp, z2]
    have tsk : ∀ k j, (k = 12 ∨ k = 13 ∨ k = 14) → j < n → y.2 k j = x.2 k j := fun k j hk hj => by
      rw [gy, if_neg (by omega), if_neg (by omega), if_neg (by omega), vs9 k (by omega), gy0, if_neg (by omega), if_neg (by omega), if_neg (by omega)]
    have top : y.2 12 n = 1 ∧ y.2 13 n = nI md ∧ y.2 14 n = nI (g_n Γ b) := by
      refine ⟨?_, ?_, ?_⟩
      · rw [gy, if_neg (by omega), if_neg (by omega), if_pos ⟨rfl, rfl⟩]
      · rw [gy, if_neg (by omega), if_pos ⟨rfl, rfl⟩]
      · rw [gy, if_pos ⟨rfl, rfl⟩, vs8 23 (by decide) (by decide) (by decide) (by decide) (by decide) (by decide), fe 23 (by decide), zf 23 (by decide)]; exact ph4
    have nms : ∀ k j, j < nm → 15 < k → k < 21 → y.2 k j = x.2 k j := fun k j hj h1 h2 => by
      rw [gy, if_neg (by omega), if_neg (by omega), if_neg (by omega), vs7 k j hj, gy0, if_neg (by omega), if_neg (by omega), if_neg (by omega)]
    have cod : ∀ k j, 20 < k → y.2 k j = if k = 28 ∧ j = md then 0 else if k = 27 ∧ j = md then 0 else if k = 26 ∧ j = md then 7 else x.2 k j := fun k j hk => by
      rw [gy, if_neg (by omega), if_neg (by omega), if_neg (by omega), vs9 k (by omega), gy0]
    have cold : ∀ k j, 20 < k → j < md → y.2 k j = x.2 k j := fun k j hk hj => by rw [cod k j hk, if_neg (by omega), if_neg (by omega), if_neg (by omega)]
    have c26 : y.2 26 md = 7 := by rw [cod 26 md (by decide), if_neg (by omega), if_neg (by omega), if_pos ⟨rfl, rfl⟩]
    have ge : q_GE Γ (q_gc Γ b cb) nb md := q_gc.ge hp ph2
    have amd : g_a (q_gc Γ b cb) md = (b, none) := by have := (bo4 b g10).2.2.2.1; rw [ph1] at this; exact this
    obtain ⟨a', b', p1, p2⟩ := mP ty a b0 z1
    have na : 2 * nm' ≤ a' + 1 := by
      obtain ⟨ty2, a2, b2, t1, t2, -⟩ := vs1
      have e4 : y.1 4 = y1.1 4 := fy 4 (by decide)
      have : nI a2 = nI a' := by rw [← t1.2.2.1, ← e4]; exact p1.2.2.1
      have t21 := t1.2.1; have t25 := t1.2.2.2.2.1; have t26 := t1.2.2.2.2.2.1
      have s21 := p1.2.1; have s25 := p1.2.2.2.2.1; have s26 := p1.2.2.2.2.2.1
      have := nz_inj this (by omega) (by omega)
      omega
    have co2 := g13.2 (show (0 : Nat) ≠ 2 by decide)
    refine Or.inr ⟨q_gc Γ b cb, nb, a', b', n + 1, nm', md + 1, (b, 1, [], 0, ns), p1, ?_, y11, ?_, ?_, ?_, ?_, Nat.zero_le 6, ?_, na, g10, ?_, ?_, ⟨?_, ?_⟩, ⟨fun q => absurd (show (1 : Nat) = 0 from q) (by decide), fun _ => ⟨?_, ?_, ?_⟩, fun q => absurd (show (1 : Nat) = 2 from q) (by decide)⟩, ?_, ?_, ?_⟩
    · rw [fx 7 (by decide) (by decide) (by decide) (by decide) (by decide) (by decide) (by decide) (by decide)]; exact g2
    · rw [fy 15 (by decide)]; exact vs1.h15
    · rw [fy 25 (by decide)]; exact vs1.h25
    · rw [fx 21 (by decide) (by decide) (by decide) (by decide) (by decide) (by decide) (by decide) (by decide)]; exact g6
    · rw [fx 24 (by decide) (by decide) (by decide) (by decide) (by decide) (by decide) (by decide) (by decide)]; exact g7
    · show ns ≤ nm'; omega
    · refine ⟨bo1, bo2, bo3, fun e he => ?_⟩
      obtain ⟨m1, m2, m3, m4, m5⟩ := bo4 e he
      refine ⟨m1, m2, m3, m4, Or.inl ?_⟩
      show g_e Γ e < md + 1
      rcases m5 with q | ⟨_, _, q⟩ <;> omega
    · intro k hk
      by_cases hko : k < nm
      · exact ge.nm (Nat.le_refl _) g10 (nms 17 k hko (by decide) (by decide)) (nms 18 k hko (by decide) (by decide)) (nms 19 k hko (by decide) (by decide)) (nms 20 k hko (by decide) (by decide)) (g12 k hko)
      · obtain ⟨r1, ad, r2, r3, r4⟩ := vs6 k (by omega) hk
        have ynm : ∀ j, 15 < j → j < 21 → y.2 j k = y1.2 j k := fun j h1 h2 => by rw [gy, if_neg (by omega), if_neg (by omega), if_neg (by omega)]
        refine ⟨g_l Γ b, ?_, Nat.le_refl _, ?_⟩
        · rw [ynm 18 (by decide) (by decide), r1, fe 21 (by decide), zf 21 (by decide)]; exact g6
        · rw [show g_l (q_gc Γ b cb) b - g_l Γ b = 0 from Nat.sub_self _]
          show _ ∨ _
          rw [ynm 17 (by decide) (by decide), ynm 19 (by decide) (by decide), ynm 20 (by decide) (by decide)]
          rcases r4 with ⟨s1, s2⟩ | ⟨s1, m, s2, s3, s4, s5⟩
          · exact Or.inl ⟨s1, Or.inl ⟨ad, r2, r3, by show ad < g_c (q_gc Γ b cb) b; rw [q_gc.at]; exact s2⟩⟩
          · exact Or.inr (Or.inl ⟨s1, ad, m, r2, s2, s3, s4, r3, by show ad + m ≤ g_c (q_gc Γ b cb) b; rw [q_gc.at]; exact s5⟩)
    · intro i hi
      by_cases e : i = md
      · subst e
        exact ⟨⟨by rw [amd]; exact g10, Or.inr (Or.inr (Or.inr (Or.inl ⟨c26, b, Or.inl amd⟩)))⟩, Or.inr ⟨n, by omega, Or.inl ⟨top.1, top.2.1⟩⟩⟩
      · obtain ⟨q1, q2⟩ := g13.1 i (by omega)
        refine ⟨ge.ok (Nat.le_refl _) (by omega) ?_ (cold 26 i (by decide) (by omega)) (cold 27 i (by decide) (by omega)) (Or.inl (cold 28 i (by decide) (by omega))) q1, ?_⟩
        · by_cases ei : i + 1 = md
          · exact Or.inr (co2 i ei)
          · exact Or.inl (by omega)
        · rcases q2 with q | ⟨j, j1, j2⟩
          · exact Or.inl (ge.tq (md' := md + 1) (mm' := md + 1) (by omega) (by omega) (by omega) (Nat.le_refl _) (fun j hj => cold 26 j (by decide) hj) (cold 26 i (by decide) (by omega)) (cold 28 i (by decide) (by omega)) q)
          · by_cases ej : j = n
            · subst ej; exact absurd j2 (q_kd h12 (by decide) (by decide))
            · exact Or.inr ⟨j, by omega, by rw [tsk 12 j (by omega) (by omega), tsk 13 j (by omega) (by omega), tsk 14 j (by omega) (by omega)]; exact j2⟩
    · intro _ i hi
      have e : i = md := by omega
      rw [e]; exact Or.inl c26
    · show y.1 22 = nI (g_c (q_gc Γ b cb) b)
      rw [q_gc.at, fy 22 (by decide)]; exact vs2
    · show 3 ≤ g_c (q_gc Γ b cb) b; rw [q_gc.at]; exact vs3
    · show g_c (q_gc Γ b cb) b ≤ 3000; rw [q_gc.at]; omega
    · refine TS_cons (kd := 1) (show b < nb from g10) (by decide) top.1 (by
        rw [top.2.1, top.2.2]
        exact ⟨rfl, u2, rfl, rfl, ⟨md, rfl, by omega, amd, c26⟩, rfl⟩) ?_
      rw [u4] at hT
      exact ge.TS (x := x) (md' := md + 1) (mm' := md + 1) (Nat.le_refl _) (by omega) (by omega) (Nat.le_refl _) p2 (fun j hj => cold 26 j (by decide) hj) n _ (fun j hj => ⟨tsk 12 j (by omega) hj, tsk 13 j (by omega) hj, tsk 14 j (by omega) hj⟩) (fun k hk => by
        have hk : k < ns := hk
        exact ⟨nms 17 k (by omega) (by decide) (by decide), nms 18 k (by omega) (by decide) (by decide)⟩) hT
    · rw [q_we, top.1, q_we.eq (x := x) n (fun j hj => tsk 12 j (by omega) hj)]
      show md + 1 + (0 + q_we x n) ≤ _; omega
    · rw [q_wt, top.1, q_wt.eq (x := x) n (fun j hj => tsk 12 j (by omega) hj)]
      show 1 + q_wt x n + 8 * (ty - a') ≤ r; omega
  · exact Or.inl (by rw [f_push _ _ _ _ 7 (by decide)]; exact e7)
/-- the ghosts with a new block -/
def q_nw (Γ : q_G) (e p m ent l : Nat) : q_G := ((fun i => if i = e then p else Γ.1 i), (fun i => if i = e then m else Γ.2.1 i), (fun i => if i = e then 0 else Γ.2.2.1 i), (fun i => if i = e then ent else Γ.2.2.2.1 i), (fun i => if i = e then l else Γ.2.2.2.2.1 i), (fun i => if i = ent then (e, none) else Γ.2.2.2.2.2 i))
theorem q_nw.ge {Γ : q_G} {nb p m ent l : Nat} (h : ∀ e, e < nb → g_p Γ e < nb) : q_GE Γ (q_nw Γ nb p m ent l) nb ent := by
  refine ⟨fun e he => ⟨?_, ?_, ?_, ?_, Or.inl ?_⟩, fun i hi => ?_, h⟩
  · show (if e = nb then _ else _) = _; rw [if_neg (by omega)]
  · show (if e = nb then _ else _) = _; rw [if_neg (by omega)]
  · show (if e = nb then _ else _) = _; rw [if_neg (by omega)]
  · show (if e = nb then _ else _) = _; rw [if_neg (by omega)]
  · show (if e = nb then _ else _) = _; rw [if_neg (by omega)]
  · show (if i = ent then _ else _) = _; rw [if_neg (by omega)]
theorem q_nw.at {Γ : q_G} {nb p m ent l : Nat} : g_p (q_nw Γ nb p m ent l) nb = p ∧ g_n (q_nw Γ nb p m ent l) nb = m ∧ g_c (q_nw Γ nb p m ent l) nb = 0 ∧ g_e (q_nw Γ nb p m ent l) nb = ent ∧ g_l (q_nw Γ nb p m ent l) nb = l ∧ g_a (q_nw Γ nb p m ent l) ent = (nb, none) := by
  refine ⟨?_, ?_, ?_, ?_, ?_, ?_⟩ <;> exact if_pos rfl
/-- PARTS, at a procedure -/
theorem S_1p {x : nM} {Γ : q_G} {nb ty a b0 n nm md r : Nat} {c c' : q_C} (h : q_CI x Γ nb ty a b0 (n + 1) nm md (r + 1) c) (h12 : x.2 12 n = nI 1) (hru : q_ru Γ x md md a n 1 (x.2 13 n) (x.2 14 n) c c') (hT : q_TS Γ nb x md md a n c') (h3 : x.1 3 = 5) :
    (o_push (nm_f x 11 (x.1 11 - 1)) 1 (x.2 13 n) (x.2 14 n) ∧ o_procedure (m_push (nm_f x 11 (x.1 11 - 1)) 1 (x.2 13 n) (x.2 14 n)) ∧ True) ∧ q_SR (m_procedure (m_push (nm_f x 11 (x.1 11 - 1)) 1 (x.2 13 n) (x.2 14 n))) ty r := by
  obtain ⟨b, ph, t, d, ns⟩ := c
  obtain ⟨u1, u2, u3, u4, ⟨j0, u5, u6, u7, u8⟩, u9⟩ := hru
  have u1 : ph = 1 := u1
  have u3 : d = 0 := u3
  subst u1 u3
  obtain ⟨g1, g2, g3, g4, g5, g6, g7, g8, hs, g9, g10, g11, g12, g13, g14, gT, gw, gr⟩ := h
  have g6 : x.1 21 = nI (g_l Γ b) := g6
  have hs : ns ≤ nm := hs
  have g10 : b < nb := g10
  have u2 : n ≤ 1 + 2 * g_l Γ b := u2
  obtain ⟨ph1, ph2, ph3⟩ := g14.2.1 rfl
  have ph1 : x.1 22 = nI (g_c Γ b) := ph1
  have ph2 : 3 ≤ g_c Γ b := ph2
  have ph3 : g_c Γ b ≤ 3000 := ph3
  have e11 : x.1 11 - 1 = nI n := by rw [g3]; exact nz_dm n
  have w12 : q_we x (n + 1) = 0 + q_we x n := by rw [q_we, h12]; rfl
  have v12 : q_wt x (n + 1) = 1 + q_wt x n := by rw [q_wt, h12]; rfl
  rw [w12] at gw
  rw [v12] at gr
  have hp := g11.p
  obtain ⟨bo1, bo2, bo3, bo4⟩ := g11
  have hl4 := (bo4 b g10).2.2.1
  have ha180 : a ≤ 180 := by have := g1.2.1; have := g1.2.2.2.2.1; have := g1.2.2.2.2.2.1; omega
  generalize hz : nm_f x 11 (x.1 11 - 1) = z at *
  have z2 : z.2 = x.2 := by rw [← hz]; rfl
  have zf : ∀ j, j ≠ 11 → z.1 j = x.1 j := fun j hj => by rw [← hz, q_f1, if_neg hj]
  have z11 : z.1 11 = nI n := by rw [← hz, q_f1, if_pos rfl]; exact e11
  have z1 : q_T z ty a b0 := g1.cong (zf 1 (by decide)) (zf 3 (by decide)) (zf 4 (by decide)) (zf 6 (by decide))
  have hLz : q_L z n nm md 1 := ⟨ty, a, b0, z1, g9, z11, (zf 15 (by decide)).trans g4, (zf 25 (by decide)).trans g5⟩
  obtain ⟨o1, l1⟩ := L_push hLz (show n < 260 by omega) 1 (x.2 13 n) (x.2 14 n)
  have gx1 := g_push z n z11 (by omega) 1 (x.2 13 n) (x.2 14 n)
  have fx1 : ∀ j, j ≠ 11 → (m_push z 1 (x.2 13 n) (x.2 14 n)).1 j = x.1 j := fun j hj => (f_push _ _ _ _ j hj).trans (zf j hj)
  have x1T : q_T (m_push z 1 (x.2 13 n) (x.2 14 n)) ty a b0 := z1.cong (f_push _ _ _ _ 1 (by decide)) (f_push _ _ _ _ 3 (by decide)) (f_push _ _ _ _ 4 (by decide)) (f_push _ _ _ _ 6 (by decide))
  generalize hx1 : m_push z 1 (x.2 13 n) (x.2 14 n) = x1 at *
  have gx : ∀ k j, x1.2 k j = x.2 k j := fun k j => by
    rw [gx1, z2]
    by_cases e14 : k = 14 ∧ j = n
    · rw [if_pos e14, e14.1, e14.2]
    rw [if_neg e14]
    by_cases e13 : k = 13 ∧ j = n
    · rw [if_pos e13, e13.1, e13.2]
    rw [if_neg e13]
    by_cases e12 : k = 12 ∧ j = n
    · rw [if_pos e12, e12.1, e12.2, h12]; rfl
    rw [if_neg e12]
  obtain ⟨o2, hok⟩ := P_proc l1 ((fx1 3 (by decide)).trans h3) ((fx1 7 (by decide)).trans g2) ((fx1 21 (by decide)).trans g6) hl4 (show n + 1 + 2 < 260 by omega)
  refine ⟨⟨o1, o2, trivial⟩, ?_⟩
  generalize hy : m_procedure x1 = y at *
  by_cases e7 : y.1 7 = 0
  · obtain ⟨v4, ⟨m, r1, r2, r3, r4, r5, ⟨w1, w2, w3, w4⟩, r7, r8, r9, ⟨t1, t2, t3, t4⟩, r11, r12⟩, r13⟩ := hok e7
    obtain ⟨a1, b1, m1, m2⟩ := M_goOn1 x1T (by rw [fx1 3 (by decide), h3]; decide)
    obtain ⟨a', b', p1, p2⟩ := r13 ty a1 b1 m1
    have nm91 := r1.nm
    have na : 2 * (nm + 1 + m) ≤ a' + 1 := by
      obtain ⟨ty2, a2, b2, t1, t2, -⟩ := r1
      have : nI a2 = nI a' := by rw [← t1.2.2.1]; exact p1.2.2.1
      have t21 := t1.2.1; have t25 := t1.2.2.2.2.1; have t26 := t1.2.2.2.2.2.1
      have s21 := p1.2.1; have s25 := p1.2.2.2.2.1; have s26 := p1.2.2.2.2.2.1
      have := nz_inj this (by omega) (by omega)
      omega
    have ge : q_GE Γ (q_nw Γ nb b m md (g_l Γ b + 1)) nb md := q_nw.ge hp
    obtain ⟨N1, N2, N3, N4, N5, N6⟩ := q_nw.at (Γ := Γ) (nb := nb) (p := b) (m := m) (ent := md) (l := g_l Γ b + 1)
    have lb : g_l (q_nw Γ nb b m md (g_l Γ b + 1)) b = g_l Γ b := (ge.1 b g10).2.2.2.1
    have cb : g_c (q_nw Γ nb b m md (g_l Γ b + 1)) b = g_c Γ b := by show (if b = nb then _ else _) = _; rw [if_neg (by omega)]
    have nbn : g_n (q_nw Γ nb b m md (g_l Γ b + 1)) b = g_n Γ b := (ge.1 b g10).2.1
    have tsk : ∀ k j, (k = 12 ∨ k = 13 ∨ k = 14) → j < n + 1 → y.2 k j = x.2 k j := fun k j hk hj => (r9 k j hj hk).trans (gx k j)
    have nms : ∀ k j, j < nm → (k < 12 ∨ 14 < k) → y.2 k j = x.2 k j := fun k j hj hk => (r8 k j hj hk).trans (gx k j)
    have cod : ∀ k, 20 < k → y.2 k = x.2 k := fun k hk => by rw [r12 k (by omega)]; funext j; exact gx k j
    have co2 := g13.2 (show (1 : Nat) ≠ 2 by decide)
    have bnd : ∀ e, e < nb + 1 → g_p (q_nw Γ nb b m md (g_l Γ b + 1)) e < nb + 1 := fun e he => by
      by_cases q : e = nb
      · rw [q, N1]; omega
      · rw [(ge.1 e (by omega)).1]; have := hp e (by omega); omega
    refine Or.inr ⟨q_nw Γ nb b m md (g_l Γ b + 1), nb + 1, a', b', n + 3, nm + 1 + m, md, (nb, 0, [], 0, nm + 1 + m), p1, e7, r1.h11, r1.h15, r1.h25, ?_, ?_, Nat.zero_le 6, Nat.le_refl _, na, by show nb < nb + 1; omega, ?_, ?_, ⟨?_, ?_⟩, ⟨fun _ => ⟨N4, N3, r4, by rw [N2]; exact r5⟩, fun q => absurd (show (0 : Nat) = 1 from q) (by decide), fun q => absurd (show (0 : Nat) = 2 from q) (by decide)⟩, ?_, ?_, ?_⟩
    · show y.1 21 = nI (g_l (q_nw Γ nb b m md (g_l Γ b + 1)) nb)
      rw [N5]; exact r3
    · show y.1 24 = nI 0
      rw [r11 24 (by decide) (by decide) (by decide) (by decide) (by decide) (by decide) (by decide) (by decide) (by decide), fx1 24 (by decide)]; exact g7
    · refine ⟨by omega, ?_, ?_, fun e he => ?_⟩
      · rw [(ge.1 0 bo1).2.2.1]; exact bo2
      · rw [(ge.1 0 bo1).1]; exact bo3
      by_cases q : e = nb
      · subst q
        refine ⟨Or.inr ⟨by rw [N1]; exact g10, ?_⟩, by rw [N2]; exact r2, by rw [N5]; omega, by rw [N4]; exact N6, Or.inr ⟨rfl, rfl, N4⟩⟩
        rw [N5, N1, lb]
      · obtain ⟨s1, s2, s3, s4, s5⟩ := bo4 e (by omega)
        obtain ⟨z1, z2, z3, z4, -⟩ := ge.1 e (by omega)
        have s5' : g_e Γ e < md := by rcases s5 with q | ⟨q, _⟩; exact q; exact absurd (show (1 : Nat) = 0 from q) (by decide)
        refine ⟨?_, by rw [z2]; exact s2, by rw [z4]; exact s3, by rw [z3, ge.2.1 _ s5']; exact s4, Or.inl (by rw [z3]; exact s5')⟩
        rw [z1, z2, z4]
        rcases s1 with s1 | ⟨s1, s1'⟩
        · exact Or.inl s1
        · exact Or.inr ⟨s1, by rw [(ge.1 _ (show g_p Γ e < nb by omega)).2.2.2.1]; exact s1'⟩
    · intro k hk
      show q_nm (q_nw Γ nb b m md (g_l Γ b + 1)) (nb + 1) y nb k
      by_cases k1 : k < nm
      · obtain ⟨v, q1, q2, q3⟩ := ge.nm (nb' := nb + 1) (y := y) (by omega) g10 (nms 17 k k1 (by omega)) (nms 18 k k1 (by omega)) (nms 19 k k1 (by omega)) (nms 20 k k1 (by omega)) (g12 k k1)
        rw [lb] at q2 q3
        refine ⟨v, q1, by rw [N5]; omega, ?_⟩
        rw [N5, show g_l Γ b + 1 - v = g_l Γ b - v + 1 by omega]
        show _ ∨ _
        have ea : q_an (g_p (q_nw Γ nb b m md (g_l Γ b + 1))) (g_l Γ b - v + 1) nb = q_an (g_p (q_nw Γ nb b m md (g_l Γ b + 1))) (g_l Γ b - v) b := by
          show q_an _ (g_l Γ b - v) (g_p (q_nw Γ nb b m md (g_l Γ b + 1)) nb) = _
          rw [N1]
        rw [ea]; exact q3
      · by_cases k2 : k = nm
        · subst k2
          refine ⟨g_l Γ b, w2, by rw [N5]; omega, Or.inr (Or.inr ⟨w1, nb, by omega, by omega, by rw [N4]; exact w3, by rw [N2]; exact w4, ?_⟩)⟩
          rw [N5, N1, show g_l Γ b + 1 - g_l Γ b = 0 + 1 by omega]
          show b = q_an (g_p (q_nw Γ nb b m md (g_l Γ b + 1))) 0 (g_p (q_nw Γ nb b m md (g_l Γ b + 1)) nb)
          rw [N1]; rfl
        · obtain ⟨s1, s2, s3⟩ := r7 (k - (nm + 1)) (by omega)
          have ek : nm + 1 + (k - (nm + 1)) = k := by omega
          rw [ek] at s1 s2 s3
          refine ⟨g_l Γ b + 1, s2, by rw [N5]; exact Nat.le_refl _, Or.inl ⟨s1, Or.inr ⟨k - (nm + 1), ?_, ?_⟩⟩⟩
          · rw [N5, Nat.sub_self]; show _ < g_n (q_nw Γ nb b m md (g_l Γ b + 1)) nb; rw [N2]; omega
          · rw [N5, Nat.sub_self]; show _ = _ - nI (g_n (q_nw Γ nb b m md (g_l Γ b + 1)) nb); rw [N2]; exact s3
    · intro i hi
      obtain ⟨q1, q2⟩ := g13.1 i hi
      rw [cod 26 (by decide), cod 27 (by decide), cod 28 (by decide)]
      refine ⟨ge.ok (by omega) (by omega) ?_ rfl rfl (Or.inl rfl) q1, ?_⟩
      · by_cases ei : i + 1 = md
        · exact Or.inr (co2 i ei)
        · exact Or.inl (by omega)
      · rcases q2 with q | ⟨j, j1, j2⟩
        · exact Or.inl (ge.tq (md' := md) (mm' := md) (by omega) (Nat.le_refl _) (Nat.le_refl _) (Nat.le_refl _) (fun _ _ => rfl) rfl rfl q)
        · exact Or.inr ⟨j, by omega, by rw [tsk 12 j (by omega) j1, tsk 13 j (by omega) j1, tsk 14 j (by omega) j1]; exact j2⟩
    · intro _ i hi
      rw [cod 26 (by decide), cod 28 (by decide)]; exact co2 i hi
    · rw [u9] at hT
      have T00 := ge.TS (x := x) (y := y) (nb' := nb + 1) (md' := md) (mm' := md) (a' := a') (by omega) (Nat.le_refl _) (Nat.le_refl _) (Nat.le_refl _) (show a ≤ a' by omega) (fun j _ => by rw [cod 26 (by decide)]) n _ (fun j hj => ⟨tsk 12 j (by omega) (by omega), tsk 13 j (by omega) (by omega), tsk 14 j (by omega) (by omega)⟩) (fun k hk => by
        have hk : k < ns := hk
        exact ⟨nms 17 k (by omega) (by omega), nms 18 k (by omega) (by omega)⟩) hT
      have T0 : q_TS (q_nw Γ nb b m md (g_l Γ b + 1)) (nb + 1) y md md a' n (b, 3, [], 0, nm + 1) := q_TS.up n _ (nm + 1) (show ns ≤ nm + 1 by omega) T00
      have T1 : q_TS (q_nw Γ nb b m md (g_l Γ b + 1)) (nb + 1) y md md a' (n + 1) (b, 1, [], 0, nm + 1) := TS_cons (kd := 1) (show b < nb + 1 by omega) (by decide) (by rw [tsk 12 n (by omega) (by omega)]; exact h12) (by
        rw [tsk 13 n (by omega) (by omega), tsk 14 n (by omega) (by omega)]
        exact ⟨rfl, (by show n ≤ 1 + 2 * g_l (q_nw Γ nb b m md (g_l Γ b + 1)) b; rw [lb]; exact u2), rfl, (by show x.2 14 n = nI (g_n (q_nw Γ nb b m md (g_l Γ b + 1)) b); rw [nbn]; exact u4), ⟨j0, u5, u6, by rw [ge.2.1 j0 u6]; exact u7, by rw [cod 26 (by decide)]; exact u8⟩, rfl⟩) T0
      have T2 : q_TS (q_nw Γ nb b m md (g_l Γ b + 1)) (nb + 1) y md md a' (n + 2) (nb, 3, [], 0, nm + 1 + m) := TS_cons (kd := 3) (show nb < nb + 1 by omega) (by decide) t1 (by
        rw [t2, t3, fx1 22 (by decide)]
        refine ⟨rfl, rfl, (by show nb ≠ 0; omega), (by show n + 1 ≤ 2 * g_l (q_nw Γ nb b m md (g_l Γ b + 1)) nb; rw [N5]; omega), ?_, ?_, ?_, nm + 1, rfl, (by show nm + 1 ≤ nm + 1 + m; omega), ?_, ?_⟩
        · show x.1 22 = nI (g_c _ (g_p (q_nw Γ nb b m md (g_l Γ b + 1)) nb)); rw [N1, cb]; exact ph1
        · show 3 ≤ g_c (q_nw Γ nb b m md (g_l Γ b + 1)) (g_p (q_nw Γ nb b m md (g_l Γ b + 1)) nb); rw [N1, cb]; exact ph2
        · show g_c (q_nw Γ nb b m md (g_l Γ b + 1)) (g_p (q_nw Γ nb b m md (g_l Γ b + 1)) nb) ≤ 3000; rw [N1, cb]; exact ph3
        · intro j hj
          show ∃ v, y.2 18 j = nI v ∧ v < g_l (q_nw Γ nb b m md (g_l Γ b + 1)) nb
          rw [N5]
          by_cases ej : j = nm
          · subst ej; exact ⟨g_l Γ b, w2, by omega⟩
          · obtain ⟨v, q1, q2, -⟩ := g12 j (by omega)
            have q2 : v ≤ g_l Γ b := q2
            exact ⟨v, by rw [nms 18 j (by omega) (by omega)]; exact q1, by omega⟩
        · show (b, 1, [], 0, nm + 1) = (g_p (q_nw Γ nb b m md (g_l Γ b + 1)) nb, 1, [], 0, nm + 1); rw [N1]) T1
      exact TS_cons (kd := 0) (show nb < nb + 1 by omega) (by decide) t4 ⟨rfl, (by show n + 2 ≤ 1 + 2 * g_l (q_nw Γ nb b m md (g_l Γ b + 1)) nb; rw [N5]; omega), rfl, rfl⟩ T2
    · rw [q_we, t4, q_we, t1, q_we, tsk 12 n (by omega) (by omega), h12, q_we.eq (x := x) n (fun j hj => tsk 12 j (by omega) (by omega))]
      show md + (1 + (0 + (0 + q_we x n))) ≤ _; omega
    · rw [q_wt, t4, q_wt, t1, q_wt, tsk 12 n (by omega) (by omega), h12, q_wt.eq (x := x) n (fun j hj => tsk 12 j (by omega) (by omega))]
      show 2 + (1 + (1 + q_wt x n)) + 8 * (ty - a') ≤ r
      have := p1.2.2.2.2.1; have := p1.2.2.2.2.2.1
      omega
  · exact Or.inl e7
/-- PARTS, at the body -/
theorem S_1b {x : nM} {Γ : q_G} {nb ty a b0 n nm md r : Nat} {c c' : q_C} (h : q_CI x Γ nb ty a b0 (n + 1) nm md (r + 1) c) (h12 : x.2 12 n = nI 1) (hru : q_ru Γ x md md a n 1 (x.2 13 n) (x.2 14 n) c c') (hT : q_TS Γ nb x md md a n c') (h5 : ¬ x.1 3 = 5) :
    o_parts (nm_f x 11 (x.1 11 - 1)) (x.2 13 n) (x.2 14 n) ∧ q_SR (m_parts (nm_f x 11 (x.1 11 - 1)) (x.2 13 n) (x.2 14 n)) ty r := by
  obtain ⟨b, ph, t, d, ns⟩ := c
  obtain ⟨u1, u2, u3, u4, ⟨j0, u5, u6, u7, u8⟩, u9⟩ := hru
  have u1 : ph = 1 := u1
  have u3 : d = 0 := u3
  subst u1 u3
  obtain ⟨g1, g2, g3, g4, g5, g6, g7, g8, hs, g9, g10, g11, g12, g13, g14, gT, gw, gr⟩ := h
  have g6 : x.1 21 = nI (g_l Γ b) := g6
  have hs : ns ≤ nm := hs
  have g10 : b < nb := g10
  have u2 : n ≤ 1 + 2 * g_l Γ b := u2
  have u4 : x.2 14 n = nI (g_n Γ b) := u4
  have u7 : g_a Γ j0 = (b, none) := u7
  obtain ⟨ph1, ph2, ph3⟩ := g14.2.1 rfl
  have ph1 : x.1 22 = nI (g_c Γ b) := ph1
  have ph2 : 3 ≤ g_c Γ b := ph2
  have ph3 : g_c Γ b ≤ 3000 := ph3
  have e11 : x.1 11 - 1 = nI n := by rw [g3]; exact nz_dm n
  have w12 : q_we x (n + 1) = 0 + q_we x n := by rw [q_we, h12]; rfl
  have v12 : q_wt x (n + 1) = 1 + q_wt x n := by rw [q_wt, h12]; rfl
  rw [w12] at gw
  rw [v12] at gr
  have hp := g11.p
  obtain ⟨bo1, bo2, bo3, bo4⟩ := g11
  have hl4 := (bo4 b g10).2.2.1
  have ha180 : a ≤ 180 := by have := g1.2.1; have := g1.2.2.2.2.1; have := g1.2.2.2.2.2.1; omega
  generalize hz : nm_f x 11 (x.1 11 - 1) = z at *
  have z2 : z.2 = x.2 := by rw [← hz]; rfl
  have zf : ∀ j, j ≠ 11 → z.1 j = x.1 j := fun j hj => by rw [← hz, q_f1, if_neg hj]
  have z11 : z.1 11 = nI n := by rw [← hz, q_f1, if_pos rfl]; exact e11
  have z1 : q_T z ty a b0 := g1.cong (zf 1 (by decide)) (zf 3 (by decide)) (zf 4 (by decide)) (zf 6 (by decide))
  have hLz : q_L z n nm md 1 := ⟨ty, a, b0, z1, g9, z11, (zf 15 (by decide)).trans g4, (zf 25 (by decide)).trans g5⟩
  have ji : vp_in (x.2 13 n) 400 := by rw [u5]; exact q_in (by omega) (by decide)
  obtain ⟨o1, l1⟩ := L_goOn hLz
  obtain ⟨o2, l2, -⟩ := L_emit (l1.a 28 (x.2 13 n) ((m_goOn z).1 25)) (show md < 400 by omega) 6 0 ((m_goOn z).1 22)
  obtain ⟨o3, l3⟩ := L_push l2 (show n < 260 by omega) 2 (x.2 14 n) 0
  obtain ⟨o4, l4⟩ := L_push l3 (show n + 1 < 260 by omega) 5 0 0
  have o5 := (L_push l4 (show n + 2 < 260 by omega) 6 0 0).1
  rw [o_parts, m_parts, if_neg (by rw [zf 3 (by decide)]; exact h5)]
  refine ⟨⟨fun q => absurd (by rw [← zf 3 (by decide)]; exact q) h5, fun _ => ⟨fun _ => ⟨o1, ji, o2, o3, o4, o5, trivial⟩, fun _ => trivial⟩⟩, ?_⟩
  by_cases c7 : z.1 3 = 7
  · rw [if_pos c7]
    obtain ⟨a', b', p1, p2⟩ := M_goOn1 z1 (by rw [c7]; decide)
    have gf : ∀ j, j ≠ 3 → j ≠ 4 → j ≠ 5 → j ≠ 6 → j ≠ 11 → (m_goOn z).1 j = x.1 j := fun j q3 q4 q5 q6 q11 => by rw [f_goOn _ j q3 q4 q5 q6]; exact zf j q11
    have gg : (m_goOn z).2 = x.2 := by rw [g_goOn]; exact z2
    have e25 : (m_goOn z).1 25 = nI md := (gf 25 (by decide) (by decide) (by decide) (by decide) (by decide)).trans g5
    have e22 : (m_goOn z).1 22 = nI (g_c Γ b) := (gf 22 (by decide) (by decide) (by decide) (by decide) (by decide)).trans ph1
    have e110 : (m_goOn z).1 11 = nI n := by rw [f_goOn _ 11 (by decide) (by decide) (by decide) (by decide)]; exact z11
    rw [e25, e22, u5]
    generalize hw : m_goOn z = w at *
    have pg : ∀ k i, (nm_a w 28 (nI j0) (nI md)).2 k i = if k = 28 ∧ i = j0 then nI md else x.2 k i := fun k i => by
      rw [q_a2, nI_clamp (by omega), gg]
      by_cases e : k = 28
      · subst e
        show (if 28 = 28 then (fun q => if q = j0 then nI md else x.2 28 q) else _) i = _
        simp
      · simp [e]
    have eg := g_emit (nm_a w 28 (nI j0) (nI md)) md e25 (by omega) 6 0 (nI (g_c Γ b))
    have ef : ∀ j, j ≠ 25 → (m_emit (nm_a w 28 (nI j0) (nI md)) 6 0 (nI (g_c Γ b))).1.1 j = w.1 j := fun j hj => f_emit _ _ _ _ j hj
    have e25b : (m_emit (nm_a w 28 (nI j0) (nI md)) 6 0 (nI (g_c Γ b))).1.1 25 = nI (md + 1) := by rw [m_emit]; show w.1 25 + 1 = _; rw [e25]; exact nI_1 md
    generalize hv : (m_emit (nm_a w 28 (nI j0) (nI md)) 6 0 (nI (g_c Γ b))).1 = v at *
    have vg : ∀ k i, v.2 k i = if k = 28 ∧ i = md then nI (g_c Γ b) else if k = 27 ∧ i = md then 0 else if k = 26 ∧ i = md then 6 else if k = 28 ∧ i = j0 then nI md else x.2 k i := fun k i => by rw [eg, pg]
    have vo : ∀ k, k ≠ 26 → k ≠ 27 → k ≠ 28 → v.2 k = x.2 k := fun k q1 q2 q3 => by funext i; rw [vg, if_neg (by omega), if_neg (by omega), if_neg (by omega), if_neg (by omega)]
    have v26 : ∀ i, i < md → v.2 26 i = x.2 26 i := fun i hi => by rw [vg, if_neg (by omega), if_neg (by omega), if_neg (by omega), if_neg (by omega)]
    have v27 : ∀ i, i < md → v.2 27 i = x.2 27 i := fun i hi => by rw [vg, if_neg (by omega), if_neg (by omega), if_neg (by omega), if_neg (by omega)]
    have v28 : ∀ i, i < md → i ≠ j0 → v.2 28 i = x.2 28 i := fun i hi hj => by rw [vg, if_neg (by omega), if_neg (by omega), if_neg (by omega), if_neg (by omega)]
    have n26 : v.2 26 md = 6 := by rw [vg, if_neg (by omega), if_neg (by omega), if_pos ⟨rfl, rfl⟩]
    have n28 : v.2 28 md = nI (g_c Γ b) := by rw [vg, if_pos ⟨rfl, rfl⟩]
    have j28 : v.2 28 j0 = nI md := by rw [vg, if_neg (by omega), if_neg (by omega), if_neg (by omega), if_pos ⟨rfl, rfl⟩]
    have ge1 : q_GE Γ (q_ga Γ md (b, none)) nb md := q_ga.ge hp (Nat.le_refl _)
    have ge : q_GE Γ (q_ga (q_ga Γ md (b, none)) (md + 1) (b, some [])) nb md := ge1.tr (q_ga.ge (mm := md) hp (by omega)) (Nat.le_refl _)
    have amd : g_a (q_ga (q_ga Γ md (b, none)) (md + 1) (b, some [])) md = (b, none) := by
      show (if md = md + 1 then _ else (if md = md then (b, none) else _)) = _
      rw [if_neg (by omega), if_pos rfl]
    have co2 := g13.2 (show (1 : Nat) ≠ 2 by decide)
    have CB : q_CB v (q_ga (q_ga Γ md (b, none)) (md + 1) (b, some [])) nb ty a' b' n nm (md + 1) b [] 0 (fun _ => False) := by
      refine ⟨p1.cong (ef 1 (by decide)) (ef 3 (by decide)) (ef 4 (by decide)) (ef 6 (by decide)), ?_, ?_, ?_, e25b, ?_, ?_, by decide, by omega, g10, ⟨bo1, bo2, bo3, fun e he => ?_⟩, ?_, ?_, q_ga.at⟩
      · rw [ef 7 (by decide), gf 7 (by decide) (by decide) (by decide) (by decide) (by decide)]; exact g2
      · rw [ef 11 (by decide)]; exact e110
      · rw [ef 15 (by decide), gf 15 (by decide) (by decide) (by decide) (by decide) (by decide)]; exact g4
      · rw [ef 21 (by decide), gf 21 (by decide) (by decide) (by decide) (by decide) (by decide)]; exact g6
      · rw [ef 24 (by decide), gf 24 (by decide) (by decide) (by decide) (by decide) (by decide)]; exact g7
      · obtain ⟨m1, m2, m3, m4, m5⟩ := bo4 e he
        have m5' : g_e Γ e < md := by rcases m5 with q | ⟨q, _⟩; exact q; exact absurd (show (1 : Nat) = 0 from q) (by decide)
        exact ⟨m1, m2, m3, (ge.2.1 _ m5').trans m4, Or.inl (show g_e Γ e < md + 1 by omega)⟩
      · intro k hk
        exact ge.nm (Nat.le_refl _) g10 (by rw [vo 17 (by decide) (by decide) (by decide)]) (by rw [vo 18 (by decide) (by decide) (by decide)]) (by rw [vo 19 (by decide) (by decide) (by decide)]) (by rw [vo 20 (by decide) (by decide) (by decide)]) (g12 k hk)
      · intro i hi
        by_cases e : i = md
        · subst e
          exact ⟨⟨by rw [amd]; exact g10, Or.inr (Or.inr (Or.inl ⟨n26, b, amd, q_ga.at, n28, ph2, ph3⟩))⟩, Or.inl (fun q => by rw [n26] at q; exact absurd q (by decide))⟩
        · obtain ⟨q1, q2⟩ := g13.1 i (by omega)
          have hi2 : i + 1 < md ∨ x.2 26 i = 7 ∨ (x.2 26 i = 9 ∧ x.2 28 i = 0) := by
            by_cases ei : i + 1 = md
            · exact Or.inr (co2 i ei)
            · exact Or.inl (by omega)
          by_cases ej : i = j0
          · subst ej
            refine ⟨ge.ok (Nat.le_refl _) (by omega) hi2 (v26 i (by omega)) (v27 i (by omega)) (Or.inr (Or.inl u8)) q1, Or.inl (fun _ => ⟨md, j28, Or.inl ?_⟩)⟩
            rw [ge.2.1 i u6, u7]
            exact ⟨rfl, by omega, amd, n26⟩
          · refine ⟨ge.ok (Nat.le_refl _) (by omega) hi2 (v26 i (by omega)) (v27 i (by omega)) (Or.inl (v28 i (by omega) ej)) q1, ?_⟩
            rcases q2 with q | ⟨j, j1, j2⟩
            · exact Or.inl (ge.tq (md' := md + 1) (mm' := md + 1 + 1) (by omega) (by omega) (by omega) (Nat.le_refl _) (fun j hj => v26 j hj) (v26 i (by omega)) (v28 i (by omega) ej) q)
            · by_cases en : j = n
              · subst en
                exfalso
                rcases j2 with ⟨_, q⟩ | ⟨q, _⟩ | ⟨q, _⟩ | ⟨q, _⟩
                · exact ej (nz_inj (q.symm.trans u5) (by omega) (by omega))
                · rw [h12] at q; exact absurd q (by decide)
                · rw [h12] at q; exact absurd q (by decide)
                · rw [h12] at q; exact absurd q (by decide)
              · exact Or.inr (Or.inl ⟨j, by omega, by rw [vo 12 (by decide) (by decide) (by decide), vo 13 (by decide) (by decide) (by decide), vo 14 (by decide) (by decide) (by decide)]; exact j2⟩)
    obtain ⟨y, ey, r1, r2, r3, r4, r5, r6, r7⟩ := B_push3 CB (show n + 2 < 260 by omega) 2 (x.2 14 n) 0 5 0 0 6 0 0
    rw [ey]
    rw [u9] at hT
    have T00 : q_TS (q_ga (q_ga Γ md (b, none)) (md + 1) (b, some [])) nb v (md + 1) (md + 1 + 1) a' n (b, 3, [], 0, ns) := ge.TS (x := x) (md' := md + 1) (mm' := md + 1 + 1) (Nat.le_refl _) (by omega) (by omega) (Nat.le_refl _) (show a ≤ a' by omega) (fun j hj => v26 j hj) n _ (fun j _ => by rw [vo 12 (by decide) (by decide) (by decide), vo 13 (by decide) (by decide) (by decide), vo 14 (by decide) (by decide) (by decide)]; exact ⟨rfl, rfl, rfl⟩) (fun k _ => ⟨by rw [vo 17 (by decide) (by decide) (by decide)], by rw [vo 18 (by decide) (by decide) (by decide)]⟩) hT
    have T0 := FR_TS r2 (Nat.le_refl _) (Nat.le_refl _) T00
    have T1 : q_TS (q_ga (q_ga Γ md (b, none)) (md + 1) (b, some [])) nb y (md + 1) (md + 1 + 1) a' (n + 1) (b, 2, [], 0, ns) := TS_cons (kd := 2) g10 (by decide) r3.1 (by
      rw [r3.2.1, r3.2.2]
      exact ⟨rfl, rfl, rfl, u4, rfl⟩) T0
    have T2 : q_TS (q_ga (q_ga Γ md (b, none)) (md + 1) (b, some [])) nb y (md + 1) (md + 1 + 1) a' (n + 2) (b, 2, [], 0, ns) := TS_cons (kd := 5) g10 (by decide) r4.1 ⟨rfl, rfl, (by show n + 1 ≤ 2 + 2 * g_l Γ b + 5 * 0; omega), rfl⟩ T1
    have T3 : q_TS (q_ga (q_ga Γ md (b, none)) (md + 1) (b, some [])) nb y (md + 1) (md + 1 + 1) a' (n + 3) (b, 2, [], 0, ns) := TS_cons (kd := 6) g10 (by decide) r5.1 ⟨rfl, rfl, (by show n + 2 ≤ 3 + 2 * g_l Γ b + 5 * 0; omega), rfl⟩ T2
    have wv : q_we v n = q_we x n := q_we.eq n (fun j _ => by rw [vo 12 (by decide) (by decide) (by decide)])
    have tv : q_wt v n = q_wt x n := q_wt.eq n (fun j _ => by rw [vo 12 (by decide) (by decide) (by decide)])
    refine CB_CI r1 (fun _ _ q => q.elim) hs T3 ?_ ?_
    · rw [r6, wv]; show md + 1 + (0 + (0 + (1 + q_we x n))) ≤ _; omega
    · rw [r7, tv]; show 1 + (1 + (1 + q_wt x n)) + 8 * (ty - a') ≤ r
      have := p1.2.2.2.2.1; have := p1.2.2.2.2.2.1
      omega
  · rw [if_neg c7]; exact Or.inl (e_fail (by decide))
