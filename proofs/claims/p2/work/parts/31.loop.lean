theorem q_CB.mono {x : nM} {Γ : q_G} {nb ty a b0 n nm md b d : Nat} {t : q_Ty} {E E' : Nat → Prop} (h : q_CB x Γ nb ty a b0 n nm md b t d E) (hE : ∀ i, i < md → E i → E' i) : q_CB x Γ nb ty a b0 n nm md b t d E' := by
  obtain ⟨g1, g2, g3, g4, g5, g6, g7, g8, g9, g10, g11, g12, g13, g14⟩ := h
  exact ⟨g1, g2, g3, g4, g5, g6, g7, g8, g9, g10, g11, g12, fun i hi => ⟨(g13 i hi).1, (g13 i hi).2.imp id (fun q => q.imp id (hE i hi))⟩, g14⟩
theorem q_p1.j {x : nM} {n i j kd : Nat} (hk : kd = 9 ∨ kd = 10) (h : x.2 12 n = nI kd) (h13 : x.2 13 n = nI j) (hi : i < 400) (hj : j < 400) (q : q_p1 x n i) : i = j := by
  rcases q with ⟨q, _⟩ | ⟨_, q⟩ | ⟨_, q⟩ | ⟨q, _⟩
  · rw [h] at q; rcases hk with rfl | rfl <;> exact absurd q (by decide)
  · exact nz_inj (q.symm.trans h13) (by omega) (by omega)
  · exact nz_inj (q.symm.trans h13) (by omega) (by omega)
  · rw [h] at q; rcases hk with rfl | rfl <;> exact absurd q (by decide)
theorem q_p1.k {x : nM} {n i j : Nat} (h : x.2 12 n = nI 12) (h14 : x.2 14 n = nI j) (hi : i < 400) (hj : j < 400) (q : q_p1 x n i) : i = j := by
  rcases q with ⟨q, _⟩ | ⟨q, _⟩ | ⟨q, _⟩ | ⟨_, q⟩
  · rw [h] at q; exact absurd q (by decide)
  · rw [h] at q; exact absurd q (by decide)
  · rw [h] at q; exact absurd q (by decide)
  · exact nz_inj (q.symm.trans h14) (by omega) (by omega)
/-- a task performed -/
theorem S_all {x : nM} {Γ : q_G} {nb ty a b0 n nm md r : Nat} {c : q_C} (h : q_CI x Γ nb ty a b0 (n + 1) nm md (r + 1) c) :
    o_perform (nm_f x 11 (x.1 11 - 1)) (x.2 12 n) (x.2 13 n) (x.2 14 n) ∧ q_SR (m_perform (nm_f x 11 (x.1 11 - 1)) (x.2 12 n) (x.2 13 n) (x.2 14 n)) ty r := by
  have hTS : q_TS Γ nb x md (q_mm md c.2.1) a (n + 1) c := h.2.2.2.2.2.2.2.2.2.2.2.2.2.2.2.1
  obtain ⟨-, kd, c', hk, h12, hru, hT⟩ := hTS
  have hw0 := h.2.2.2.2.2.2.2.2.2.2.2.2.2.2.2.2.1
  have hr0 := h.2.2.2.2.2.2.2.2.2.2.2.2.2.2.2.2.2
  have body : c.2.1 = 2 → ∃ b t d ns, c = (b, 2, t, d, ns) ∧ q_CB (nm_f x 11 (x.1 11 - 1)) Γ nb ty a b0 n nm md b t d (fun i => q_p1 x n i ∧ i < md) ∧ ns ≤ nm ∧ md < 400 := fun hp => by
    obtain ⟨b, ph, t, d, ns⟩ := c
    have hp : ph = 2 := hp
    subst hp
    obtain ⟨k1, k2, -⟩ := CI_CB h
    have := k1.le
    exact ⟨b, t, d, ns, rfl, k1.mono (fun i hi q => ⟨q, hi⟩), k2, by omega⟩
  have wx : q_we (nm_f x 11 (x.1 11 - 1)) n = q_we x n := q_we.eq n (fun _ _ => rfl)
  have tx : q_wt (nm_f x 11 (x.1 11 - 1)) n = q_wt x n := q_wt.eq n (fun _ _ => rfl)
  have hw1 : md + (q_e1 (nI kd) + q_we (nm_f x 11 (x.1 11 - 1)) n) ≤ 2 * a + 3 := by rw [wx, ← h12]; exact hw0
  have hr1 : q_t1 (nI kd) + q_wt (nm_f x 11 (x.1 11 - 1)) n + 8 * (ty - a) ≤ r + 1 := by rw [tx, ← h12]; exact hr0
  have tr : ∀ (mm : Nat) (c1 : q_C), md ≤ mm → c.1 < nb → q_TS Γ nb x md mm a n c1 → q_TS Γ nb (nm_f x 11 (x.1 11 - 1)) md mm a n c1 := fun mm c1 hm _ g =>
    (q_GE.rf (mm := mm) h.2.2.2.2.2.2.2.2.2.2.2.1.p).TS (x := x) (y := nm_f x 11 (x.1 11 - 1)) (Nat.le_refl _) (Nat.le_refl _) (Nat.le_refl _) hm (Nat.le_refl _) (fun _ _ => rfl) n c1 (fun _ _ => ⟨rfl, rfl, rfl⟩) (fun _ _ => ⟨rfl, rfl⟩) g
  have hcb : c.1 < nb := h.2.2.2.2.2.2.2.2.2.2.1
  rw [h12]
  match kd, hk, h12, hru, hw1, hr1 with
  | 0, hk, h12, hru, hw1, hr1 =>
    have em : q_mm md c.2.1 = md := by rw [show c.2.1 = 0 from hru.1]; rfl
    rw [em] at hru hT
    have K := S_0 h h12 hru hT
    rw [show nI 0 = (0 : Int32) from rfl, o_perform, m_perform, if_pos rfl]
    exact ⟨⟨fun _ => ⟨K.1, trivial⟩, fun q => absurd rfl q⟩, K.2⟩
  | 1, hk, h12, hru, hw1, hr1 =>
    have em : q_mm md c.2.1 = md := by rw [show c.2.1 = 1 from hru.1]; rfl
    rw [em] at hru hT
    have K : o_parts (nm_f x 11 (x.1 11 - 1)) (x.2 13 n) (x.2 14 n) ∧ q_SR (m_parts (nm_f x 11 (x.1 11 - 1)) (x.2 13 n) (x.2 14 n)) ty r := by
      by_cases c5 : x.1 3 = 5
      · have K := S_1p h h12 hru hT c5
        have e3 : (nm_f x 11 (x.1 11 - 1)).1 3 = 5 := c5
        rw [o_parts, m_parts, if_pos e3]
        exact ⟨⟨fun _ => K.1, fun q => absurd e3 q⟩, K.2⟩
      · exact S_1b h h12 hru hT c5
    rw [show nI 1 = (1 : Int32) from rfl, o_perform, m_perform, if_neg (by decide), if_pos rfl]
    exact ⟨⟨fun q => absurd q (by decide), fun _ => ⟨fun _ => ⟨K.1, trivial⟩, fun q => absurd rfl q⟩⟩, K.2⟩
  | 2, hk, h12, hru, hw1, hr1 =>
    obtain ⟨b, t, d, ns, rfl, hB, hs, hm4⟩ := body hru.1
    have hT := tr _ _ (by show md ≤ md + 1; omega) hcb hT
    obtain ⟨v1, v2, v3, v4, rfl⟩ := hru
    have h0 : ∀ i, ¬ (q_p1 x n i ∧ i < md) := fun i q => q_kd h12 hk (by decide) q.1
    have v2 : t = [] := v2
    have v3 : d = 0 := v3
    have v4 : x.2 13 n = nI (g_n Γ b) := v4
    subst v2 v3
    rw [v4]
    have K := S_2 (r := r) (ns := ns) hB h0 hs hT (by have : md + (1 + q_we (nm_f x 11 (x.1 11 - 1)) n) ≤ 2 * a + 3 := hw1; omega) (by have : 1 + q_wt (nm_f x 11 (x.1 11 - 1)) n + 8 * (ty - a) ≤ r + 1 := hr1; omega)
    rw [show nI 2 = (2 : Int32) from rfl, o_perform, m_perform, if_neg (by decide), if_neg (by decide), if_pos rfl]
    exact ⟨⟨fun q => absurd q (by decide), fun _ => ⟨fun q => absurd q (by decide), fun _ => ⟨fun _ => ⟨K.1, trivial⟩, fun q => absurd rfl q⟩⟩⟩, K.2⟩
  | 3, hk, h12, hru, hw1, hr1 =>
    have em : q_mm md c.2.1 = md := by rw [show c.2.1 = 3 from hru.1]; rfl
    rw [em] at hru hT
    have K := S_3 h h12 hru hT
    rw [show nI 3 = (3 : Int32) from rfl, o_perform, m_perform, if_neg (by decide), if_neg (by decide), if_neg (by decide), if_pos rfl]
    exact ⟨⟨fun q => absurd q (by decide), fun _ => ⟨fun q => absurd q (by decide), fun _ => ⟨fun q => absurd q (by decide), fun _ => ⟨fun _ => ⟨K.1, trivial⟩, fun q => absurd rfl q⟩⟩⟩⟩, K.2⟩
  | 4, hk, h12, hru, hw1, hr1 =>
    have em : q_mm md c.2.1 = md := by rw [show c.2.1 = 3 from hru.1]; rfl
    rw [em] at hru hT
    have K := S_4 h h12 hru
    rw [show nI 4 = (4 : Int32) from rfl, o_perform, m_perform, if_neg (by decide), if_neg (by decide), if_neg (by decide), if_neg (by decide), if_pos rfl]
    exact ⟨⟨fun q => absurd q (by decide), fun _ => ⟨fun q => absurd q (by decide), fun _ => ⟨fun q => absurd q (by decide), fun _ => ⟨fun q => absurd q (by decide), fun _ => ⟨fun _ => ⟨K.1, fun _ => trivial, fun _ => trivial⟩, fun q => absurd rfl q⟩⟩⟩⟩⟩, K.2⟩
  | 5, hk, h12, hru, hw1, hr1 =>
    obtain ⟨b, t, d, ns, rfl, hB, hs, hm4⟩ := body hru.1
    have hT := tr _ _ (by show md ≤ md + 1; omega) hcb hT
    obtain ⟨v1, v2, v3, rfl⟩ := hru
    have h0 : ∀ i, ¬ (q_p1 x n i ∧ i < md) := fun i q => q_kd h12 hk (by decide) q.1
    have v2 : t = [] := v2
    subst v2
    have K := S_5 (r := r) (ns := ns) hB h0 hs v3 hT (by have : md + (0 + q_we (nm_f x 11 (x.1 11 - 1)) n) ≤ 2 * a + 3 := hw1; omega) (by have : 1 + q_wt (nm_f x 11 (x.1 11 - 1)) n + 8 * (ty - a) ≤ r + 1 := hr1; omega)
    rw [show nI 5 = (5 : Int32) from rfl, o_perform, m_perform, if_neg (by decide), if_neg (by decide), if_neg (by decide), if_neg (by decide), if_neg (by decide), if_pos rfl]
    exact ⟨⟨fun q => absurd q (by decide), fun _ => ⟨fun q => absurd q (by decide), fun _ => ⟨fun q => absurd q (by decide), fun _ => ⟨fun q => absurd q (by decide), fun _ => ⟨fun q => absurd q (by decide), fun _ => ⟨fun _ => ⟨K.1, trivial⟩, fun q => absurd rfl q⟩⟩⟩⟩⟩⟩, K.2⟩
  | 6, hk, h12, hru, hw1, hr1 =>
    obtain ⟨b, t, d, ns, rfl, hB, hs, hm4⟩ := body hru.1
    have hT := tr _ _ (by show md ≤ md + 1; omega) hcb hT
    obtain ⟨v1, v2, v3, rfl⟩ := hru
    have h0 : ∀ i, ¬ (q_p1 x n i ∧ i < md) := fun i q => q_kd h12 hk (by decide) q.1
    have v2 : t = [] := v2
    subst v2
    have K := S_6 (r := r) (ns := ns) hB h0 hs v3 hT (by have : md + (0 + q_we (nm_f x 11 (x.1 11 - 1)) n) ≤ 2 * a + 3 := hw1; omega) (by have : 1 + q_wt (nm_f x 11 (x.1 11 - 1)) n + 8 * (ty - a) ≤ r + 1 := hr1; omega)
    rw [show nI 6 = (6 : Int32) from rfl, o_perform, m_perform, if_neg (by decide), if_neg (by decide), if_neg (by decide), if_neg (by decide), if_neg (by decide), if_neg (by decide), if_pos rfl]
    exact ⟨⟨fun q => absurd q (by decide), fun _ => ⟨fun q => absurd q (by decide), fun _ => ⟨fun q => absurd q (by decide), fun _ => ⟨fun q => absurd q (by decide), fun _ => ⟨fun q => absurd q (by decide), fun _ => ⟨fun q => absurd q (by decide), fun _ => ⟨fun _ => ⟨K.1, trivial⟩, fun q => absurd rfl q⟩⟩⟩⟩⟩⟩⟩, K.2⟩
  | 7, hk, h12, hru, hw1, hr1 =>
    obtain ⟨b, t, d, ns, rfl, hB, hs, hm4⟩ := body hru.1
    have hT := tr _ _ (by show md ≤ md + 1; omega) hcb hT
    obtain ⟨v1, v2, v3, rfl⟩ := hru
    have v2 : t = [] := v2
    subst v2
    have h0 : ∀ i, ¬ (q_p1 x n i ∧ i < md) := fun i q => q_kd h12 hk (by decide) q.1
    have K := S_7 (r := r) (ns := ns) hB h0 hs v3 hT (by have : md + (0 + q_we (nm_f x 11 (x.1 11 - 1)) n) ≤ 2 * a + 3 := hw1; omega) (by have : 1 + q_wt (nm_f x 11 (x.1 11 - 1)) n + 8 * (ty - a) ≤ r + 1 := hr1; omega)
    rw [show nI 7 = (7 : Int32) from rfl, o_perform, m_perform, if_neg (by decide), if_neg (by decide), if_neg (by decide), if_neg (by decide), if_neg (by decide), if_neg (by decide), if_neg (by decide), if_pos rfl]
    exact ⟨⟨fun q => absurd q (by decide), fun _ => ⟨fun q => absurd q (by decide), fun _ => ⟨fun q => absurd q (by decide), fun _ => ⟨fun q => absurd q (by decide), fun _ => ⟨fun q => absurd q (by decide), fun _ => ⟨fun q => absurd q (by decide), fun _ => ⟨fun q => absurd q (by decide), fun _ => ⟨fun _ => trivial, fun q => absurd rfl q⟩⟩⟩⟩⟩⟩⟩⟩, K⟩
  | 8, hk, h12, hru, hw1, hr1 =>
    obtain ⟨b, t, d, ns, rfl, hB, hs, hm4⟩ := body hru.1
    have hT := tr _ _ (by show md ≤ md + 1; omega) hcb hT
    obtain ⟨v1, ⟨u, v2⟩, v3, v4, rfl⟩ := hru
    have h0 : ∀ i, ¬ (q_p1 x n i ∧ i < md) := fun i q => q_kd h12 hk (by decide) q.1
    have v2 : t = [u] := v2
    subst v2
    have K := S_8 (r := r) (ns := ns) (x.2 13 n) (x.2 14 n) hB h0 hs v3 v4 hT (by have : md + (0 + q_we (nm_f x 11 (x.1 11 - 1)) n) ≤ 2 * a + 3 := hw1; omega) (by have : 1 + q_wt (nm_f x 11 (x.1 11 - 1)) n + 8 * (ty - a) ≤ r + 1 := hr1; omega)
    rw [show nI 8 = (8 : Int32) from rfl, o_perform, m_perform, if_neg (by decide), if_neg (by decide), if_neg (by decide), if_neg (by decide), if_neg (by decide), if_neg (by decide), if_neg (by decide), if_neg (by decide), if_pos rfl]
    exact ⟨⟨fun q => absurd q (by decide), fun _ => ⟨fun q => absurd q (by decide), fun _ => ⟨fun q => absurd q (by decide), fun _ => ⟨fun q => absurd q (by decide), fun _ => ⟨fun q => absurd q (by decide), fun _ => ⟨fun q => absurd q (by decide), fun _ => ⟨fun q => absurd q (by decide), fun _ => ⟨fun q => absurd q (by decide), fun _ => ⟨fun _ => ⟨K.1, trivial⟩, fun q => absurd rfl q⟩⟩⟩⟩⟩⟩⟩⟩⟩, K.2⟩
  | 9, hk, h12, hru, hw1, hr1 =>
    obtain ⟨b, t, d, ns, rfl, hB, hs, hm4⟩ := body hru.1
    have hT := tr _ _ (by show md ≤ md + 1; omega) hcb hT
    obtain ⟨v1, v2, v3, v4, ⟨j, w1, w2, ⟨u, w3⟩, w4⟩, rfl⟩ := hru
    have v2 : t = [] := v2
    subst v2
    have hE : ∀ i, (q_p1 x n i ∧ i < md) → i = j := fun i q => q_p1.j (Or.inl rfl) h12 w1 (by omega) (by omega) q.1
    rw [w1]
    have K := S_9 (r := r) (ns := ns) (t := u) (x.2 14 n) hB hE hs v3 v4 w2 w3 w4 hT (by have : md + (0 + q_we (nm_f x 11 (x.1 11 - 1)) n) ≤ 2 * a + 3 := hw1; omega) (by have : 1 + q_wt (nm_f x 11 (x.1 11 - 1)) n + 8 * (ty - a) ≤ r + 1 := hr1; omega)
    rw [show nI 9 = (9 : Int32) from rfl, o_perform, m_perform, if_neg (by decide), if_neg (by decide), if_neg (by decide), if_neg (by decide), if_neg (by decide), if_neg (by decide), if_neg (by decide), if_neg (by decide), if_neg (by decide), if_pos rfl]
    exact ⟨⟨fun q => absurd q (by decide), fun _ => ⟨fun q => absurd q (by decide), fun _ => ⟨fun q => absurd q (by decide), fun _ => ⟨fun q => absurd q (by decide), fun _ => ⟨fun q => absurd q (by decide), fun _ => ⟨fun q => absurd q (by decide), fun _ => ⟨fun q => absurd q (by decide), fun _ => ⟨fun q => absurd q (by decide), fun _ => ⟨fun q => absurd q (by decide), fun _ => ⟨fun _ => ⟨K.1, trivial⟩, fun q => absurd rfl q⟩⟩⟩⟩⟩⟩⟩⟩⟩⟩, K.2⟩
  | 10, hk, h12, hru, hw1, hr1 =>
    obtain ⟨b, t, d, ns, rfl, hB, hs, hm4⟩ := body hru.1
    have hT := tr _ _ (by show md ≤ md + 1; omega) hcb hT
    obtain ⟨v1, v2, v3, v4, ⟨j, w1, w2, ⟨u, w3⟩, w4⟩, rfl⟩ := hru
    have v2 : t = [] := v2
    subst v2
    have hE : ∀ i, (q_p1 x n i ∧ i < md) → i = j := fun i q => q_p1.j (Or.inr rfl) h12 w1 (by omega) (by omega) q.1
    rw [w1]
    have K := S_10 (r := r) (ns := ns) (t := u) (x.2 14 n) hB hE hs v3 w2 w3 w4 hT (by have : md + (0 + q_we (nm_f x 11 (x.1 11 - 1)) n) ≤ 2 * a + 3 := hw1; omega) (by have : 1 + q_wt (nm_f x 11 (x.1 11 - 1)) n + 8 * (ty - a) ≤ r + 1 := hr1; omega)
    rw [show nI 10 = (10 : Int32) from rfl, o_perform, m_perform, if_neg (by decide), if_neg (by decide), if_neg (by decide), if_neg (by decide), if_neg (by decide), if_neg (by decide), if_neg (by decide), if_neg (by decide), if_neg (by decide), if_neg (by decide), if_pos rfl]
    exact ⟨⟨fun q => absurd q (by decide), fun _ => ⟨fun q => absurd q (by decide), fun _ => ⟨fun q => absurd q (by decide), fun _ => ⟨fun q => absurd q (by decide), fun _ => ⟨fun q => absurd q (by decide), fun _ => ⟨fun q => absurd q (by decide), fun _ => ⟨fun q => absurd q (by decide), fun _ => ⟨fun q => absurd q (by decide), fun _ => ⟨fun q => absurd q (by decide), fun _ => ⟨fun q => absurd q (by decide), fun _ => ⟨fun _ => ⟨K.1, trivial⟩, fun q => absurd rfl q⟩⟩⟩⟩⟩⟩⟩⟩⟩⟩⟩, K.2⟩
  | 11, hk, h12, hru, hw1, hr1 =>
    obtain ⟨b, t, d, ns, rfl, hB, hs, hm4⟩ := body hru.1
    have hT := tr _ _ (by show md ≤ md + 1; omega) hcb hT
    obtain ⟨v1, ⟨u, v2⟩, v3, v4, ⟨j, w1, w2, w3⟩, rfl⟩ := hru
    have h0 : ∀ i, ¬ (q_p1 x n i ∧ i < md) := fun i q => q_kd h12 hk (by decide) q.1
    have v2 : t = [u] := v2
    subst v2
    rw [w1]
    have K := S_11 (r := r) (ns := ns) (x.2 14 n) hB h0 hs v3 v4 w2 w3 hT (by have : md + (0 + q_we (nm_f x 11 (x.1 11 - 1)) n) ≤ 2 * a + 3 := hw1; omega) (by have : 1 + q_wt (nm_f x 11 (x.1 11 - 1)) n + 8 * (ty - a) ≤ r + 1 := hr1; omega)
    rw [show nI 11 = (11 : Int32) from rfl, o_perform, m_perform, if_neg (by decide), if_neg (by decide), if_neg (by decide), if_neg (by decide), if_neg (by decide), if_neg (by decide), if_neg (by decide), if_neg (by decide), if_neg (by decide), if_neg (by decide), if_neg (by decide), if_pos rfl]
    exact ⟨⟨fun q => absurd q (by decide), fun _ => ⟨fun q => absurd q (by decide), fun _ => ⟨fun q => absurd q (by decide), fun _ => ⟨fun q => absurd q (by decide), fun _ => ⟨fun q => absurd q (by decide), fun _ => ⟨fun q => absurd q (by decide), fun _ => ⟨fun q => absurd q (by decide), fun _ => ⟨fun q => absurd q (by decide), fun _ => ⟨fun q => absurd q (by decide), fun _ => ⟨fun q => absurd q (by decide), fun _ => ⟨fun q => absurd q (by decide), fun _ => ⟨fun _ => ⟨K.1, trivial⟩, fun q => absurd rfl q⟩⟩⟩⟩⟩⟩⟩⟩⟩⟩⟩⟩, K.2⟩
  | 12, hk, h12, hru, hw1, hr1 =>
    obtain ⟨b, t, d, ns, rfl, hB, hs, hm4⟩ := body hru.1
    have hT := tr _ _ (by show md ≤ md + 1; omega) hcb hT
    obtain ⟨v1, v2, v3, ⟨j, w1, w2, w3⟩, ⟨k, s1, s2, ⟨u, s3⟩, s4⟩, rfl⟩ := hru
    have v2 : t = [] := v2
    subst v2
    have hE : ∀ i, (q_p1 x n i ∧ i < md) → i = k := fun i q => q_p1.k h12 s1 (by omega) (by omega) q.1
    rw [w1, s1]
    have K := S_12 (r := r) (ns := ns) (t := u) hB hE hs v3 w2 w3 s2 s3 s4 hT (by have : md + (1 + q_we (nm_f x 11 (x.1 11 - 1)) n) ≤ 2 * a + 3 := hw1; omega) (by have : 1 + q_wt (nm_f x 11 (x.1 11 - 1)) n + 8 * (ty - a) ≤ r + 1 := hr1; omega)
    rw [show nI 12 = (12 : Int32) from rfl, o_perform, m_perform, if_neg (by decide), if_neg (by decide), if_neg (by decide), if_neg (by decide), if_neg (by decide), if_neg (by decide), if_neg (by decide), if_neg (by decide), if_neg (by decide), if_neg (by decide), if_neg (by decide), if_neg (by decide), if_pos rfl]
    exact ⟨⟨fun q => absurd q (by decide), fun _ => ⟨fun q => absurd q (by decide), fun _ => ⟨fun q => absurd q (by decide), fun _ => ⟨fun q => absurd q (by decide), fun _ => ⟨fun q => absurd q (by decide), fun _ => ⟨fun q => absurd q (by decide), fun _ => ⟨fun q => absurd q (by decide), fun _ => ⟨fun q => absurd q (by decide), fun _ => ⟨fun q => absurd q (by decide), fun _ => ⟨fun q => absurd q (by decide), fun _ => ⟨fun q => absurd q (by decide), fun _ => ⟨fun q => absurd q (by decide), fun _ => ⟨fun _ => ⟨K.1, trivial⟩, fun q => absurd rfl q⟩⟩⟩⟩⟩⟩⟩⟩⟩⟩⟩⟩⟩, K.2⟩
  | 13, hk, h12, hru, hw1, hr1 =>
    obtain ⟨b, t, d, ns, rfl, hB, hs, hm4⟩ := body hru.1
    have hT := tr _ _ (by show md ≤ md + 1; omega) hcb hT
    obtain ⟨v1, ⟨u, v2⟩, v3, rfl⟩ := hru
    have h0 : ∀ i, ¬ (q_p1 x n i ∧ i < md) := fun i q => q_kd h12 hk (by decide) q.1
    have v2 : t = none :: u := v2
    subst v2
    have K := S_13 (r := r) (ns := ns) hB h0 hs v3 hT (by have : md + (0 + q_we (nm_f x 11 (x.1 11 - 1)) n) ≤ 2 * a + 3 := hw1; omega) (by have : 1 + q_wt (nm_f x 11 (x.1 11 - 1)) n + 8 * (ty - a) ≤ r + 1 := hr1; omega)
    rw [show nI 13 = (13 : Int32) from rfl, o_perform, m_perform, if_neg (by decide), if_neg (by decide), if_neg (by decide), if_neg (by decide), if_neg (by decide), if_neg (by decide), if_neg (by decide), if_neg (by decide), if_neg (by decide), if_neg (by decide), if_neg (by decide), if_neg (by decide), if_neg (by decide), if_pos rfl]
    exact ⟨⟨fun q => absurd q (by decide), fun _ => ⟨fun q => absurd q (by decide), fun _ => ⟨fun q => absurd q (by decide), fun _ => ⟨fun q => absurd q (by decide), fun _ => ⟨fun q => absurd q (by decide), fun _ => ⟨fun q => absurd q (by decide), fun _ => ⟨fun q => absurd q (by decide), fun _ => ⟨fun q => absurd q (by decide), fun _ => ⟨fun q => absurd q (by decide), fun _ => ⟨fun q => absurd q (by decide), fun _ => ⟨fun q => absurd q (by decide), fun _ => ⟨fun q => absurd q (by decide), fun _ => ⟨fun q => absurd q (by decide), fun _ => ⟨fun _ => ⟨K.1, trivial⟩, fun q => absurd rfl q⟩⟩⟩⟩⟩⟩⟩⟩⟩⟩⟩⟩⟩⟩, K.2⟩
  | 14, hk, h12, hru, hw1, hr1 =>
    obtain ⟨b, t, d, ns, rfl, hB, hs, hm4⟩ := body hru.1
    have hT := tr _ _ (by show md ≤ md + 1; omega) hcb hT
    obtain ⟨v1, v2, rfl⟩ := hru
    have h0 : ∀ i, ¬ (q_p1 x n i ∧ i < md) := fun i q => q_kd h12 hk (by decide) q.1
    have K := S_14 (r := r) (ns := ns) hB h0 hs v2 hT (by have : md + (0 + q_we (nm_f x 11 (x.1 11 - 1)) n) ≤ 2 * a + 3 := hw1; omega) (by have : 5 + q_wt (nm_f x 11 (x.1 11 - 1)) n + 8 * (ty - a) ≤ r + 1 := hr1; omega)
    rw [show nI 14 = (14 : Int32) from rfl, o_perform, m_perform, if_neg (by decide), if_neg (by decide), if_neg (by decide), if_neg (by decide), if_neg (by decide), if_neg (by decide), if_neg (by decide), if_neg (by decide), if_neg (by decide), if_neg (by decide), if_neg (by decide), if_neg (by decide), if_neg (by decide), if_neg (by decide), if_pos rfl]
    exact ⟨⟨fun q => absurd q (by decide), fun _ => ⟨fun q => absurd q (by decide), fun _ => ⟨fun q => absurd q (by decide), fun _ => ⟨fun q => absurd q (by decide), fun _ => ⟨fun q => absurd q (by decide), fun _ => ⟨fun q => absurd q (by decide), fun _ => ⟨fun q => absurd q (by decide), fun _ => ⟨fun q => absurd q (by decide), fun _ => ⟨fun q => absurd q (by decide), fun _ => ⟨fun q => absurd q (by decide), fun _ => ⟨fun q => absurd q (by decide), fun _ => ⟨fun q => absurd q (by decide), fun _ => ⟨fun q => absurd q (by decide), fun _ => ⟨fun q => absurd q (by decide), fun _ => ⟨fun _ => ⟨K.1, trivial⟩, fun q => absurd rfl q⟩⟩⟩⟩⟩⟩⟩⟩⟩⟩⟩⟩⟩⟩⟩, K.2⟩
  | 15, hk, h12, hru, hw1, hr1 =>
    obtain ⟨b, t, d, ns, rfl, hB, hs, hm4⟩ := body hru.1
    have hT := tr _ _ (by show md ≤ md + 1; omega) hcb hT
    obtain ⟨v1, ⟨u, v2⟩, v3, rfl⟩ := hru
    have h0 : ∀ i, ¬ (q_p1 x n i ∧ i < md) := fun i q => q_kd h12 hk (by decide) q.1
    have v2 : t = none :: u := v2
    subst v2
    have K := S_chain (r := r) (ns := ns) (K := 15) (P := 16) (v := 2) (one := 43) (two := 45) hB h0 hs (Or.inl ⟨rfl, rfl, v3⟩) (by decide) (by decide) (by decide) hT (by have : md + (0 + q_we (nm_f x 11 (x.1 11 - 1)) n) ≤ 2 * a + 3 := hw1; omega) (by have : 1 + q_wt (nm_f x 11 (x.1 11 - 1)) n + 8 * (ty - a) ≤ r + 1 := hr1; omega)
    rw [show nI 15 = (15 : Int32) from rfl, o_perform, m_perform, if_neg (by decide), if_neg (by decide), if_neg (by decide), if_neg (by decide), if_neg (by decide), if_neg (by decide), if_neg (by decide), if_neg (by decide), if_neg (by decide), if_neg (by decide), if_neg (by decide), if_neg (by decide), if_neg (by decide), if_neg (by decide), if_neg (by decide), if_pos rfl]
    exact ⟨⟨fun q => absurd q (by decide), fun _ => ⟨fun q => absurd q (by decide), fun _ => ⟨fun q => absurd q (by decide), fun _ => ⟨fun q => absurd q (by decide), fun _ => ⟨fun q => absurd q (by decide), fun _ => ⟨fun q => absurd q (by decide), fun _ => ⟨fun q => absurd q (by decide), fun _ => ⟨fun q => absurd q (by decide), fun _ => ⟨fun q => absurd q (by decide), fun _ => ⟨fun q => absurd q (by decide), fun _ => ⟨fun q => absurd q (by decide), fun _ => ⟨fun q => absurd q (by decide), fun _ => ⟨fun q => absurd q (by decide), fun _ => ⟨fun q => absurd q (by decide), fun _ => ⟨fun q => absurd q (by decide), fun _ => ⟨fun _ => ⟨K.1, trivial⟩, fun q => absurd rfl q⟩⟩⟩⟩⟩⟩⟩⟩⟩⟩⟩⟩⟩⟩⟩⟩, K.2⟩
  | 16, hk, h12, hru, hw1, hr1 =>
    obtain ⟨b, t, d, ns, rfl, hB, hs, hm4⟩ := body hru.1
    have hT := tr _ _ (by show md ≤ md + 1; omega) hcb hT
    obtain ⟨v1, v2, rfl⟩ := hru
    have h0 : ∀ i, ¬ (q_p1 x n i ∧ i < md) := fun i q => q_kd h12 hk (by decide) q.1
    have K := S_16 (r := r) (ns := ns) hB h0 hs v2 hT (by have : md + (0 + q_we (nm_f x 11 (x.1 11 - 1)) n) ≤ 2 * a + 3 := hw1; omega) (by have : 3 + q_wt (nm_f x 11 (x.1 11 - 1)) n + 8 * (ty - a) ≤ r + 1 := hr1; omega)
    rw [show nI 16 = (16 : Int32) from rfl, o_perform, m_perform, if_neg (by decide), if_neg (by decide), if_neg (by decide), if_neg (by decide), if_neg (by decide), if_neg (by decide), if_neg (by decide), if_neg (by decide), if_neg (by decide), if_neg (by decide), if_neg (by decide), if_neg (by decide), if_neg (by decide), if_neg (by decide), if_neg (by decide), if_neg (by decide), if_pos rfl]
    exact ⟨⟨fun q => absurd q (by decide), fun _ => ⟨fun q => absurd q (by decide), fun _ => ⟨fun q => absurd q (by decide), fun _ => ⟨fun q => absurd q (by decide), fun _ => ⟨fun q => absurd q (by decide), fun _ => ⟨fun q => absurd q (by decide), fun _ => ⟨fun q => absurd q (by decide), fun _ => ⟨fun q => absurd q (by decide), fun _ => ⟨fun q => absurd q (by decide), fun _ => ⟨fun q => absurd q (by decide), fun _ => ⟨fun q => absurd q (by decide), fun _ => ⟨fun q => absurd q (by decide), fun _ => ⟨fun q => absurd q (by decide), fun _ => ⟨fun q => absurd q (by decide), fun _ => ⟨fun q => absurd q (by decide), fun _ => ⟨fun q => absurd q (by decide), fun _ => ⟨fun _ => K.1, fun q => absurd rfl q⟩⟩⟩⟩⟩⟩⟩⟩⟩⟩⟩⟩⟩⟩⟩⟩⟩, K.2⟩
  | 17, hk, h12, hru, hw1, hr1 =>
    obtain ⟨b, t, d, ns, rfl, hB, hs, hm4⟩ := body hru.1
    have hT := tr _ _ (by show md ≤ md + 1; omega) hcb hT
    obtain ⟨v1, ⟨u, v2⟩, v3, rfl⟩ := hru
    have h0 : ∀ i, ¬ (q_p1 x n i ∧ i < md) := fun i q => q_kd h12 hk (by decide) q.1
    have v2 : t = none :: u := v2
    subst v2
    have K := S_chain (r := r) (ns := ns) (K := 17) (P := 18) (v := 4) (one := 42) (two := 47) hB h0 hs (Or.inr ⟨rfl, rfl, v3⟩) (by decide) (by decide) (by decide) hT (by have : md + (0 + q_we (nm_f x 11 (x.1 11 - 1)) n) ≤ 2 * a + 3 := hw1; omega) (by have : 1 + q_wt (nm_f x 11 (x.1 11 - 1)) n + 8 * (ty - a) ≤ r + 1 := hr1; omega)
    rw [show nI 17 = (17 : Int32) from rfl, o_perform, m_perform, if_neg (by decide), if_neg (by decide), if_neg (by decide), if_neg (by decide), if_neg (by decide), if_neg (by decide), if_neg (by decide), if_neg (by decide), if_neg (by decide), if_neg (by decide), if_neg (by decide), if_neg (by decide), if_neg (by decide), if_neg (by decide), if_neg (by decide), if_neg (by decide), if_neg (by decide), if_pos rfl]
    exact ⟨⟨fun q => absurd q (by decide), fun _ => ⟨fun q => absurd q (by decide), fun _ => ⟨fun q => absurd q (by decide), fun _ => ⟨fun q => absurd q (by decide), fun _ => ⟨fun q => absurd q (by decide), fun _ => ⟨fun q => absurd q (by decide), fun _ => ⟨fun q => absurd q (by decide), fun _ => ⟨fun q => absurd q (by decide), fun _ => ⟨fun q => absurd q (by decide), fun _ => ⟨fun q => absurd q (by decide), fun _ => ⟨fun q => absurd q (by decide), fun _ => ⟨fun q => absurd q (by decide), fun _ => ⟨fun q => absurd q (by decide), fun _ => ⟨fun q => absurd q (by decide), fun _ => ⟨fun q => absurd q (by decide), fun _ => ⟨fun q => absurd q (by decide), fun _ => ⟨fun q => absurd q (by decide), fun _ => ⟨fun _ => ⟨K.1, trivial⟩, fun q => absurd rfl q⟩⟩⟩⟩⟩⟩⟩⟩⟩⟩⟩⟩⟩⟩⟩⟩⟩⟩, K.2⟩
  | 18, hk, h12, hru, hw1, hr1 =>
    obtain ⟨b, t, d, ns, rfl, hB, hs, hm4⟩ := body hru.1
    have hT := tr _ _ (by show md ≤ md + 1; omega) hcb hT
    obtain ⟨v1, v2, rfl⟩ := hru
    have h0 : ∀ i, ¬ (q_p1 x n i ∧ i < md) := fun i q => q_kd h12 hk (by decide) q.1
    have K := S_18 (r := r) (ns := ns) hB h0 hs v2 hT (by have : md + (0 + q_we (nm_f x 11 (x.1 11 - 1)) n) ≤ 2 * a + 3 := hw1; omega) (by have : 1 + q_wt (nm_f x 11 (x.1 11 - 1)) n + 8 * (ty - a) ≤ r + 1 := hr1; omega)
    rw [show nI 18 = (18 : Int32) from rfl, o_perform, m_perform, if_neg (by decide), if_neg (by decide), if_neg (by decide), if_neg (by decide), if_neg (by decide), if_neg (by decide), if_neg (by decide), if_neg (by decide), if_neg (by decide), if_neg (by decide), if_neg (by decide), if_neg (by decide), if_neg (by decide), if_neg (by decide), if_neg (by decide), if_neg (by decide), if_neg (by decide), if_neg (by decide), if_pos rfl]
    exact ⟨⟨fun q => absurd q (by decide), fun _ => ⟨fun q => absurd q (by decide), fun _ => ⟨fun q => absurd q (by decide), fun _ => ⟨fun q => absurd q (by decide), fun _ => ⟨fun q => absurd q (by decide), fun _ => ⟨fun q => absurd q (by decide), fun _ => ⟨fun q => absurd q (by decide), fun _ => ⟨fun q => absurd q (by decide), fun _ => ⟨fun q => absurd q (by decide), fun _ => ⟨fun q => absurd q (by decide), fun _ => ⟨fun q => absurd q (by decide), fun _ => ⟨fun q => absurd q (by decide), fun _ => ⟨fun q => absurd q (by decide), fun _ => ⟨fun q => absurd q (by decide), fun _ => ⟨fun q => absurd q (by decide), fun _ => ⟨fun q => absurd q (by decide), fun _ => ⟨fun q => absurd q (by decide), fun _ => ⟨fun q => absurd q (by decide), fun _ => ⟨fun _ => ⟨K.1, trivial⟩, fun q => absurd rfl q⟩⟩⟩⟩⟩⟩⟩⟩⟩⟩⟩⟩⟩⟩⟩⟩⟩⟩⟩, K.2⟩
  | 19, hk, h12, hru, hw1, hr1 =>
    obtain ⟨b, t, d, ns, rfl, hB, hs, hm4⟩ := body hru.1
    have hT := tr _ _ (by show md ≤ md + 1; omega) hcb hT
    obtain ⟨v1, v2, rfl⟩ := hru
    have h0 : ∀ i, ¬ (q_p1 x n i ∧ i < md) := fun i q => q_kd h12 hk (by decide) q.1
    have K := S_19 (r := r) (ns := ns) hB h0 hs v2 hT (by have : md + (0 + q_we (nm_f x 11 (x.1 11 - 1)) n) ≤ 2 * a + 3 := hw1; omega) (by have : 1 + q_wt (nm_f x 11 (x.1 11 - 1)) n + 8 * (ty - a) ≤ r + 1 := hr1; omega)
    rw [show nI 19 = (19 : Int32) from rfl, o_perform, m_perform, if_neg (by decide), if_neg (by decide), if_neg (by decide), if_neg (by decide), if_neg (by decide), if_neg (by decide), if_neg (by decide), if_neg (by decide), if_neg (by decide), if_neg (by decide), if_neg (by decide), if_neg (by decide), if_neg (by decide), if_neg (by decide), if_neg (by decide), if_neg (by decide), if_neg (by decide), if_neg (by decide), if_neg (by decide), if_pos rfl]
    exact ⟨⟨fun q => absurd q (by decide), fun _ => ⟨fun q => absurd q (by decide), fun _ => ⟨fun q => absurd q (by decide), fun _ => ⟨fun q => absurd q (by decide), fun _ => ⟨fun q => absurd q (by decide), fun _ => ⟨fun q => absurd q (by decide), fun _ => ⟨fun q => absurd q (by decide), fun _ => ⟨fun q => absurd q (by decide), fun _ => ⟨fun q => absurd q (by decide), fun _ => ⟨fun q => absurd q (by decide), fun _ => ⟨fun q => absurd q (by decide), fun _ => ⟨fun q => absurd q (by decide), fun _ => ⟨fun q => absurd q (by decide), fun _ => ⟨fun q => absurd q (by decide), fun _ => ⟨fun q => absurd q (by decide), fun _ => ⟨fun q => absurd q (by decide), fun _ => ⟨fun q => absurd q (by decide), fun _ => ⟨fun q => absurd q (by decide), fun _ => ⟨fun q => absurd q (by decide), fun _ => ⟨fun _ => ⟨K.1, trivial⟩, fun q => absurd rfl q⟩⟩⟩⟩⟩⟩⟩⟩⟩⟩⟩⟩⟩⟩⟩⟩⟩⟩⟩⟩, K.2⟩
  | 20, hk, h12, hru, hw1, hr1 =>
    obtain ⟨b, t, d, ns, rfl, hB, hs, hm4⟩ := body hru.1
    have hT := tr _ _ (by show md ≤ md + 1; omega) hcb hT
    obtain ⟨v1, v2, ⟨u, v3⟩, ⟨k, w1, w2, w3⟩, rfl⟩ := hru
    have h0 : ∀ i, ¬ (q_p1 x n i ∧ i < md) := fun i q => q_kd h12 hk (by decide) q.1
    have v3 : t = none :: u := v3
    subst v3
    rw [w1]
    have K := S_20 (r := r) (ns := ns) hB h0 hs v2 w2 w3 hT (by have : md + (0 + q_we (nm_f x 11 (x.1 11 - 1)) n) ≤ 2 * a + 3 := hw1; omega) (by have : 1 + q_wt (nm_f x 11 (x.1 11 - 1)) n + 8 * (ty - a) ≤ r + 1 := hr1; omega)
    rw [show nI 20 = (20 : Int32) from rfl, o_perform, m_perform, if_neg (by decide), if_neg (by decide), if_neg (by decide), if_neg (by decide), if_neg (by decide), if_neg (by decide), if_neg (by decide), if_neg (by decide), if_neg (by decide), if_neg (by decide), if_neg (by decide), if_neg (by decide), if_neg (by decide), if_neg (by decide), if_neg (by decide), if_neg (by decide), if_neg (by decide), if_neg (by decide), if_neg (by decide), if_neg (by decide), if_pos rfl]
    exact ⟨⟨fun q => absurd q (by decide), fun _ => ⟨fun q => absurd q (by decide), fun _ => ⟨fun q => absurd q (by decide), fun _ => ⟨fun q => absurd q (by decide), fun _ => ⟨fun q => absurd q (by decide), fun _ => ⟨fun q => absurd q (by decide), fun _ => ⟨fun q => absurd q (by decide), fun _ => ⟨fun q => absurd q (by decide), fun _ => ⟨fun q => absurd q (by decide), fun _ => ⟨fun q => absurd q (by decide), fun _ => ⟨fun q => absurd q (by decide), fun _ => ⟨fun q => absurd q (by decide), fun _ => ⟨fun q => absurd q (by decide), fun _ => ⟨fun q => absurd q (by decide), fun _ => ⟨fun q => absurd q (by decide), fun _ => ⟨fun q => absurd q (by decide), fun _ => ⟨fun q => absurd q (by decide), fun _ => ⟨fun q => absurd q (by decide), fun _ => ⟨fun q => absurd q (by decide), fun _ => ⟨fun q => absurd q (by decide), fun _ => ⟨fun _ => ⟨K.1, trivial⟩, fun q => absurd rfl q⟩⟩⟩⟩⟩⟩⟩⟩⟩⟩⟩⟩⟩⟩⟩⟩⟩⟩⟩⟩⟩, K.2⟩
  | 21, hk, h12, hru, hw1, hr1 =>
    obtain ⟨b, t, d, ns, rfl, hB, hs, hm4⟩ := body hru.1
    have hT := tr _ _ (by show md ≤ md + 1; omega) hcb hT
    obtain ⟨v1, v2, v3, v4, ⟨k, w1, w2, w3⟩, rfl⟩ := hru
    have h0 : ∀ i, ¬ (q_p1 x n i ∧ i < md) := fun i q => q_kd h12 hk (by decide) q.1
    have v3 : t = [none] := v3
    subst v3
    rw [w1]
    have K := S_21 (r := r) (ns := ns) hB h0 hs v2 v4 w2 w3 hT (by have : md + (0 + q_we (nm_f x 11 (x.1 11 - 1)) n) ≤ 2 * a + 3 := hw1; omega) (by have : 1 + q_wt (nm_f x 11 (x.1 11 - 1)) n + 8 * (ty - a) ≤ r + 1 := hr1; omega)
    rw [show nI 21 = (21 : Int32) from rfl, o_perform, m_perform, if_neg (by decide), if_neg (by decide), if_neg (by decide), if_neg (by decide), if_neg (by decide), if_neg (by decide), if_neg (by decide), if_neg (by decide), if_neg (by decide), if_neg (by decide), if_neg (by decide), if_neg (by decide), if_neg (by decide), if_neg (by decide), if_neg (by decide), if_neg (by decide), if_neg (by decide), if_neg (by decide), if_neg (by decide), if_neg (by decide), if_neg (by decide), if_pos rfl]
    exact ⟨⟨fun q => absurd q (by decide), fun _ => ⟨fun q => absurd q (by decide), fun _ => ⟨fun q => absurd q (by decide), fun _ => ⟨fun q => absurd q (by decide), fun _ => ⟨fun q => absurd q (by decide), fun _ => ⟨fun q => absurd q (by decide), fun _ => ⟨fun q => absurd q (by decide), fun _ => ⟨fun q => absurd q (by decide), fun _ => ⟨fun q => absurd q (by decide), fun _ => ⟨fun q => absurd q (by decide), fun _ => ⟨fun q => absurd q (by decide), fun _ => ⟨fun q => absurd q (by decide), fun _ => ⟨fun q => absurd q (by decide), fun _ => ⟨fun q => absurd q (by decide), fun _ => ⟨fun q => absurd q (by decide), fun _ => ⟨fun q => absurd q (by decide), fun _ => ⟨fun q => absurd q (by decide), fun _ => ⟨fun q => absurd q (by decide), fun _ => ⟨fun q => absurd q (by decide), fun _ => ⟨fun q => absurd q (by decide), fun _ => ⟨fun q => absurd q (by decide), fun _ => ⟨fun _ => ⟨K.1, trivial⟩, fun q => absurd rfl q⟩⟩⟩⟩⟩⟩⟩⟩⟩⟩⟩⟩⟩⟩⟩⟩⟩⟩⟩⟩⟩⟩, K.2⟩
  | 22, hk, h12, hru, hw1, hr1 =>
    obtain ⟨b, t, d, ns, rfl, hB, hs, hm4⟩ := body hru.1
    have hT := tr _ _ (by show md ≤ md + 1; omega) hcb hT
    obtain ⟨v1, v2, v4, ⟨k, w1, w2, w3⟩, ⟨m, s1, s2, s3⟩, rfl⟩ := hru
    have h0 : ∀ i, ¬ (q_p1 x n i ∧ i < md) := fun i q => q_kd h12 hk (by decide) q.1
    rw [w1, s1]
    have K := S_22 (r := r) (ns := ns) hB h0 hs v2 v4 w2 w3 s2 s3 hT (by have : md + (0 + q_we (nm_f x 11 (x.1 11 - 1)) n) ≤ 2 * a + 3 := hw1; omega) (by have : 1 + q_wt (nm_f x 11 (x.1 11 - 1)) n + 8 * (ty - a) ≤ r + 1 := hr1; omega)
    rw [show nI 22 = (22 : Int32) from rfl, o_perform, m_perform, if_neg (by decide), if_neg (by decide), if_neg (by decide), if_neg (by decide), if_neg (by decide), if_neg (by decide), if_neg (by decide), if_neg (by decide), if_neg (by decide), if_neg (by decide), if_neg (by decide), if_neg (by decide), if_neg (by decide), if_neg (by decide), if_neg (by decide), if_neg (by decide), if_neg (by decide), if_neg (by decide), if_neg (by decide), if_neg (by decide), if_neg (by decide), if_neg (by decide), if_pos rfl]
    exact ⟨⟨fun q => absurd q (by decide), fun _ => ⟨fun q => absurd q (by decide), fun _ => ⟨fun q => absurd q (by decide), fun _ => ⟨fun q => absurd q (by decide), fun _ => ⟨fun q => absurd q (by decide), fun _ => ⟨fun q => absurd q (by decide), fun _ => ⟨fun q => absurd q (by decide), fun _ => ⟨fun q => absurd q (by decide), fun _ => ⟨fun q => absurd q (by decide), fun _ => ⟨fun q => absurd q (by decide), fun _ => ⟨fun q => absurd q (by decide), fun _ => ⟨fun q => absurd q (by decide), fun _ => ⟨fun q => absurd q (by decide), fun _ => ⟨fun q => absurd q (by decide), fun _ => ⟨fun q => absurd q (by decide), fun _ => ⟨fun q => absurd q (by decide), fun _ => ⟨fun q => absurd q (by decide), fun _ => ⟨fun q => absurd q (by decide), fun _ => ⟨fun q => absurd q (by decide), fun _ => ⟨fun q => absurd q (by decide), fun _ => ⟨fun q => absurd q (by decide), fun _ => ⟨fun q => absurd q (by decide), fun _ => ⟨fun _ => ⟨K.1, trivial⟩, fun q => absurd rfl q⟩⟩⟩⟩⟩⟩⟩⟩⟩⟩⟩⟩⟩⟩⟩⟩⟩⟩⟩⟩⟩⟩⟩, K.2⟩
  | 23, hk, h12, hru, hw1, hr1 =>
    obtain ⟨b, t, d, ns, rfl, hB, hs, hm4⟩ := body hru.1
    have hT := tr _ _ (by show md ≤ md + 1; omega) hcb hT
    obtain ⟨v1, v9, o, l, t1, w1, w2, w3, w4, rfl⟩ := hru
    have h0 : ∀ i, ¬ (q_p1 x n i ∧ i < md) := fun i q => q_kd h12 hk (by decide) q.1
    have K := S_23 (r := r) (ns := ns) hB h0 hs w1 w2 w3 w4 hT (by have : md + (1 + q_we (nm_f x 11 (x.1 11 - 1)) n) ≤ 2 * a + 3 := hw1; omega) (by have : 1 + q_wt (nm_f x 11 (x.1 11 - 1)) n + 8 * (ty - a) ≤ r + 1 := hr1; omega)
    rw [show nI 23 = (23 : Int32) from rfl, o_perform, m_perform, if_neg (by decide), if_neg (by decide), if_neg (by decide), if_neg (by decide), if_neg (by decide), if_neg (by decide), if_neg (by decide), if_neg (by decide), if_neg (by decide), if_neg (by decide), if_neg (by decide), if_neg (by decide), if_neg (by decide), if_neg (by decide), if_neg (by decide), if_neg (by decide), if_neg (by decide), if_neg (by decide), if_neg (by decide), if_neg (by decide), if_neg (by decide), if_neg (by decide), if_neg (by decide), if_pos rfl]
    exact ⟨⟨fun q => absurd q (by decide), fun _ => ⟨fun q => absurd q (by decide), fun _ => ⟨fun q => absurd q (by decide), fun _ => ⟨fun q => absurd q (by decide), fun _ => ⟨fun q => absurd q (by decide), fun _ => ⟨fun q => absurd q (by decide), fun _ => ⟨fun q => absurd q (by decide), fun _ => ⟨fun q => absurd q (by decide), fun _ => ⟨fun q => absurd q (by decide), fun _ => ⟨fun q => absurd q (by decide), fun _ => ⟨fun q => absurd q (by decide), fun _ => ⟨fun q => absurd q (by decide), fun _ => ⟨fun q => absurd q (by decide), fun _ => ⟨fun q => absurd q (by decide), fun _ => ⟨fun q => absurd q (by decide), fun _ => ⟨fun q => absurd q (by decide), fun _ => ⟨fun q => absurd q (by decide), fun _ => ⟨fun q => absurd q (by decide), fun _ => ⟨fun q => absurd q (by decide), fun _ => ⟨fun q => absurd q (by decide), fun _ => ⟨fun q => absurd q (by decide), fun _ => ⟨fun q => absurd q (by decide), fun _ => ⟨fun q => absurd q (by decide), fun _ => ⟨fun _ => ⟨K.1, trivial⟩, fun q => absurd rfl q⟩⟩⟩⟩⟩⟩⟩⟩⟩⟩⟩⟩⟩⟩⟩⟩⟩⟩⟩⟩⟩⟩⟩⟩, K.2⟩
  | _ + 24, hk, h12, hru, hw1, hr1 => omega
/-! the reference's compile, round by round -/
theorem q_wt.pos {x : nM} : ∀ n : Nat, n ≤ q_wt x n := by
  intro n
  induction n with
  | zero => exact Nat.le_refl _
  | succ n ih =>
    rw [q_wt]
    have : 1 ≤ (if x.2 12 n = 14 then 5 else if x.2 12 n = 16 then 3 else if x.2 12 n = 0 then 2 else 1) := by
      split
      · decide
      · split
        · decide
        · split <;> decide
    omega
/-- the stack of tasks is short -/
theorem q_TS.len {Γ : q_G} {nb md mm a : Nat} {x : nM} : ∀ (n : Nat) (c : q_C), q_TS Γ nb x md mm a n c → n ≤ 12 + 2 * g_l Γ c.1 + 5 * c.2.2.2.1 := by
  intro n
  induction n with
  | zero => intro c _; omega
  | succ n ih =>
    intro c g
    obtain ⟨b, ph, t, d, ns⟩ := c
    obtain ⟨g1, kd, c', g2, g3, g4, g5⟩ := g
    show n + 1 ≤ 12 + 2 * g_l Γ b + 5 * d
    match kd, g2, g4 with
    | 0, _, ⟨_, q, _⟩ => have q : n ≤ 1 + 2 * g_l Γ b := q; omega
    | 1, _, ⟨_, q, _⟩ => have q : n ≤ 1 + 2 * g_l Γ b := q; omega
    | 2, _, ⟨_, _, _, _, q⟩ =>
      rw [q] at g5
      cases n with
      | zero => omega
      | succ n =>
        obtain ⟨-, k2, c2, h1, h2, h3, -⟩ := g5
        match k2, h1, h3 with
        | 3, _, ⟨_, _, _, w, _⟩ => have w : n ≤ 2 * g_l Γ b := w; omega
        | 4, _, ⟨_, _, w, _⟩ => omega
        | 0, _, ⟨w, _⟩ => exact absurd (show (3 : Nat) = 0 from w) (by decide)
        | 1, _, ⟨w, _⟩ => exact absurd (show (3 : Nat) = 1 from w) (by decide)
        | 2, _, ⟨w, _⟩ => exact absurd (show (3 : Nat) = 2 from w) (by decide)
        | 5, _, ⟨w, _⟩ => exact absurd (show (3 : Nat) = 2 from w) (by decide)
        | 6, _, ⟨w, _⟩ => exact absurd (show (3 : Nat) = 2 from w) (by decide)
        | 7, _, ⟨w, _⟩ => exact absurd (show (3 : Nat) = 2 from w) (by decide)
        | 8, _, ⟨w, _⟩ => exact absurd (show (3 : Nat) = 2 from w) (by decide)
        | 9, _, ⟨w, _⟩ => exact absurd (show (3 : Nat) = 2 from w) (by decide)
        | 10, _, ⟨w, _⟩ => exact absurd (show (3 : Nat) = 2 from w) (by decide)
        | 11, _, ⟨w, _⟩ => exact absurd (show (3 : Nat) = 2 from w) (by decide)
        | 12, _, ⟨w, _⟩ => exact absurd (show (3 : Nat) = 2 from w) (by decide)
        | 13, _, ⟨w, _⟩ => exact absurd (show (3 : Nat) = 2 from w) (by decide)
        | 14, _, ⟨w, _⟩ => exact absurd (show (3 : Nat) = 2 from w) (by decide)
        | 15, _, ⟨w, _⟩ => exact absurd (show (3 : Nat) = 2 from w) (by decide)
        | 16, _, ⟨w, _⟩ => exact absurd (show (3 : Nat) = 2 from w) (by decide)
        | 17, _, ⟨w, _⟩ => exact absurd (show (3 : Nat) = 2 from w) (by decide)
        | 18, _, ⟨w, _⟩ => exact absurd (show (3 : Nat) = 2 from w) (by decide)
        | 19, _, ⟨w, _⟩ => exact absurd (show (3 : Nat) = 2 from w) (by decide)
        | 20, _, ⟨w, _⟩ => exact absurd (show (3 : Nat) = 2 from w) (by decide)
        | 21, _, ⟨w, _⟩ => exact absurd (show (3 : Nat) = 2 from w) (by decide)
        | 22, _, ⟨w, _⟩ => exact absurd (show (3 : Nat) = 2 from w) (by decide)
        | 23, _, ⟨w, _⟩ => exact absurd (show (3 : Nat) = 2 from w) (by decide)
        | _ + 24, w, _ => omega
    | 3, _, ⟨_, _, _, q, _⟩ => have q : n ≤ 2 * g_l Γ b := q; omega
    | 4, _, ⟨_, _, q, _⟩ => omega
    | 5, _, ⟨_, _, q, _⟩ => have q : n ≤ 2 + 2 * g_l Γ b + 5 * d := q; omega
    | 6, _, ⟨_, _, q, _⟩ => have q : n ≤ 3 + 2 * g_l Γ b + 5 * d := q; omega
    | 7, _, ⟨_, _, w, q⟩ => have w : 1 ≤ d := w; have k := ih c' g5; rw [q] at k; have k : n ≤ 12 + 2 * g_l Γ b + 5 * (d - 1) := k; omega
    | 8, _, ⟨_, _, _, q, _⟩ => have q : n + 5 ≤ 3 + 2 * g_l Γ b + 5 * d := q; omega
    | 9, _, ⟨_, _, _, q, _⟩ => have q : n + 5 ≤ 3 + 2 * g_l Γ b + 5 * d := q; omega
    | 10, _, ⟨_, _, _, q, _⟩ => have q : n + 5 ≤ 3 + 2 * g_l Γ b + 5 * d := q; omega
    | 11, _, ⟨_, _, _, q, _⟩ => have q : n + 5 ≤ 3 + 2 * g_l Γ b + 5 * d := q; omega
    | 12, _, ⟨_, _, w, _, _, q⟩ => have w : 1 ≤ d := w; have k := ih c' g5; rw [q] at k; have k : n ≤ 12 + 2 * g_l Γ b + 5 * (d - 1) := k; omega
    | 13, _, ⟨_, _, q, _⟩ => have q : n ≤ 4 + 2 * g_l Γ b + 5 * d := q; omega
    | 14, _, ⟨_, q, _⟩ => have q : n ≤ 5 + 2 * g_l Γ b + 5 * d := q; omega
    | 15, _, ⟨_, _, q, _⟩ => have q : n ≤ 5 + 2 * g_l Γ b + 5 * d := q; omega
    | 16, _, ⟨_, q, _⟩ => have q : n ≤ 7 + 2 * g_l Γ b + 5 * d := q; omega
    | 17, _, ⟨_, _, q, _⟩ => have q : n ≤ 7 + 2 * g_l Γ b + 5 * d := q; omega
    | 18, _, ⟨_, q, _⟩ => have q : n ≤ 9 + 2 * g_l Γ b + 5 * d := q; omega
    | 19, _, ⟨_, w, q⟩ => have w : 1 ≤ d := w; have k := ih c' g5; rw [q] at k; have k : n ≤ 12 + 2 * g_l Γ b + 5 * (d - 1) := k; omega
    | 20, _, ⟨_, w, _, _, q⟩ => have w : 1 ≤ d := w; have k := ih c' g5; rw [q] at k; have k : n ≤ 12 + 2 * g_l Γ b + 5 * (d - 1) := k; omega
    | 21, _, ⟨_, _, _, q, _⟩ => have q : n + 5 ≤ 3 + 2 * g_l Γ b + 5 * d := q; omega
    | 22, _, ⟨_, _, q, _⟩ => have q : n ≤ 4 + 2 * g_l Γ b + 5 * d := q; omega
    | 23, _, ⟨_, q, _⟩ => have q : n ≤ 8 + 2 * g_l Γ b + 5 * d := q; omega
    | _ + 24, w, _ => omega
theorem C_loop {ty : Nat} : ∀ (f r R : Nat) (x : nM), R + r ≤ 4000 → r < f → q_SR x ty r → ∃ y, k_compile_61 f x (nI R) = k_compile_129 y ∧ (p_compile_129 y → p_compile_61 f x (nI R)) ∧ (y.1 7 ≠ 0 ∨ ∃ Γ nb a b0 nm md r' c, q_CI y Γ nb ty a b0 0 nm md r' c) := by
  intro f
  induction f with
  | zero => intro r R x _ h; omega
  | succ f ih =>
    intro r R x hR hf hx
    have hb : ¬ (5000 : Int32) ≤ nI R := fun q => absurd ((nI_leI (a := 5000) (by decide) (by omega)).mp q) (by omega)
    rw [k_compile_61, p_compile_61, if_neg hb]
    by_cases h7 : x.1 7 = 0
    · rcases hx with hx | ⟨Γ, nb, a, b0, nt, nm, md, c, hC⟩
      · exact absurd h7 hx
      have h11 : x.1 11 = nI nt := hC.2.2.1
      have hwt : q_wt x nt + 8 * (ty - a) ≤ r := hC.2.2.2.2.2.2.2.2.2.2.2.2.2.2.2.2.2
      have := q_wt.pos (x := x) nt
      cases nt with
      | zero =>
        have h0 : x.1 11 ≤ 0 := by rw [h11]; decide
        rw [if_pos h0]
        exact ⟨x, rfl, fun q => ⟨fun w => absurd w hb, fun _ => ⟨fun _ => q, fun w => absurd h0 w⟩⟩, Or.inr ⟨Γ, nb, a, b0, nm, md, r, c, hC⟩⟩
      | succ n =>
        obtain ⟨r, rfl⟩ : ∃ q, r = q + 1 := ⟨r - 1, by omega⟩
        have hn : n + 1 ≤ 4000 := by omega
        have h0 : ¬ x.1 11 ≤ 0 := by rw [h11]; exact nI_ge (a := 0) (by omega) (by omega)
        rw [if_neg h0, if_pos h7]
        have e11 : x.1 11 - 1 = nI n := by rw [h11]; exact nz_dm n
        obtain ⟨s1, s2⟩ := S_all hC
        have e12 : nm_g x 12 (x.1 11 - 1) = x.2 12 n := by rw [e11]; exact q_g x 12 n (by omega)
        have e13 : nm_g x 13 (x.1 11 - 1) = x.2 13 n := by rw [e11]; exact q_g x 13 n (by omega)
        have e14 : nm_g x 14 (x.1 11 - 1) = x.2 14 n := by rw [e11]; exact q_g x 14 n (by omega)
        rw [e12, e13, e14, nI_1]
        obtain ⟨y, y1, y2, y3⟩ := ih r (R + 1) _ (by omega) (by omega) s2
        refine ⟨y, y1, fun q => ⟨fun w => absurd w hb, fun _ => ⟨fun w => absurd w h0, fun _ => ⟨fun _ => ?_, fun w => absurd h7 w⟩⟩⟩, y3⟩
        have hn260 : n < 260 := by
          have k := q_TS.len (n + 1) c hC.2.2.2.2.2.2.2.2.2.2.2.2.2.2.2.1
          have d6 : c.2.2.2.1 ≤ 6 := hC.2.2.2.2.2.2.2.1
          have l4 := (hC.2.2.2.2.2.2.2.2.2.2.2.1.2.2.2 c.1 hC.2.2.2.2.2.2.2.2.2.2.1).2.2.1
          omega
        have hi : vp_in (x.1 11 - 1) 260 := by rw [e11]; exact q_in hn260 (by decide)
        exact ⟨hi, hi, hi, s1, y2 q⟩
    · refine ⟨x, ?_, fun q => ⟨fun w => absurd w hb, fun _ => ⟨fun _ => q, fun _ => ⟨fun w => absurd w h7, fun _ => q⟩⟩⟩, Or.inl h7⟩
      split
      · rfl
      · first | rfl | rw [if_neg h7]
