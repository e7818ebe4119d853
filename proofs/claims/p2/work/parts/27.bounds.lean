/-! the reference's functions: reading a text -/
theorem q_f1 (x : nM) (k : Nat) (v : Int32) (j : Nat) : (nm_f x k v).1 j = if j = k then v else x.1 j := rfl
theorem q_f2 (x : nM) (k : Nat) (v : Int32) : (nm_f x k v).2 = x.2 := rfl
theorem q_a1 (x : nM) (k : Nat) (i v : Int32) : (nm_a x k i v).1 = x.1 := rfl
theorem q_a2 (x : nM) (k : Nat) (i v : Int32) (j : Nat) : (nm_a x k i v).2 j = if j = k then upd (x.2 k) i.toNatClampNeg v else x.2 j := rfl
theorem q_g (x : nM) (k i : Nat) (h : i < 2 ^ 31) : nm_g x k (nI i) = x.2 k i := by
  rw [nm_g, nI_clamp h]
/-- another token looked at: nothing else is touched -/
def q_Lk (x y : nM) : Prop := y.2 = x.2 ∧ ∀ k, k ≠ 3 → k ≠ 4 → k ≠ 5 → k ≠ 6 → y.1 k = x.1 k
theorem q_Lk.rf {x : nM} : q_Lk x x := ⟨rfl, fun _ _ _ _ _ => rfl⟩
theorem q_Lk.tr {x y z : nM} (h : q_Lk x y) (g : q_Lk y z) : q_Lk x z := ⟨g.1.trans h.1, fun k a b c d => (g.2 k a b c d).trans (h.2 k a b c d)⟩
theorem q_Lk.f {x : nM} {k : Nat} {v : Int32} (h : k = 3 ∨ k = 4 ∨ k = 5 ∨ k = 6) : q_Lk x (nm_f x k v) := ⟨rfl, fun j a b c d => by
  rw [q_f1, if_neg (by omega)]⟩
/-- where the token at hand stands, and what lies behind it -/
def q_At (y : nM) (ty p a b : Nat) : Prop := y.1 4 = nI a ∧ y.1 6 = nI b ∧ p ≤ a ∧ a ≤ b ∧ b ≤ ty ∧ (y.1 3 ≠ 0 → a < b)
theorem q_le {x : Int32} {a b : Nat} (h : x = nI a) (ha : a < 2 ^ 31) (hb : b < 2 ^ 31) : (x ≤ nI b) ↔ a ≤ b := by rw [h]; exact nI_leI ha hb
theorem q_299 {x : nM} {a v : Nat} {w : Int32} (h4 : x.1 4 = nI a) (ty : Nat) (hv : v ≤ ty) (hav : a ≤ v) (h3 : x.1 3 ≠ 0 → a < v) : q_Lk x (k_look_299 x (nI v)) ∧ q_At (k_look_299 x (nI v)) ty a a v := by
  rw [k_look_299]
  refine ⟨q_Lk.f (by omega), ?_, ?_, Nat.le_refl _, hav, hv, ?_⟩
  · rw [q_f1, if_neg (by decide)]; exact h4
  · rw [q_f1, if_pos rfl]
  · rw [q_f1, if_neg (by decide)]; exact h3
theorem q_set3 {x : nM} {a v : Nat} {w : Int32} (h4 : x.1 4 = nI a) (ty : Nat) (hv : v ≤ ty) (hav : a < v) : q_Lk x (k_look_299 (nm_f x 3 w) (nI v)) ∧ q_At (k_look_299 (nm_f x 3 w) (nI v)) ty a a v := by
  have h := q_299 (w := w) (x := nm_f x 3 w) (a := a) (v := v) (by rw [q_f1, if_neg (by decide)]; exact h4) ty hv (by omega) (fun _ => hav)
  exact ⟨(q_Lk.f (by omega)).tr h.1, h.2⟩
theorem q_280 {x : nM} {a : Nat} {c : Int32} (h4 : x.1 4 = nI a) (ty : Nat) (hv : a < ty) : p_look_280 x (nI a) c ∧ q_Lk x (k_look_280 x (nI a) c) ∧ q_At (k_look_280 x (nI a) c) ty a a (a + 1) := by
  refine ⟨⟨fun _ => trivial, fun _ => trivial⟩, ?_⟩
  rw [k_look_280]
  split
  · rw [k_look_293, nI_1]; exact q_set3 h4 ty (by omega) (by omega)
  · rw [k_look_293, nI_1]; exact q_set3 h4 ty (by omega) (by omega)
theorem q_228 {x : nM} {a v : Nat} (h4 : x.1 4 = nI a) (ty : Nat) (hv : v ≤ ty) (hav : a < v) : p_look_228 x (nI v) ∧ q_Lk x (k_look_228 x (nI v)) ∧ q_At (k_look_228 x (nI v)) ty a a v := by
  refine ⟨⟨fun _ => trivial, fun _ => trivial⟩, ?_⟩
  rw [k_look_228]
  split
  · rw [k_look_244]; exact q_set3 h4 ty hv hav
  · rw [k_look_244]; exact q_set3 h4 ty hv hav
theorem q_128 {x : nM} {a v : Nat} (h4 : x.1 4 = nI a) (ty : Nat) (hv : v ≤ ty) (hav : a < v) : p_look_128 x (nI v) ∧ q_Lk x (k_look_128 x (nI v)) ∧ q_At (k_look_128 x (nI v)) ty a a v := by
  refine ⟨⟨fun _ => trivial, fun _ => trivial⟩, ?_⟩
  rw [k_look_128]
  split
  · rw [k_look_151]; exact q_set3 h4 ty hv hav
  · rw [k_look_151]; exact q_set3 h4 ty hv hav
theorem q_164 {ty a : Nat} (h8 : ty ≤ 180) : ∀ (n v : Nat) (x : nM), x.1 1 = nI ty → x.1 4 = nI a → v ≤ ty → ty - v < n → a ≤ v → (a < v ∨ (v < ty ∧ ¬ m_isDigit (x.2 2 v) = 0)) →
    p_look_164 n x (nI v) ∧ ∃ b, q_Lk x (k_look_164 n x (nI v)) ∧ q_At (k_look_164 n x (nI v)) ty a a b := by
  intro n
  induction n with
  | zero => intro v x _ _ _ h; omega
  | succ n ih =>
    intro v x h1 h4 hv hn hav hd
    rw [k_look_164, p_look_164, q_g x 2 v (by omega)]
    by_cases hc : ty ≤ v
    · have hc' : x.1 1 ≤ nI v := (q_le h1 (by omega) (by omega)).mpr hc
      have hav' : a < v := by omega
      obtain ⟨g1, g2, g3⟩ := q_228 h4 ty hv hav'
      rw [if_pos hc']
      exact ⟨⟨fun _ => g1, fun h => absurd hc' h⟩, v, g2, g3⟩
    · have hc' : ¬ x.1 1 ≤ nI v := fun h => hc ((q_le h1 (by omega) (by omega)).mp h)
      rw [if_neg hc']
      have hin : vp_in (nI v) 180 := vp_in_nI (by omega) (by decide)
      by_cases hz : m_isDigit (x.2 2 v) = 0
      · obtain ⟨g1, g2, g3⟩ := q_228 h4 ty hv (by rcases hd with h | h; exact h; exact absurd hz h.2)
        rw [if_pos hz]
        exact ⟨⟨fun h => absurd h hc', fun _ => ⟨hin, fun _ => g1, fun h => absurd hz h⟩⟩, v, g2, g3⟩
      · rw [if_neg hz]
        have key : ∀ w : Int32, p_look_164 n (nm_f x 5 w) (nI v + 1) ∧ ∃ b, q_Lk x (k_look_164 n (nm_f x 5 w) (nI v + 1)) ∧ q_At (k_look_164 n (nm_f x 5 w) (nI v + 1)) ty a a b := by
          intro w
          rw [nI_1]
          obtain ⟨g1, b, g2, g3⟩ := ih (v + 1) (nm_f x 5 w) (by rw [q_f1, if_neg (by decide)]; exact h1) (by rw [q_f1, if_neg (by decide)]; exact h4) (by omega) (by omega) (by omega) (Or.inl (by omega))
          exact ⟨g1, b, (q_Lk.f (by omega)).tr g2, g3⟩
        refine ⟨⟨fun h => absurd h hc', fun _ => ⟨hin, fun h => absurd h hz, fun _ => ⟨fun _ => (key _).1, fun _ => ⟨hin, (key _).1⟩⟩⟩⟩, ?_⟩
        split
        · exact (key _).2
        · exact (key _).2
theorem q_62 {ty a : Nat} (h8 : ty ≤ 180) : ∀ (n v : Nat) (x : nM), x.1 1 = nI ty → x.1 4 = nI a → v ≤ ty → ty - v < n → a ≤ v → (a < v ∨ (v < ty ∧ ¬ m_isLetter (x.2 2 v) = 0)) →
    p_look_62 n x (nI v) ∧ ∃ b, q_Lk x (k_look_62 n x (nI v)) ∧ q_At (k_look_62 n x (nI v)) ty a a b := by
  intro n
  induction n with
  | zero => intro v x _ _ _ h; omega
  | succ n ih =>
    intro v x h1 h4 hv hn hav hd
    rw [k_look_62, p_look_62, q_g x 2 v (by omega)]
    by_cases hc : ty ≤ v
    · have hc' : x.1 1 ≤ nI v := (q_le h1 (by omega) (by omega)).mpr hc
      have hav' : a < v := by omega
      obtain ⟨g1, g2, g3⟩ := q_128 h4 ty hv hav'
      rw [if_pos hc']
      exact ⟨⟨fun _ => g1, fun h => absurd hc' h⟩, v, g2, g3⟩
    · have hc' : ¬ x.1 1 ≤ nI v := fun h => hc ((q_le h1 (by omega) (by omega)).mp h)
      rw [if_neg hc']
      have hin : vp_in (nI v) 180 := vp_in_nI (by omega) (by decide)
      by_cases hz : m_isLetter (x.2 2 v) = 0
      · obtain ⟨g1, g2, g3⟩ := q_128 h4 ty hv (by rcases hd with h | h; exact h; exact absurd hz h.2)
        rw [if_pos hz]
        exact ⟨⟨fun h => absurd h hc', fun _ => ⟨hin, fun _ => g1, fun h => absurd hz h⟩⟩, v, g2, g3⟩
      · rw [if_neg hz]
        have key : ∀ w : Int32, p_look_62 n (nm_f x 5 w) (nI v + 1) ∧ ∃ b, q_Lk x (k_look_62 n (nm_f x 5 w) (nI v + 1)) ∧ q_At (k_look_62 n (nm_f x 5 w) (nI v + 1)) ty a a b := by
          intro w
          rw [nI_1]
          obtain ⟨g1, b, g2, g3⟩ := ih (v + 1) (nm_f x 5 w) (by rw [q_f1, if_neg (by decide)]; exact h1) (by rw [q_f1, if_neg (by decide)]; exact h4) (by omega) (by omega) (by omega) (Or.inl (by omega))
          exact ⟨g1, b, (q_Lk.f (by omega)).tr g2, g3⟩
        refine ⟨⟨fun h => absurd h hc', fun _ => ⟨hin, fun h => absurd h hz, fun _ => ⟨fun _ => (key _).1, fun _ => ⟨hin, (key _).1⟩⟩⟩⟩, ?_⟩
        split
        · exact (key _).2
        · exact (key _).2
theorem q_here {x : nM} {ty v : Nat} (h1 : x.1 1 = nI ty) (h8 : ty ≤ 180) (hv : v ≤ ty + 2) : o_here x (nI v) ∧ m_here x (nI v) = if v < ty then x.2 2 v else 0 := by
  rw [o_here, m_here, q_g x 2 v (by omega)]
  by_cases hc : ty ≤ v
  · have hc' : x.1 1 ≤ nI v := (q_le h1 (by omega) (by omega)).mpr hc
    exact ⟨⟨fun _ => trivial, fun h => absurd hc' h⟩, by rw [if_pos hc', if_neg (by omega)]⟩
  · have hc' : ¬ x.1 1 ≤ nI v := fun h => hc ((q_le h1 (by omega) (by omega)).mp h)
    exact ⟨⟨fun h => absurd h hc', fun _ => ⟨vp_in_nI (by omega) (by decide), trivial⟩⟩, by rw [if_neg hc', if_pos (by omega)]⟩
theorem q_27 {x : nM} {ty v : Nat} (h1 : x.1 1 = nI ty) (h8 : ty ≤ 180) (hv : v ≤ ty) : p_look_27 x (nI v) ∧ ∃ b, q_Lk x (k_look_27 x (nI v)) ∧ q_At (k_look_27 x (nI v)) ty v v b := by
  have e1 : (nm_f x 4 (nI v)).1 1 = nI ty := by rw [q_f1, if_neg (by decide)]; exact h1
  have e2 : (nm_f (nm_f x 4 (nI v)) 5 0).1 1 = nI ty := by rw [q_f1, if_neg (by decide)]; exact e1
  have e4 : (nm_f (nm_f x 4 (nI v)) 5 0).1 4 = nI v := by rw [q_f1, if_neg (by decide), q_f1, if_pos rfl]
  obtain ⟨h9, hc⟩ := q_here e1 h8 (show v ≤ ty + 2 by omega)
  obtain ⟨h9', hc'⟩ := q_here e2 h8 (show v + 1 ≤ ty + 2 by omega)
  have ex : (nm_f x 4 (nI v)).2 2 v = x.2 2 v := rfl
  have ex' : (nm_f (nm_f x 4 (nI v)) 5 0).2 2 (v + 1) = x.2 2 (v + 1) := rfl
  rw [ex] at hc
  rw [ex'] at hc'
  have kk : q_Lk x (nm_f (nm_f x 4 (nI v)) 5 0) := (q_Lk.f (by omega)).tr (q_Lk.f (by omega))
  rw [k_look_27, p_look_27, nI_1, hc, hc']
  by_cases hz : v < ty
  · rw [if_pos hz]
    by_cases z0 : x.2 2 v = 0
    · rw [if_pos z0]
      have g := q_299 (w := 0) (x := nm_f (nm_f (nm_f x 4 (nI v)) 5 0) 3 0) (a := v) (v := v) (by rw [q_f1, if_neg (by decide)]; exact e4) ty hv (Nat.le_refl _) (fun h => absurd (by rw [q_f1, if_pos rfl]) h)
      exact ⟨⟨h9, fun _ => trivial, fun h => absurd z0 h⟩, v, (kk.tr (q_Lk.f (by omega))).tr g.1, g.2⟩
    · rw [if_neg z0]
      by_cases zl : m_isLetter (x.2 2 v) = 0
      · rw [if_pos zl]
        by_cases zd : m_isDigit (x.2 2 v) = 0
        · rw [if_pos zd]
          have g := q_280 (c := x.2 2 v) e4 ty hz
          by_cases z5 : x.2 2 v = 58
          · rw [if_pos z5]
            by_cases z6 : (if v + 1 < ty then x.2 2 (v + 1) else 0) = 61
            · rw [if_pos z6]
              have h3 : v + 1 < ty := by
                rcases Nat.lt_or_ge (v + 1) ty with h | h
                · exact h
                · rw [if_neg (by omega)] at z6
                  exact absurd z6 (by decide)
              have e5 : nI v + 2 = nI (v + 2) := nI_add v 2
              rw [e5]
              have g2 := q_set3 (w := 127) (x := nm_f (nm_f x 4 (nI v)) 5 0) (v := v + 2) e4 ty (by omega) (by omega)
              exact ⟨⟨h9, fun h => absurd h z0, fun _ => ⟨fun _ => ⟨fun _ => ⟨fun _ => ⟨h9', fun _ => trivial, fun h => absurd z6 h⟩, fun h => absurd z5 h⟩, fun h => absurd zd h⟩, fun h => absurd zl h⟩⟩, v + 2, kk.tr g2.1, g2.2⟩
            · rw [if_neg z6]
              exact ⟨⟨h9, fun h => absurd h z0, fun _ => ⟨fun _ => ⟨fun _ => ⟨fun _ => ⟨h9', fun h => absurd h z6, fun _ => g.1⟩, fun h => absurd z5 h⟩, fun h => absurd zd h⟩, fun h => absurd zl h⟩⟩, v + 1, kk.tr g.2.1, g.2.2⟩
          · rw [if_neg z5]
            exact ⟨⟨h9, fun h => absurd h z0, fun _ => ⟨fun _ => ⟨fun _ => ⟨fun h => absurd h z5, fun _ => g.1⟩, fun h => absurd zd h⟩, fun h => absurd zl h⟩⟩, v + 1, kk.tr g.2.1, g.2.2⟩
        · rw [if_neg zd]
          obtain ⟨g1, b, g2, g3⟩ := q_164 (a := v) h8 300 v (nm_f (nm_f x 4 (nI v)) 5 0) e2 e4 hv (by omega) (Nat.le_refl _) (Or.inr ⟨hz, zd⟩)
          exact ⟨⟨h9, fun h => absurd h z0, fun _ => ⟨fun _ => ⟨fun h => absurd h zd, fun _ => g1⟩, fun h => absurd zl h⟩⟩, b, kk.tr g2, g3⟩
      · rw [if_neg zl]
        obtain ⟨g1, b, g2, g3⟩ := q_62 (a := v) h8 300 v (nm_f (nm_f x 4 (nI v)) 5 0) e2 e4 hv (by omega) (Nat.le_refl _) (Or.inr ⟨hz, zl⟩)
        exact ⟨⟨h9, fun h => absurd h z0, fun _ => ⟨fun h => absurd h zl, fun _ => g1⟩⟩, b, kk.tr g2, g3⟩
  · rw [if_neg hz, if_pos rfl]
    have g := q_299 (w := 0) (x := nm_f (nm_f (nm_f x 4 (nI v)) 5 0) 3 0) (a := v) (v := v) (by rw [q_f1, if_neg (by decide)]; exact e4) ty hv (Nat.le_refl _) (fun h => absurd (by rw [q_f1, if_pos rfl]) h)
    exact ⟨⟨h9, fun _ => trivial, fun h => absurd rfl h⟩, v, (kk.tr (q_Lk.f (by omega))).tr g.1, g.2⟩
theorem q_2 {ty : Nat} (h8 : ty ≤ 180) : ∀ (n v : Nat) (x : nM), x.1 1 = nI ty → v ≤ ty → ty - v < n →
    p_look_2 n x (nI v) ∧ ∃ a b, q_Lk x (k_look_2 n x (nI v)) ∧ q_At (k_look_2 n x (nI v)) ty v a b := by
  intro n
  induction n with
  | zero => intro v x _ _ h; omega
  | succ n ih =>
    intro v x h1 hv hn
    obtain ⟨g1, b, g2, g3⟩ := q_27 h1 h8 hv
    rw [k_look_2, p_look_2, q_g x 2 v (by omega)]
    by_cases hc : ty ≤ v
    · have hc' : x.1 1 ≤ nI v := (q_le h1 (by omega) (by omega)).mpr hc
      rw [if_pos hc']
      exact ⟨⟨fun _ => g1, fun h => absurd hc' h⟩, v, b, g2, g3⟩
    · have hc' : ¬ x.1 1 ≤ nI v := fun h => hc ((q_le h1 (by omega) (by omega)).mp h)
      rw [if_neg hc']
      have hin : vp_in (nI v) 180 := vp_in_nI (by omega) (by decide)
      by_cases z : x.2 2 v = 32
      · rw [if_pos z, nI_1]
        obtain ⟨k1, a, b, k2, k3⟩ := ih (v + 1) x h1 (by omega) (by omega)
        exact ⟨⟨fun h => absurd h hc', fun _ => ⟨hin, fun _ => k1, fun h => absurd z h⟩⟩, a, b, k2, k3.1, k3.2.1, by have := k3.2.2.1; omega, k3.2.2.2⟩
      · rw [if_neg z]
        exact ⟨⟨fun h => absurd h hc', fun _ => ⟨hin, fun h => absurd h z, fun _ => g1⟩⟩, v, b, g2, g3⟩
theorem q_look {x : nM} {ty v : Nat} (h1 : x.1 1 = nI ty) (h8 : ty ≤ 180) (hv : v ≤ ty) : o_look x (nI v) ∧ ∃ a b, q_Lk x (m_look x (nI v)) ∧ q_At (m_look x (nI v)) ty v a b := by
  unfold o_look m_look
  exact q_2 h8 300 v x h1 hv (by omega)
/-- the token at hand, its place: p says where it could begin at the earliest -/
def q_T (x : nM) (ty a b : Nat) : Prop := x.1 1 = nI ty ∧ ty ≤ 180 ∧ x.1 4 = nI a ∧ x.1 6 = nI b ∧ a ≤ b ∧ b ≤ ty ∧ (x.1 3 ≠ 0 → a < b)
theorem q_goOn {x : nM} {ty a b : Nat} (h : q_T x ty a b) : o_goOn x ∧ ∃ a' b', q_Lk x (m_goOn x) ∧ q_T (m_goOn x) ty a' b' ∧ b ≤ a' := by
  obtain ⟨h1, h2, h3, h4, h5, h6, h7⟩ := h
  rw [o_goOn, m_goOn, h4]
  obtain ⟨g1, a', b', g2, g3, g4, g5, g6, g7, g8⟩ := q_look h1 h2 h6
  exact ⟨⟨g1, trivial⟩, a', b', g2, ⟨by rw [g2.2 1 (by decide) (by decide) (by decide) (by decide)]; exact h1, h2, g3, g4, g6, g7, g8⟩, g5⟩
/-! what every step of the reference's compile asks: bounds -/
def q_L (x : nM) (nt nm md s : Nat) : Prop := ∃ ty a b, q_T x ty a b ∧ 2 * nm ≤ a + s ∧ x.1 11 = nI nt ∧ x.1 15 = nI nm ∧ x.1 25 = nI md
theorem q_T.cong {x y : nM} {ty a b : Nat} (h : q_T x ty a b) (h1 : y.1 1 = x.1 1) (h3 : y.1 3 = x.1 3) (h4 : y.1 4 = x.1 4) (h6 : y.1 6 = x.1 6) : q_T y ty a b := by
  unfold q_T at *
  rw [h1, h3, h4, h6]; exact h
theorem q_L.cong {x y : nM} {nt nm md s : Nat} (h : q_L x nt nm md s) (h1 : y.1 1 = x.1 1) (h3 : y.1 3 = x.1 3) (h4 : y.1 4 = x.1 4) (h6 : y.1 6 = x.1 6) (h11 : y.1 11 = x.1 11) (h15 : y.1 15 = x.1 15) (h25 : y.1 25 = x.1 25) : q_L y nt nm md s := by
  obtain ⟨ty, a, b, g1, g2, g3, g4, g5⟩ := h
  exact ⟨ty, a, b, g1.cong h1 h3 h4 h6, g2, by rw [h11]; exact g3, by rw [h15]; exact g4, by rw [h25]; exact g5⟩
theorem q_L.s {x : nM} {nt nm md s s' : Nat} (h : q_L x nt nm md s) (hs : s ≤ s') : q_L x nt nm md s' := by
  obtain ⟨ty, a, b, g1, g2, g3⟩ := h
  exact ⟨ty, a, b, g1, by omega, g3⟩
theorem q_L.f {x : nM} {nt nm md s : Nat} (h : q_L x nt nm md s) (k : Nat) (v : Int32) (hk : k ≠ 1 ∧ k ≠ 3 ∧ k ≠ 4 ∧ k ≠ 6 ∧ k ≠ 11 ∧ k ≠ 15 ∧ k ≠ 25) : q_L (nm_f x k v) nt nm md s := by
  refine h.cong ?_ ?_ ?_ ?_ ?_ ?_ ?_ <;> (rw [q_f1, if_neg (by omega)])
theorem q_L.a {x : nM} {nt nm md s : Nat} (h : q_L x nt nm md s) (k : Nat) (i v : Int32) : q_L (nm_a x k i v) nt nm md s := h.cong rfl rfl rfl rfl rfl rfl rfl
theorem q_L.nm {x : nM} {nt nm md s : Nat} (h : q_L x nt nm md s) : nm ≤ 90 + s := by
  obtain ⟨ty, a, b, ⟨_, g2, _, _, g5, g6, _⟩, g, _⟩ := h; omega
/-- tokens, errors -/
theorem L_goOn {x : nM} {nt nm md s : Nat} (h : q_L x nt nm md s) : o_goOn x ∧ q_L (m_goOn x) nt nm md s := by
  obtain ⟨ty, a, b, g1, g2, g3, g4, g5⟩ := h
  obtain ⟨k1, a', b', k2, k3, k4⟩ := q_goOn g1
  have := g1.2.2.2.2.1
  refine ⟨k1, ty, a', b', k3, by omega, ?_, ?_, ?_⟩
  · rw [k2.2 11 (by decide) (by decide) (by decide) (by decide)]; exact g3
  · rw [k2.2 15 (by decide) (by decide) (by decide) (by decide)]; exact g4
  · rw [k2.2 25 (by decide) (by decide) (by decide) (by decide)]; exact g5
/-- a token consumed -/
theorem L_goOn1 {x : nM} {nt nm md s : Nat} (h : q_L x nt nm md s) (h3 : x.1 3 ≠ 0) : o_goOn x ∧ q_L (m_goOn x) nt nm md (s - 1) := by
  obtain ⟨ty, a, b, g1, g2, g3, g4, g5⟩ := h
  obtain ⟨k1, a', b', k2, k3, k4⟩ := q_goOn g1
  have := g1.2.2.2.2.1
  have := g1.2.2.2.2.2.2 h3
  refine ⟨k1, ty, a', b', k3, by omega, ?_, ?_, ?_⟩
  · rw [k2.2 11 (by decide) (by decide) (by decide) (by decide)]; exact g3
  · rw [k2.2 15 (by decide) (by decide) (by decide) (by decide)]; exact g4
  · rw [k2.2 25 (by decide) (by decide) (by decide) (by decide)]; exact g5
theorem f_fail (x : nM) (w p : Int32) (k : Nat) (h7 : k ≠ 7) (h8 : k ≠ 8) : (m_fail x w p).1 k = x.1 k := by
  rw [m_fail]
  split
  · rw [q_f1, if_neg h8, q_f1, if_neg h7]
  · rfl
theorem g_fail (x : nM) (w p : Int32) : (m_fail x w p).2 = x.2 := by
  rw [m_fail]
  split <;> rfl
theorem L_fail {x : nM} {nt nm md s : Nat} (h : q_L x nt nm md s) (w p : Int32) : q_L (m_fail x w p) nt nm md s := by
  refine h.cong ?_ ?_ ?_ ?_ ?_ ?_ ?_ <;> exact f_fail _ _ _ _ (by decide) (by decide)
/-- whatever the text: looking at a token touches nothing else -/
theorem U_299 (x : nM) (v : Int32) : q_Lk x (k_look_299 x v) := by rw [k_look_299]; exact q_Lk.f (by omega)
theorem U_3 (x : nM) (v w : Int32) : q_Lk x (k_look_299 (nm_f x 3 w) v) := (q_Lk.f (by omega)).tr (U_299 _ _)
theorem U_280 (x : nM) (v c : Int32) : q_Lk x (k_look_280 x v c) := by
  rw [k_look_280]; split <;> (rw [k_look_293]; exact U_3 _ _ _)
theorem U_228 (x : nM) (v : Int32) : q_Lk x (k_look_228 x v) := by
  rw [k_look_228]; split <;> (rw [k_look_244]; exact U_3 _ _ _)
theorem U_128 (x : nM) (v : Int32) : q_Lk x (k_look_128 x v) := by
  rw [k_look_128]; split <;> (rw [k_look_151]; exact U_3 _ _ _)
theorem U_164 : ∀ (n : Nat) (x : nM) (v : Int32), q_Lk x (k_look_164 n x v) := by
  intro n
  induction n with
  | zero => intro x v; exact q_Lk.rf
  | succ n ih =>
    intro x v
    rw [k_look_164]
    split
    · exact U_228 _ _
    · split
      · exact U_228 _ _
      · split <;> exact (q_Lk.f (by omega)).tr (ih _ _)
theorem U_62 : ∀ (n : Nat) (x : nM) (v : Int32), q_Lk x (k_look_62 n x v) := by
  intro n
  induction n with
  | zero => intro x v; exact q_Lk.rf
  | succ n ih =>
    intro x v
    rw [k_look_62]
    split
    · exact U_128 _ _
    · split
      · exact U_128 _ _
      · split <;> exact (q_Lk.f (by omega)).tr (ih _ _)
theorem U_27 (x : nM) (v : Int32) : q_Lk x (k_look_27 x v) := by
  have kk : q_Lk x (nm_f (nm_f x 4 v) 5 0) := (q_Lk.f (by omega)).tr (q_Lk.f (by omega))
  rw [k_look_27]
  split
  · exact kk.tr (U_3 _ _ _)
  · split
    · split
      · split
        · split
          · exact kk.tr (U_3 _ _ _)
          · exact kk.tr (U_280 _ _ _)
        · exact kk.tr (U_280 _ _ _)
      · exact kk.tr (U_164 _ _ _)
    · exact kk.tr (U_62 _ _ _)
theorem U_2 : ∀ (n : Nat) (x : nM) (v : Int32), q_Lk x (k_look_2 n x v) := by
  intro n
  induction n with
  | zero => intro x v; exact q_Lk.rf
  | succ n ih =>
    intro x v
    rw [k_look_2]
    split
    · exact U_27 _ _
    · split
      · exact ih _ _
      · exact U_27 _ _
theorem U_look (x : nM) (v : Int32) : q_Lk x (m_look x v) := by unfold m_look; exact U_2 300 x v
theorem U_goOn (x : nM) : q_Lk x (m_goOn x) := by rw [m_goOn]; exact U_look _ _
theorem f_goOn (x : nM) (k : Nat) (h3 : k ≠ 3) (h4 : k ≠ 4) (h5 : k ≠ 5) (h6 : k ≠ 6) : (m_goOn x).1 k = x.1 k := (U_goOn x).2 k h3 h4 h5 h6
theorem g_goOn (x : nM) : (m_goOn x).2 = x.2 := (U_goOn x).1
theorem e_fail {x : nM} {w p : Int32} (hw : w ≠ 0) : (m_fail x w p).1 7 ≠ 0 := by
  rw [m_fail]
  split
  · show w ≠ 0; exact hw
  · assumption
theorem e_fail2 {x : nM} {w p : Int32} (h : x.1 7 ≠ 0) : m_fail x w p = x := by rw [m_fail, if_neg h]
theorem L_expect {x : nM} {nt nm md s : Nat} (h : q_L x nt nm md s) (w : Int32) : o_expect x w ∧ q_L (m_expect x w) nt nm md s := by
  rw [o_expect, m_expect]
  have g := L_goOn h
  by_cases hc : x.1 3 = w
  · rw [if_pos hc]; exact ⟨⟨fun _ => ⟨g.1, trivial⟩, fun h => absurd hc h⟩, g.2⟩
  · rw [if_neg hc]; exact ⟨⟨fun h => absurd h hc, fun _ => trivial⟩, L_fail h _ _⟩
theorem L_peek {x : nM} {nt nm md s : Nat} (h : q_L x nt nm md s) : o_peek x ∧ q_L (m_peek x).1 nt nm md s := by
  have g := L_goOn h
  rw [o_peek, m_peek]
  refine ⟨⟨g.1.1, trivial⟩, ?_⟩
  obtain ⟨ty, a, b, g1, g2, g3, g4, g5⟩ := h
  have e6 : x.1 6 = nI b := g1.2.2.2.1
  obtain ⟨k1, a', b', k2, -⟩ := q_look g1.1 g1.2.1 g1.2.2.2.2.2.1
  rw [← e6] at k2
  have hk : ∀ k, k ≠ 3 → k ≠ 4 → k ≠ 5 → k ≠ 6 → (m_look x (x.1 6)).1 k = x.1 k := k2.2
  refine ⟨ty, a, b, g1.cong ?_ ?_ ?_ ?_, g2, ?_, ?_, ?_⟩
  · simp only [q_f1]; exact hk 1 (by decide) (by decide) (by decide) (by decide)
  · simp only [q_f1]; rfl
  · simp only [q_f1]; rfl
  · simp only [q_f1]; rfl
  · simp only [q_f1]; exact (hk 11 (by decide) (by decide) (by decide) (by decide)).trans g3
  · simp only [q_f1]; exact (hk 15 (by decide) (by decide) (by decide) (by decide)).trans g4
  · simp only [q_f1]; exact (hk 25 (by decide) (by decide) (by decide) (by decide)).trans g5
/-- names -/
theorem q_find {x : nM} {v : Int32} : ∀ (n j : Nat), j ≤ 100 → j < n → p_find_7 n x v (nI j - 1) ∧ (k_find_7 n x v (nI j - 1) = nI 0 - 1 ∨ ∃ k, k < j ∧ k_find_7 n x v (nI j - 1) = nI k ∧ x.2 16 k = v) := by
  intro n
  induction n with
  | zero => intro j _ h; omega
  | succ n ih =>
    intro j hj hn
    rw [k_find_7, p_find_7]
    cases j with
    | zero =>
      have h0 : nI 0 - 1 < 0 := by decide
      rw [if_pos h0]
      exact ⟨⟨fun _ => trivial, fun h => absurd h0 (by exact h)⟩, Or.inl rfl⟩
    | succ j =>
      have e : nI (j + 1) - 1 = nI j := nz_dm j
      rw [e]
      have h0 : ¬ nI j < 0 := nI_pos (by omega)
      rw [if_neg h0, q_g x 16 j (by omega)]
      have hin : vp_in (nI j) 100 := vp_in_nI (by omega) (by decide)
      have e2 : nI j + -1 = nI j - 1 := (nz_sm _).symm
      rw [e2]
      obtain ⟨g1, g2⟩ := ih j (by omega) (by omega)
      by_cases hc : x.2 16 j = v
      · rw [if_pos hc]
        exact ⟨⟨fun h => absurd h h0, fun _ => ⟨hin, fun _ => trivial, fun h => absurd hc h⟩⟩, Or.inr ⟨j, by omega, rfl, hc⟩⟩
      · rw [if_neg hc]
        refine ⟨⟨fun h => absurd h h0, fun _ => ⟨hin, fun h => absurd h hc, fun _ => g1⟩⟩, ?_⟩
        rcases g2 with g | ⟨k, hk, g⟩
        · exact Or.inl g
        · exact Or.inr ⟨k, by omega, g⟩
theorem L_find {x : nM} {nm : Nat} (h : x.1 15 = nI nm) (hn : nm ≤ 100) (v : Int32) : o_find x v ∧ (m_find x v = nI 0 - 1 ∨ ∃ k, k < nm ∧ m_find x v = nI k ∧ x.2 16 k = v) := by
  unfold o_find m_find
  rw [h]
  exact q_find 300 nm hn (by omega)
theorem q_m1 : (nI 0 - 1 : Int32) < 0 := by decide
/-! what each task asks -/
theorem L_push {x : nM} {nt nm md s : Nat} (h : q_L x nt nm md s) (hn : nt < 260) (t f g : Int32) : o_push x t f g ∧ q_L (m_push x t f g) (nt + 1) nm md s := by
  obtain ⟨ty, a, b, g1, g2, g3, g4, g5⟩ := h
  rw [o_push, m_push, g3]
  have hi : vp_in (nI nt) 260 := vp_in_nI hn (by decide)
  refine ⟨⟨hi, hi, hi, trivial⟩, ty, a, b, g1.cong ?_ ?_ ?_ ?_, g2, ?_, ?_, ?_⟩
  · rfl
  · rfl
  · rfl
  · rfl
  · exact nI_1 nt
  · exact g4
  · exact g5
theorem L_emit {x : nM} {nt nm md s : Nat} (h : q_L x nt nm md s) (hn : md < 400) (t f g : Int32) : o_emit x t f g ∧ q_L (m_emit x t f g).1 nt nm (md + 1) s ∧ (m_emit x t f g).2 = nI md := by
  obtain ⟨ty, a, b, g1, g2, g3, g4, g5⟩ := h
  rw [o_emit, m_emit, g5]
  have hi : vp_in (nI md) 400 := vp_in_nI hn (by decide)
  refine ⟨⟨hi, hi, hi, trivial⟩, ⟨ty, a, b, g1.cong ?_ ?_ ?_ ?_, g2, ?_, ?_, ?_⟩, ?_⟩
  · rfl
  · rfl
  · rfl
  · rfl
  · exact g3
  · exact g4
  · exact nI_1 md
  · rw [nI_1]; exact nz_dm md
theorem L_open {x : nM} {nt nm md s : Nat} (h : q_L x nt nm md s) : o_open x ∧ q_L (m_open x) nt nm md s := by
  have g1 := L_goOn ((L_fail h 1 (x.1 4)).f 24 ((m_fail x 1 (x.1 4)).1 24 + 1) (by decide))
  have g2 := L_goOn (h.f 24 (x.1 24 + 1) (by decide))
  rw [o_open, m_open]
  by_cases hc : x.1 24 = 6
  · rw [if_pos hc]; exact ⟨⟨fun _ => ⟨g1.1, trivial⟩, fun h => absurd hc h⟩, g1.2⟩
  · rw [if_neg hc]; exact ⟨⟨fun h => absurd h hc, fun _ => ⟨g2.1, trivial⟩⟩, g2.2⟩
theorem q_in {k n : Nat} (h : k < n) (hn : n ≤ 400) : vp_in (nI k) n := vp_in_nI h (by omega)
theorem L_links (x : nM) {k : Nat} (h : k < 100) : o_links x (nI k) := ⟨q_in h (by decide), trivial⟩
theorem L_close {x : nM} {nt nm md s : Nat} (h : q_L x nt nm md s) (w : Int32) : o_close x w ∧ q_L (m_close x w) nt nm md s := by
  have g := L_expect h w
  exact ⟨⟨g.1, trivial⟩, g.2.f 24 _ (by decide)⟩
theorem L_58 {x : nM} {nt nm md s : Nat} (h : q_L x nt nm md s) (hs : s ≤ 8) (u v w : Int32) : p_declare_58 x u v w ∧ q_L (k_declare_58 x u v w) nt (nm + 1) md (s + 2) ∧ (x.1 3 ≠ 0 → q_L (k_declare_58 x u v w) nt (nm + 1) md (s + 1)) := by
  have hn := h.nm
  obtain ⟨ty, a, b, g1, g2, g3, g4, g5⟩ := h
  have hi : vp_in (x.1 15) 100 := by rw [g4]; exact vp_in_nI (by omega) (by decide)
  have g : q_L (nm_f (nm_a (nm_a (nm_a (nm_a (nm_a x 16 (x.1 15) (x.1 5)) 17 (x.1 15) u) 18 (x.1 15) (x.1 21)) 19 (x.1 15) v) 20 (x.1 15) w) 15 ((x.1 15) + 1)) nt (nm + 1) md (s + 2) :=
    ⟨ty, a, b, g1.cong rfl rfl rfl rfl, by omega, g3, by rw [q_f1, if_pos rfl, g4]; exact nI_1 nm, g5⟩
  have k := L_goOn g
  exact ⟨⟨hi, hi, hi, hi, hi, k.1, trivial⟩, k.2, fun h3 => (L_goOn1 g h3).2⟩
theorem L_declare {x : nM} {nt nm md s : Nat} (h : q_L x nt nm md s) (hs : s ≤ 8) (u v w : Int32) : o_declare x u v w ∧ q_L (m_declare x u v w) nt (nm + 1) md (s + 2) ∧ ((m_declare x u v w).1 7 = 0 → q_L (m_declare x u v w) nt (nm + 1) md (s + 1)) := by
  have hn := h.nm
  have h15 : x.1 15 = nI nm := by obtain ⟨_, _, _, _, _, _, g, _⟩ := h; exact g
  obtain ⟨k1, k2⟩ := L_find h15 (by omega) (x.1 5)
  have d0 := L_58 h hs u v w
  have d1 := L_58 (L_fail h 1 (x.1 4)) hs u v w
  have d3 := L_58 (L_fail h 3 (x.1 4)) hs u v w
  have e3 : (m_fail x 3 (x.1 4)).1 3 = x.1 3 := f_fail _ _ _ _ (by decide) (by decide)
  rw [o_declare, m_declare]
  by_cases hc : x.1 3 = 2
  · rw [if_pos hc]
    have hz : x.1 3 ≠ 0 := by rw [hc]; decide
    rcases k2 with k2 | ⟨k, hk, k2, -⟩
    · rw [k2, if_pos q_m1]
      refine ⟨⟨k1, fun _ => ⟨fun _ => d0.1, fun h => absurd q_m1 h⟩, fun h => absurd hc h⟩, d0.2.1, fun _ => d0.2.2 hz⟩
    · have h0 : ¬ nI k < 0 := nI_pos (by omega)
      rw [k2, if_neg h0]
      have hi : vp_in (nI k) 100 := q_in (by omega) (by decide)
      by_cases hl : nm_g x 18 (nI k) = x.1 21
      · rw [if_pos hl]
        exact ⟨⟨k1, fun _ => ⟨fun h => absurd h h0, fun _ => ⟨hi, fun _ => d3.1, fun h => absurd hl h⟩⟩, fun h => absurd hc h⟩, d3.2.1, fun _ => d3.2.2 (by rw [e3]; exact hz)⟩
      · rw [if_neg hl]
        exact ⟨⟨k1, fun _ => ⟨fun h => absurd h h0, fun _ => ⟨hi, fun h => absurd h hl, fun _ => d0.1⟩⟩, fun h => absurd hc h⟩, d0.2.1, fun _ => d0.2.2 hz⟩
  · rw [if_neg hc]
    refine ⟨⟨k1, fun h => absurd h hc, fun _ => d1.1⟩, d1.2.1, ?_⟩
    intro h7
    exfalso
    rw [k_declare_58, f_goOn _ 7 (by decide) (by decide) (by decide) (by decide)] at h7
    exact e_fail (by decide) h7
theorem f_58 (x : nM) (u v w : Int32) (k : Nat) (h3 : k ≠ 3) (h4 : k ≠ 4) (h5 : k ≠ 5) (h6 : k ≠ 6) : (k_declare_58 x u v w).1 k = if k = 15 then x.1 15 + 1 else x.1 k := by
  rw [k_declare_58, f_goOn _ k h3 h4 h5 h6, q_f1]; rfl
theorem g_58 (x : nM) (u v w : Int32) (nm : Nat) (h : x.1 15 = nI nm) (hn : nm < 2 ^ 31) (k : Nat) : (k_declare_58 x u v w).2 k = if k = 20 then upd (x.2 20) nm w else if k = 19 then upd (x.2 19) nm v else if k = 18 then upd (x.2 18) nm (x.1 21) else if k = 17 then upd (x.2 17) nm u else if k = 16 then upd (x.2 16) nm (x.1 5) else x.2 k := by
  rw [k_declare_58, g_goOn, q_f2, h]
  simp only [q_a2, nI_clamp hn]
  by_cases e20 : k = 20
  · simp [e20]
  · by_cases e19 : k = 19
    · simp [e19]
    · by_cases e18 : k = 18
      · simp [e18]
      · by_cases e17 : k = 17
        · simp [e17]
        · by_cases e16 : k = 16
          · simp [e16]
          · simp [e20, e19, e18, e17, e16]
theorem D_ok {x : nM} {u v w : Int32} (h : (m_declare x u v w).1 7 = 0) : x.1 3 = 2 ∧ x.1 7 = 0 ∧ m_declare x u v w = k_declare_58 x u v w := by
  rw [m_declare] at h ⊢
  by_cases hc : x.1 3 = 2
  · rw [if_pos hc] at h ⊢
    have key : (k_declare_58 x u v w).1 7 = 0 → x.1 7 = 0 := fun q => by
      rw [f_58 _ _ _ _ 7 (by decide) (by decide) (by decide) (by decide), if_neg (by decide)] at q
      exact q
    by_cases c1 : m_find x (x.1 5) < 0
    · rw [if_pos c1] at h ⊢
      exact ⟨hc, key h, rfl⟩
    · rw [if_neg c1] at h ⊢
      by_cases c2 : nm_g x 18 (m_find x (x.1 5)) = x.1 21
      · rw [if_pos c2] at h
        rw [f_58 _ _ _ _ 7 (by decide) (by decide) (by decide) (by decide), if_neg (by decide)] at h
        exact absurd h (e_fail (by decide))
      · rw [if_neg c2] at h ⊢
        exact ⟨hc, key h, rfl⟩
  · rw [if_neg hc] at h
    rw [f_58 _ _ _ _ 7 (by decide) (by decide) (by decide) (by decide), if_neg (by decide)] at h
    exact absurd h (e_fail (by decide))
/-- a variable or an array at place j of the names, within so many cells -/
def q_vr (y : nM) (lv : Int32) (cb j : Nat) : Prop := y.2 18 j = lv ∧ ∃ a, y.2 19 j = nI a ∧ 3 ≤ a ∧ ((y.2 17 j = 0 ∧ a < cb) ∨ (y.2 17 j = 1 ∧ ∃ m, y.2 20 j = nI m ∧ 1 ≤ m ∧ m ≤ 30 ∧ a + m ≤ cb))
/-- the variables of a block, so far -/
def q_VS (x0 y : nM) (nt nm0 nm md cb : Nat) : Prop := q_L y nt nm md 1 ∧ y.1 22 = nI cb ∧ 3 ≤ cb ∧ cb ≤ 3 + 30 * nm ∧ nm0 ≤ nm ∧ (∀ j, nm0 ≤ j → j < nm → q_vr y (x0.1 21) cb j) ∧ (∀ k j, j < nm0 → y.2 k j = x0.2 k j) ∧
  (∀ k, k ≠ 3 → k ≠ 4 → k ≠ 5 → k ≠ 6 → k ≠ 15 → k ≠ 22 → y.1 k = x0.1 k) ∧ (∀ k, k < 16 ∨ 20 < k → y.2 k = x0.2 k)
/-! the variables of a block -/
def q_VG (x0 : nM) (nt nm0 md : Nat) (res : nM) (pr : Prop) : Prop := pr ∧ ∃ nm', q_L res nt nm' md 6 ∧ (res.1 7 = 0 → ∃ cb', q_VS x0 res nt nm0 nm' md cb')
theorem V_err {n : Nat} {y : nM} {v1 v2 : Int32} (hn : 1 ≤ n) (h7 : y.1 7 ≠ 0) : k_variables_17 n y v1 v2 = y ∧ p_variables_17 n y v1 v2 := by
  obtain ⟨n, rfl⟩ : ∃ m, n = m + 1 := ⟨n - 1, by omega⟩
  rw [k_variables_17, p_variables_17]
  refine ⟨?_, fun _ => trivial, fun _ => ⟨fun _ => trivial, fun _ => ⟨fun h => absurd h h7, fun _ => trivial⟩⟩⟩
  split
  · rfl
  · split
    · rfl
    · first | rfl | rw [if_neg h7]
theorem V_e147 {x0 z : nM} {nt nm0 nm' md n : Nat} {v2 v3 : Int32} (hn : 1 ≤ n) (h7 : z.1 7 ≠ 0) (h : q_L z nt nm' md 6) : q_VG x0 nt nm0 md (k_variables_147 (k_variables_17 n) z v2 v3) (p_variables_147 (p_variables_17 n) z v2 v3) := by
  rw [k_variables_147, p_variables_147, if_neg h7]
  have h7' : (nm_f z 22 (z.1 22 + v3)).1 7 ≠ 0 := by rw [q_f1, if_neg (by decide)]; exact h7
  have hl : q_L (nm_f z 22 (z.1 22 + v3)) nt nm' md 6 := h.f 22 _ (by decide)
  refine ⟨⟨fun q => absurd q h7, fun _ => ⟨fun _ => (V_err hn h7').2, fun _ => (V_err hn h7').2⟩⟩, nm', ?_⟩
  rw [k_variables_170]
  split <;> (rw [k_variables_183, (V_err hn h7').1]; exact ⟨hl, fun q => absurd q h7'⟩)
theorem V_s147 {x0 z : nM} {nt nm0 nm' md n cb m : Nat} {v2 : Int32} (hn : 1 ≤ n) (h7 : z.1 7 = 0) (h : q_L z nt nm' md 2) (h22 : z.1 22 = nI cb)
    (ih : ∀ w, (m_goOn (nm_f z 22 (nI (cb + m)))).1 7 = 0 → q_L (m_goOn (nm_f z 22 (nI (cb + m)))) nt nm' md 1 → q_VG x0 nt nm0 md (k_variables_17 n (m_goOn (nm_f z 22 (nI (cb + m)))) w (v2 + 1)) (p_variables_17 n (m_goOn (nm_f z 22 (nI (cb + m)))) w (v2 + 1))) :
    q_VG x0 nt nm0 md (k_variables_147 (k_variables_17 n) z v2 (nI m)) (p_variables_147 (p_variables_17 n) z v2 (nI m)) := by
  rw [k_variables_147, p_variables_147, if_pos h7, h22, nI_add]
  have hl : q_L (nm_f z 22 (nI (cb + m))) nt nm' md 2 := h.f 22 _ (by decide)
  have h7' : (nm_f z 22 (nI (cb + m))).1 7 = 0 := by rw [q_f1, if_neg (by decide)]; exact h7
  have ho := (L_expect hl 59).1
  by_cases hc : (nm_f z 22 (nI (cb + m))).1 3 = 59
  · have e : m_expect (nm_f z 22 (nI (cb + m))) 59 = m_goOn (nm_f z 22 (nI (cb + m))) := by rw [m_expect, if_pos hc]
    rw [e]
    have hl1 := (L_goOn1 hl (by rw [hc]; decide)).2
    have h71 : (m_goOn (nm_f z 22 (nI (cb + m)))).1 7 = 0 := by rw [f_goOn _ 7 (by decide) (by decide) (by decide) (by decide)]; exact h7'
    have ih1 := ih 1 h71 hl1
    have ih0 := ih 0 h71 hl1
    refine ⟨⟨fun _ => ⟨ho, fun _ => ih1.1, fun _ => ih0.1⟩, fun q => absurd h7 q⟩, ?_⟩
    rw [k_variables_170]
    split <;> rw [k_variables_183]
    · exact ih1.2
    · exact ih0.2
  · have e : m_expect (nm_f z 22 (nI (cb + m))) 59 = m_fail (nm_f z 22 (nI (cb + m))) 1 ((nm_f z 22 (nI (cb + m))).1 4) := by rw [m_expect, if_neg hc]
    rw [e]
    have h72 := e_fail (x := nm_f z 22 (nI (cb + m))) (w := 1) (p := (nm_f z 22 (nI (cb + m))).1 4) (by decide)
    have hl2 := (L_fail hl 1 ((nm_f z 22 (nI (cb + m))).1 4)).s (show 2 ≤ 6 by decide)
    refine ⟨⟨fun _ => ⟨ho, fun _ => (V_err hn h72).2, fun _ => (V_err hn h72).2⟩, fun q => absurd h7 q⟩, nm', ?_⟩
    rw [k_variables_170]
    split <;> (rw [k_variables_183, (V_err hn h72).1]; exact ⟨hl2, fun q => absurd q h72⟩)
theorem V_e114 {x0 z : nM} {nt nm0 nm md n : Nat} {v2 : Int32} (hn : 1 ≤ n) (h7 : z.1 7 ≠ 0) (h : q_L z nt (nm + 1) md 6) : q_VG x0 nt nm0 md (k_variables_114 (k_variables_17 n) z v2) (p_variables_114 (p_variables_17 n) z v2) := by
  have h15 : z.1 15 = nI (nm + 1) := by obtain ⟨_, _, _, _, _, _, g, _⟩ := h; exact g
  have hnm := h.nm
  have hi : vp_in (z.1 15 - 1) 100 := by rw [h15, nz_dm]; exact q_in (by omega) (by decide)
  have g := L_goOn ((h.a 17 (z.1 15 - 1) 1).a 20 (z.1 15 - 1) (z.1 5))
  have g7 : (m_goOn (nm_a (nm_a z 17 (z.1 15 - 1) 1) 20 (z.1 15 - 1) (z.1 5))).1 7 ≠ 0 := by rw [f_goOn _ 7 (by decide) (by decide) (by decide) (by decide)]; exact h7
  have k := V_e147 (x0 := x0) (nm0 := nm0) (v2 := v2) (v3 := z.1 5) hn g7 g.2
  exact ⟨⟨hi, hi, g.1, k.1⟩, k.2⟩
theorem V_loop {x0 : nM} {nt nm0 md : Nat} : ∀ (n r : Nat) (x : nM) (nm cb : Nat) (v1 : Int32), 180 - r < n → r ≤ 180 → x.1 7 = 0 → q_VS x0 x nt nm0 nm md cb → q_VG x0 nt nm0 md (k_variables_17 n x v1 (nI r)) (p_variables_17 n x v1 (nI r)) := by
  intro n
  induction n with
  | zero => intro r x nm cb v1 h; omega
  | succ n ih =>
    intro r x nm cb v1 hn hr h7 hv
    obtain ⟨hl, h22, h3, hcb, h0, hvr, hold, hfl, har⟩ := id hv
    rw [k_variables_17, p_variables_17]
    by_cases c1 : (180 : Int32) ≤ nI r
    · rw [if_pos c1]
      exact ⟨⟨fun _ => trivial, fun q => absurd c1 q⟩, nm, hl.s (by decide), fun _ => ⟨cb, hv⟩⟩
    rw [if_neg c1]
    by_cases c2 : v1 = 0
    · rw [if_pos c2]
      exact ⟨⟨fun q => absurd q c1, fun _ => ⟨fun _ => trivial, fun q => absurd c2 q⟩⟩, nm, hl.s (by decide), fun _ => ⟨cb, hv⟩⟩
    rw [if_neg c2, if_pos h7]
    have hr' : r < 180 := by
      rcases Nat.lt_or_ge r 180 with q | q
      · exact q
      · exact absurd (nI_le (a := 180) q (by omega)) c1
    have hnm := hl.nm
    have h15 : x.1 15 = nI nm := by obtain ⟨_, _, _, _, _, _, g, _⟩ := hl; exact g
    obtain ⟨d1, d2, d3⟩ := L_declare hl (by decide) 0 (x.1 22) 0
    suffices hk : q_VG x0 nt nm0 md (if (m_declare x 0 (x.1 22) 0).1 7 = 0 then (if (m_declare x 0 (x.1 22) 0).1 3 = 6 then (if (m_goOn (m_declare x 0 (x.1 22) 0)).1 3 = 3 then (if (m_goOn (m_declare x 0 (x.1 22) 0)).1 5 < 1 then k_variables_104 (k_variables_17 n) (m_goOn (m_declare x 0 (x.1 22) 0)) (nI r) else (if (m_goOn (m_declare x 0 (x.1 22) 0)).1 5 ≤ 30 then k_variables_114 (k_variables_17 n) (m_goOn (m_declare x 0 (x.1 22) 0)) (nI r) else k_variables_104 (k_variables_17 n) (m_goOn (m_declare x 0 (x.1 22) 0)) (nI r))) else k_variables_114 (k_variables_17 n) (m_fail (m_goOn (m_declare x 0 (x.1 22) 0)) 1 ((m_goOn (m_declare x 0 (x.1 22) 0)).1 4)) (nI r)) else k_variables_147 (k_variables_17 n) (m_declare x 0 (x.1 22) 0) (nI r) 1) else k_variables_147 (k_variables_17 n) (m_declare x 0 (x.1 22) 0) (nI r) 1) _ from ⟨⟨fun q => absurd q c1, fun _ => ⟨fun q => absurd q c2, fun _ => ⟨fun _ => ⟨d1, hk.1⟩, fun q => absurd h7 q⟩⟩⟩, hk.2⟩
    by_cases c3 : (m_declare x 0 (x.1 22) 0).1 7 = 0
    · obtain ⟨-, -, e58⟩ := D_ok c3
      have d3' := d3 c3
      generalize hy : m_declare x 0 (x.1 22) 0 = y at *
      have ef : ∀ k, k ≠ 3 → k ≠ 4 → k ≠ 5 → k ≠ 6 → y.1 k = if k = 15 then x.1 15 + 1 else x.1 k := fun k q3 q4 q5 q6 => by rw [e58]; exact f_58 x _ _ _ k q3 q4 q5 q6
      have eg : ∀ k, y.2 k = if k = 20 then upd (x.2 20) nm 0 else if k = 19 then upd (x.2 19) nm (x.1 22) else if k = 18 then upd (x.2 18) nm (x.1 21) else if k = 17 then upd (x.2 17) nm 0 else if k = 16 then upd (x.2 16) nm (x.1 5) else x.2 k := fun k => by rw [e58]; exact g_58 x _ _ _ nm h15 (by omega) k
      have y22 : y.1 22 = nI cb := by rw [ef 22 (by decide) (by decide) (by decide) (by decide), if_neg (by decide)]; exact h22
      have y15 : y.1 15 = nI (nm + 1) := by rw [ef 15 (by decide) (by decide) (by decide) (by decide), if_pos rfl, h15]; exact nI_1 nm
      have x21 : x.1 21 = x0.1 21 := hfl 21 (by decide) (by decide) (by decide) (by decide) (by decide) (by decide)
      have up : ∀ (f : Nat → Int32) (w : Int32) (j : Nat), j < nm → upd f nm w j = f j := fun f w j hj => by
        show (if j = nm then w else f j) = f j
        rw [if_neg (by omega)]
      have yold : ∀ k j, j < nm → y.2 k j = x.2 k j := fun k j hj => by
        rw [eg k]
        by_cases e20 : k = 20
        · rw [if_pos e20, e20]; exact up _ _ _ hj
        rw [if_neg e20]
        by_cases e19 : k = 19
        · rw [if_pos e19, e19]; exact up _ _ _ hj
        rw [if_neg e19]
        by_cases e18 : k = 18
        · rw [if_pos e18, e18]; exact up _ _ _ hj
        rw [if_neg e18]
        by_cases e17 : k = 17
        · rw [if_pos e17, e17]; exact up _ _ _ hj
        rw [if_neg e17]
        by_cases e16 : k = 16
        · rw [if_pos e16, e16]; exact up _ _ _ hj
        rw [if_neg e16]
      have un : ∀ (f : Nat → Int32) (w : Int32), upd f nm w nm = w := fun f w => by
        show (if nm = nm then w else f nm) = w
        rw [if_pos rfl]
      have y18 : y.2 18 nm = x0.1 21 := by rw [eg 18, if_neg (by decide), if_neg (by decide), if_pos rfl, un]; exact x21
      have y19 : y.2 19 nm = nI cb := by rw [eg 19, if_neg (by decide), if_pos rfl, un]; exact h22
      have y17 : y.2 17 nm = 0 := by rw [eg 17, if_neg (by decide), if_neg (by decide), if_neg (by decide), if_pos rfl, un]
      have yar : ∀ k, k < 16 ∨ 20 < k → y.2 k = x0.2 k := fun k hk => by
        rw [eg k, if_neg (by omega), if_neg (by omega), if_neg (by omega), if_neg (by omega), if_neg (by omega)]; exact har k hk
      have vmono : ∀ (z : nM) (cb' j : Nat), (∀ k, z.2 k j = x.2 k j) → cb ≤ cb' → q_vr x (x0.1 21) cb j → q_vr z (x0.1 21) cb' j := fun z cb' j hz hc ⟨g1, a, g2, g3, g4⟩ => by
        refine ⟨by rw [hz]; exact g1, a, by rw [hz]; exact g2, g3, ?_⟩
        rcases g4 with ⟨q1, q2⟩ | ⟨q1, m, q2, q3, q4, q5⟩
        · exact Or.inl ⟨by rw [hz]; exact q1, by omega⟩
        · exact Or.inr ⟨by rw [hz]; exact q1, m, by rw [hz]; exact q2, q3, q4, by omega⟩
      rw [if_pos c3]
      by_cases c4 : y.1 3 = 6
      · rw [if_pos c4]
        obtain ⟨o2, l2⟩ := L_goOn1 d3' (by rw [c4]; decide)
        have z15 : (m_goOn y).1 15 = nI (nm + 1) := by rw [f_goOn _ 15 (by decide) (by decide) (by decide) (by decide)]; exact y15
        have z7 : (m_goOn y).1 7 = 0 := by rw [f_goOn _ 7 (by decide) (by decide) (by decide) (by decide)]; exact c3
        have bad : ∀ w p, w ≠ 0 → q_VG x0 nt nm0 md (k_variables_114 (k_variables_17 n) (m_fail (m_goOn y) w p) (nI r)) (p_variables_114 (p_variables_17 n) (m_fail (m_goOn y) w p) (nI r)) := fun w p hw => V_e114 (by omega) (e_fail hw) ((L_fail l2 w p).s (by omega))
        by_cases c5 : (m_goOn y).1 3 = 3
        · rw [if_pos c5]
          have b6 := bad 6 ((m_goOn y).1 4) (by decide)
          by_cases c6 : (m_goOn y).1 5 < 1
          · rw [if_pos c6]
            exact ⟨⟨fun _ => ⟨fun _ => ⟨o2, fun _ => ⟨fun _ => b6.1, fun q => absurd c6 q⟩, fun q => absurd c5 q⟩, fun q => absurd c4 q⟩, fun q => absurd c3 q⟩, b6.2⟩
          rw [if_neg c6]
          by_cases c7 : (m_goOn y).1 5 ≤ 30
          · rw [if_pos c7]
            suffices hk : q_VG x0 nt nm0 md (k_variables_114 (k_variables_17 n) (m_goOn y) (nI r)) (p_variables_114 (p_variables_17 n) (m_goOn y) (nI r)) from
              ⟨⟨fun _ => ⟨fun _ => ⟨o2, fun _ => ⟨fun q => absurd q c6, fun _ => ⟨fun _ => hk.1, fun q => absurd c7 q⟩⟩, fun q => absurd c5 q⟩, fun q => absurd c4 q⟩, fun q => absurd c3 q⟩, hk.2⟩
            obtain ⟨m, hm, em⟩ : ∃ m, m ≤ 30 ∧ (m_goOn y).1 5 = nI m := by
              refine nI_of2 (M := 30) (n := 30) (by decide) (fun q => c6 ?_) c7
              exact Int32.lt_iff_toInt_lt.mpr (by have := Int32.lt_iff_toInt_lt.mp q; rw [Int32.toInt_zero] at this; rw [show (1 : Int32).toInt = 1 by decide]; omega)
            have hm1 : 1 ≤ m := by
              rcases Nat.lt_or_ge 0 m with q | q
              · exact q
              · exfalso; apply c6; rw [em, show m = 0 by omega]; decide
            rw [k_variables_114, p_variables_114, em, z15, nz_dm]
            have hi : vp_in (nI nm) 100 := q_in (by omega) (by decide)
            have la := L_goOn ((l2.a 17 (nI nm) 1).a 20 (nI nm) (nI m))
            have f3 : ∀ k, k ≠ 3 → k ≠ 4 → k ≠ 5 → k ≠ 6 → (m_goOn (nm_a (nm_a (m_goOn y) 17 (nI nm) 1) 20 (nI nm) (nI m))).1 k = y.1 k := fun k q3 q4 q5 q6 => by
              rw [f_goOn _ k q3 q4 q5 q6]
              show (m_goOn y).1 k = _
              rw [f_goOn _ k q3 q4 q5 q6]
            have g3 : ∀ k, (m_goOn (nm_a (nm_a (m_goOn y) 17 (nI nm) 1) 20 (nI nm) (nI m))).2 k = if k = 20 then upd (y.2 20) nm (nI m) else if k = 17 then upd (y.2 17) nm 1 else y.2 k := fun k => by
              rw [g_goOn, q_a2, nI_clamp (by omega), q_a2, nI_clamp (by omega), g_goOn, q_a2, nI_clamp (by omega), g_goOn]
              by_cases e20 : k = 20
              · simp [e20]
              · simp [e20]
            have k147 := V_s147 (x0 := x0) (nm0 := nm0) (z := m_goOn (nm_a (nm_a (m_goOn y) 17 (nI nm) 1) 20 (nI nm) (nI m))) (cb := cb) (m := m) (n := n) (v2 := nI r) (by omega) (by rw [f3 7 (by decide) (by decide) (by decide) (by decide)]; exact c3) (la.2.s (by omega)) (by rw [f3 22 (by decide) (by decide) (by decide) (by decide)]; exact y22) (by
              intro w q7 ql
              rw [nI_1]
              refine ih (r + 1) _ (nm + 1) (cb + m) w (by omega) (by omega) q7 ⟨ql, ?_, by omega, by omega, by omega, ?_, ?_, ?_, ?_⟩
              · rw [f_goOn _ 22 (by decide) (by decide) (by decide) (by decide)]; rfl
              · intro j hj1 hj2
                have ez : ∀ k, (m_goOn (nm_f (m_goOn (nm_a (nm_a (m_goOn y) 17 (nI nm) 1) 20 (nI nm) (nI m))) 22 (nI (cb + m)))).2 k = if k = 20 then upd (y.2 20) nm (nI m) else if k = 17 then upd (y.2 17) nm 1 else y.2 k := fun k => by rw [g_goOn]; exact g3 k
                by_cases ej : j = nm
                · subst ej
                  refine ⟨?_, cb, ?_, h3, Or.inr ⟨?_, m, ?_, hm1, hm, Nat.le_refl _⟩⟩
                  · rw [ez 18, if_neg (by decide), if_neg (by decide)]; exact y18
                  · rw [ez 19, if_neg (by decide), if_neg (by decide)]; exact y19
                  · rw [ez 17, if_neg (by decide), if_pos rfl, un]
                  · rw [ez 20, if_pos rfl, un]
                · refine vmono _ _ j (fun k => ?_) (by omega) (hvr j hj1 (by omega))
                  rw [ez k]
                  by_cases e20 : k = 20
                  · rw [if_pos e20, e20, up _ _ _ (by omega)]; exact yold 20 j (by omega)
                  rw [if_neg e20]
                  by_cases e17 : k = 17
                  · rw [if_pos e17, e17, up _ _ _ (by omega)]; exact yold 17 j (by omega)
                  rw [if_neg e17]; exact yold k j (by omega)
              · intro k j hj
                rw [g_goOn, q_f2, g3 k]
                have hh : y.2 k j = x0.2 k j := (yold k j (by omega)).trans (hold k j hj)
                by_cases e20 : k = 20
                · rw [if_pos e20, e20, up _ _ _ (by omega), ← e20]; exact hh
                rw [if_neg e20]
                by_cases e17 : k = 17
                · rw [if_pos e17, e17, up _ _ _ (by omega), ← e17]; exact hh
                rw [if_neg e17]; exact hh
              · intro k q3 q4 q5 q6 q15 q22
                rw [f_goOn _ k q3 q4 q5 q6, q_f1, if_neg q22, f3 k q3 q4 q5 q6, ef k q3 q4 q5 q6, if_neg q15]
                exact hfl k q3 q4 q5 q6 q15 q22
              · intro k hk
                rw [g_goOn, q_f2, g3 k, if_neg (by omega), if_neg (by omega)]; exact yar k hk)
            exact ⟨⟨hi, hi, la.1, k147.1⟩, k147.2⟩
          · rw [if_neg c7]
            exact ⟨⟨fun _ => ⟨fun _ => ⟨o2, fun _ => ⟨fun q => absurd q c6, fun _ => ⟨fun q => absurd q c7, fun _ => b6.1⟩⟩, fun q => absurd c5 q⟩, fun q => absurd c4 q⟩, fun q => absurd c3 q⟩, b6.2⟩
        · rw [if_neg c5]
          have b1 := bad 1 ((m_goOn y).1 4) (by decide)
          exact ⟨⟨fun _ => ⟨fun _ => ⟨o2, fun q => absurd q c5, fun _ => b1.1⟩, fun q => absurd c4 q⟩, fun q => absurd c3 q⟩, b1.2⟩
      · rw [if_neg c4]
        have k147 := V_s147 (x0 := x0) (nm0 := nm0) (z := y) (cb := cb) (m := 1) (n := n) (v2 := nI r) (by omega) c3 d3' y22 (by
          intro w q7 ql
          rw [nI_1]
          refine ih (r + 1) _ (nm + 1) (cb + 1) w (by omega) (by omega) q7 ⟨ql, ?_, by omega, by omega, by omega, ?_, ?_, ?_, ?_⟩
          · rw [f_goOn _ 22 (by decide) (by decide) (by decide) (by decide)]; rfl
          · intro j hj1 hj2
            have ez : ∀ k, (m_goOn (nm_f y 22 (nI (cb + 1)))).2 k = y.2 k := fun k => by rw [g_goOn]; rfl
            by_cases ej : j = nm
            · subst ej
              exact ⟨by rw [ez]; exact y18, cb, by rw [ez]; exact y19, h3, Or.inl ⟨by rw [ez]; exact y17, by omega⟩⟩
            · exact vmono _ _ j (fun k => by rw [ez]; exact yold k j (by omega)) (by omega) (hvr j hj1 (by omega))
          · intro k j hj
            rw [g_goOn, q_f2]
            exact (yold k j (by omega)).trans (hold k j hj)
          · intro k q3 q4 q5 q6 q15 q22
            rw [f_goOn _ k q3 q4 q5 q6, q_f1, if_neg q22, ef k q3 q4 q5 q6, if_neg q15]
            exact hfl k q3 q4 q5 q6 q15 q22
          · intro k hk
            rw [g_goOn, q_f2]; exact yar k hk)
        exact ⟨⟨fun _ => ⟨fun q => absurd q c4, fun _ => k147.1⟩, fun q => absurd c3 q⟩, k147.2⟩
    · rw [if_neg c3]
      have k := V_e147 (x0 := x0) (nm0 := nm0) (v2 := nI r) (v3 := 1) (n := n) (by omega) c3 (d2.s (by omega))
      exact ⟨⟨fun q => absurd q c3, fun _ => k.1⟩, k.2⟩
theorem q_L.h15 {x : nM} {nt nm md s : Nat} (h : q_L x nt nm md s) : x.1 15 = nI nm := by obtain ⟨_, _, _, _, _, _, g, _⟩ := h; exact g
theorem q_L.h11 {x : nM} {nt nm md s : Nat} (h : q_L x nt nm md s) : x.1 11 = nI nt := by obtain ⟨_, _, _, _, _, g, _⟩ := h; exact g
theorem q_L.h25 {x : nM} {nt nm md s : Nat} (h : q_L x nt nm md s) : x.1 25 = nI md := by obtain ⟨_, _, _, _, _, _, _, g⟩ := h; exact g
theorem V_var {x : nM} {nt nm md : Nat} (h : q_L x nt nm md 1) (h7 : x.1 7 = 0) (h22 : x.1 22 = nI 3) : o_variables x ∧ ∃ nm', q_L (m_variables x) nt nm' md 6 ∧ ((m_variables x).1 7 = 0 → ∃ cb', q_VS x (m_variables x) nt nm nm' md cb') := by
  rw [o_variables, m_variables]
  by_cases hc : x.1 3 = 4
  · rw [if_pos hc]
    obtain ⟨o1, l1⟩ := L_goOn1 h (by rw [hc]; decide)
    have g7 : (m_goOn x).1 7 = 0 := by rw [f_goOn _ 7 (by decide) (by decide) (by decide) (by decide)]; exact h7
    have hv : q_VS x (m_goOn x) nt nm nm md 3 := ⟨l1.s (by omega), by rw [f_goOn _ 22 (by decide) (by decide) (by decide) (by decide)]; exact h22, by omega, by omega, Nat.le_refl _, fun j h1 h2 => by omega, fun k j _ => by rw [g_goOn], fun k q3 q4 q5 q6 _ _ => f_goOn _ k q3 q4 q5 q6, fun k _ => by rw [g_goOn]⟩
    have g := V_loop 300 0 (m_goOn x) nm 3 1 (by omega) (by omega) g7 hv
    exact ⟨⟨fun _ => ⟨o1, g.1⟩, fun q => absurd hc q⟩, g.2⟩
  · rw [if_neg hc]
    exact ⟨⟨fun q => absurd q hc, fun _ => trivial⟩, nm, h.s (by omega), fun _ => ⟨3, h, h22, by omega, by omega, Nat.le_refl _, fun j h1 h2 => by omega, fun _ _ _ => rfl, fun _ _ _ _ _ _ _ => rfl, fun _ _ => rfl⟩⟩
/-! a procedure's head -/
/-- behind its parameters: c of them, from place na of the names on -/
def q_PV (x0 y : nM) (nt na c md s : Nat) : Prop := q_L y nt (na + c) md s ∧ (∀ k, k < c → y.2 17 (na + k) = 0 ∧ y.2 18 (na + k) = x0.1 21) ∧ (∀ k j, j < na → y.2 k j = x0.2 k j) ∧ (∀ k, k ≠ 3 → k ≠ 4 → k ≠ 5 → k ≠ 6 → k ≠ 15 → y.1 k = x0.1 k) ∧ (∀ k, k < 16 ∨ 20 < k → y.2 k = x0.2 k)
/-- behind the whole head -/
def q_PE (x0 y : nM) (nt na n md : Nat) : Prop := q_L y (nt + 1) (na + n) md 1 ∧ y.1 23 = nI n ∧ n ≤ 3 ∧ (∀ k, k < n → y.2 17 (na + k) = 0 ∧ y.2 18 (na + k) = x0.1 21 ∧ y.2 19 (na + k) = nI k - nI n) ∧ y.2 20 (na - 1) = nI n ∧ (∀ k j, j < na → (k ≠ 20 ∨ j ≠ na - 1) → (k < 12 ∨ 14 < k) → y.2 k j = x0.2 k j) ∧
  (∀ k, k ≠ 3 → k ≠ 4 → k ≠ 5 → k ≠ 6 → k ≠ 11 → k ≠ 15 → k ≠ 23 → y.1 k = x0.1 k) ∧ (∀ k, k < 12 ∨ (14 < k ∧ k < 16) ∨ 20 < k → y.2 k = x0.2 k) ∧ (∀ j, j < nt → y.2 12 j = x0.2 12 j ∧ y.2 13 j = x0.2 13 j ∧ y.2 14 j = x0.2 14 j) ∧ y.2 12 nt = 0
def q_PG (x0 : nM) (nt na md : Nat) (res : nM) (pr : Prop) : Prop := pr ∧ (res.1 7 = 0 → ∃ n, q_PE x0 res nt na n md)
theorem P_227 {y : nM} {nt nm md s : Nat} (h : q_L y nt nm md s) (hn : nt < 260) : p_procedure_227 y := ⟨(L_push h hn 0 0 0).1, trivial⟩
/-- with an error the rest is passed through -/
theorem P_e178 {nt na md : Nat} (hn : nt < 260) (hna : 1 ≤ na) (h9 : na + 3 < 100) : ∀ (f i n : Nat) (y : nM), y.1 7 ≠ 0 → n ≤ 3 → i ≤ n → n - i < f → (∃ nm, q_L y nt nm md 6) → p_procedure_178 f y (nI (na - 1)) (nI n) (nI i) ∧ (k_procedure_178 f y (nI (na - 1)) (nI n) (nI i)).1 7 ≠ 0 := by
  intro f
  induction f with
  | zero => intro i n y _ _ _ h; omega
  | succ f ih =>
    intro i n y h7 hn3 hi hf hl
    obtain ⟨nm, hl⟩ := hl
    rw [k_procedure_178, p_procedure_178]
    by_cases c : nI n ≤ nI i
    · rw [if_pos c, if_neg h7]
      refine ⟨⟨fun _ => ⟨q_in (by omega) (by decide), fun q => absurd q h7, fun _ => P_227 ((hl.a 20 _ _).f 23 _ (by decide)) hn⟩, fun q => absurd c q⟩, ?_⟩
      show (m_push _ 0 0 0).1 7 ≠ 0
      exact h7
    · rw [if_neg c]
      have hlt : i < n := by
        rcases Nat.lt_or_ge i n with q | q
        · exact q
        · exact absurd (nI_le q (by omega)) c
      have e : nI (na - 1) + 1 + nI i = nI (na + i) := by rw [nI_1, nI_add]; congr 1; omega
      rw [e, nI_1]
      obtain ⟨k1, k2⟩ := ih (i + 1) n (nm_a y 19 (nI (na + i)) (nI i - nI n)) h7 hn3 (by omega) (by omega) ⟨nm, hl.a _ _ _⟩
      exact ⟨⟨fun q => absurd q c, fun _ => ⟨q_in (by omega) (by decide), k1⟩⟩, k2⟩
/-- the parameters' places -/
theorem P_178 {x0 : nM} {nt na md : Nat} (hn : nt < 260) (hna : 1 ≤ na) (h9 : na + 3 < 100) : ∀ (f i n : Nat) (y : nM), y.1 7 = 0 → n ≤ 3 → i ≤ n → n - i < f → q_PV x0 y nt na n md 2 → (∀ k, k < i → y.2 19 (na + k) = nI k - nI n) →
    q_PG x0 nt na md (k_procedure_178 f y (nI (na - 1)) (nI n) (nI i)) (p_procedure_178 f y (nI (na - 1)) (nI n) (nI i)) := by
  intro f
  induction f with
  | zero => intro i n y _ _ _ h; omega
  | succ f ih =>
    intro i n y h7 hn3 hi hf hv hpl
    rw [k_procedure_178, p_procedure_178]
    obtain ⟨hl, hp, hold, hfl, har⟩ := id hv
    by_cases c : nI n ≤ nI i
    · have hin : i = n := by
        rcases Nat.lt_or_ge i n with q | q
        · exact absurd c (nI_ge q (by omega))
        · omega
      subst hin
      rw [if_pos c, if_pos h7]
      have hlb : q_L (nm_f (nm_a y 20 (nI (na - 1)) (nI i)) 23 (nI i)) nt (na + i) md 2 := (hl.a 20 _ _).f 23 _ (by decide)
      obtain ⟨o1, l1⟩ := L_expect hlb 59
      have o2 := P_227 l1 hn
      refine ⟨⟨fun _ => ⟨q_in (by omega) (by decide), fun _ => ⟨o1, o2⟩, fun q => absurd h7 q⟩, fun q => absurd c q⟩, ?_⟩
      intro r7
      rw [k_procedure_227] at r7 ⊢
      have r7' : (m_expect (nm_f (nm_a y 20 (nI (na - 1)) (nI i)) 23 (nI i)) 59).1 7 = 0 := r7
      by_cases c3 : (nm_f (nm_a y 20 (nI (na - 1)) (nI i)) 23 (nI i)).1 3 = 59
      · have e : m_expect (nm_f (nm_a y 20 (nI (na - 1)) (nI i)) 23 (nI i)) 59 = m_goOn (nm_f (nm_a y 20 (nI (na - 1)) (nI i)) 23 (nI i)) := by rw [m_expect, if_pos c3]
        rw [e]
        have l2 := (L_goOn1 hlb (by rw [c3]; decide)).2
        have l3 := (L_push l2 hn 0 0 0).2
        have f2 : ∀ k, k ≠ 3 → k ≠ 4 → k ≠ 5 → k ≠ 6 → k ≠ 11 → (m_push (m_goOn (nm_f (nm_a y 20 (nI (na - 1)) (nI i)) 23 (nI i))) 0 0 0).1 k = if k = 23 then nI i else y.1 k := fun k q3 q4 q5 q6 q11 => by
          rw [m_push, q_f1, if_neg q11]
          show (m_goOn _).1 k = _
          rw [f_goOn _ k q3 q4 q5 q6]; rfl
        have h11 : (m_goOn (nm_f (nm_a y 20 (nI (na - 1)) (nI i)) 23 (nI i))).1 11 = nI nt := l2.h11
        have g2 : ∀ k, (m_push (m_goOn (nm_f (nm_a y 20 (nI (na - 1)) (nI i)) 23 (nI i))) 0 0 0).2 k = if k = 14 then upd (y.2 14) nt 0 else if k = 13 then upd (y.2 13) nt 0 else if k = 12 then upd (y.2 12) nt 0 else if k = 20 then upd (y.2 20) (na - 1) (nI i) else y.2 k := fun k => by
          rw [m_push, q_f2, h11]
          simp only [q_a2, nI_clamp (show nt < 2 ^ 31 by omega), g_goOn, q_f2, nI_clamp (show na - 1 < 2 ^ 31 by omega)]
          by_cases e14 : k = 14
          · simp [e14]
          by_cases e13 : k = 13
          · simp [e13]
          by_cases e12 : k = 12
          · simp [e12]
          simp [e14, e13, e12]
        have un : ∀ (f : Nat → Int32) (j : Nat) (w : Int32), upd f j w j = w := fun f j w => by show (if j = j then w else f j) = w; rw [if_pos rfl]
        have up : ∀ (f : Nat → Int32) (j i : Nat) (w : Int32), i ≠ j → upd f j w i = f i := fun f j i w h => by show (if i = j then w else f i) = f i; rw [if_neg h]
        refine ⟨i, l3.s (by omega), ?_, hn3, ?_, ?_, ?_, ?_, ?_, ?_, ?_⟩
        · rw [f2 23 (by decide) (by decide) (by decide) (by decide) (by decide), if_pos rfl]
        · intro k hk
          refine ⟨?_, ?_, ?_⟩
          · rw [g2 17, if_neg (by decide), if_neg (by decide), if_neg (by decide), if_neg (by decide)]; exact (hp k hk).1
          · rw [g2 18, if_neg (by decide), if_neg (by decide), if_neg (by decide), if_neg (by decide)]; exact (hp k hk).2
          · rw [g2 19, if_neg (by decide), if_neg (by decide), if_neg (by decide), if_neg (by decide)]; exact hpl k hk
        · rw [g2 20, if_neg (by decide), if_neg (by decide), if_neg (by decide), if_pos rfl, un]
        · intro k j hj hkj hk
          rw [g2 k, if_neg (by omega), if_neg (by omega), if_neg (by omega)]
          by_cases e20 : k = 20
          · rw [if_pos e20, e20, up _ _ _ _ (by omega)]; exact hold 20 j hj
          · rw [if_neg e20]; exact hold k j hj
        · intro k q3 q4 q5 q6 q11 q15 q23
          rw [f2 k q3 q4 q5 q6 q11, if_neg q23]; exact hfl k q3 q4 q5 q6 q15
        · intro k hk
          rw [g2 k, if_neg (by omega), if_neg (by omega), if_neg (by omega), if_neg (by omega)]; exact har k (by omega)
        · intro j hj
          refine ⟨?_, ?_, ?_⟩
          · rw [g2 12, if_neg (by decide), if_neg (by decide), if_pos rfl, up _ _ _ _ (by omega), har 12 (by omega)]
          · rw [g2 13, if_neg (by decide), if_pos rfl, up _ _ _ _ (by omega), har 13 (by omega)]
          · rw [g2 14, if_pos rfl, up _ _ _ _ (by omega), har 14 (by omega)]
        · rw [g2 12, if_neg (by decide), if_neg (by decide), if_pos rfl, un]
      · have e : m_expect (nm_f (nm_a y 20 (nI (na - 1)) (nI i)) 23 (nI i)) 59 = m_fail (nm_f (nm_a y 20 (nI (na - 1)) (nI i)) 23 (nI i)) 1 ((nm_f (nm_a y 20 (nI (na - 1)) (nI i)) 23 (nI i)).1 4) := by rw [m_expect, if_neg c3]
        rw [e] at r7'
        exact absurd r7' (e_fail (by decide))
    · rw [if_neg c]
      have hlt : i < n := by
        rcases Nat.lt_or_ge i n with q | q
        · exact q
        · exact absurd (nI_le q (by omega)) c
      have e : nI (na - 1) + 1 + nI i = nI (na + i) := by rw [nI_1, nI_add]; congr 1; omega
      rw [e, nI_1]
      have ga : ∀ k j, (nm_a y 19 (nI (na + i)) (nI i - nI n)).2 k j = if k = 19 ∧ j = na + i then nI i - nI n else y.2 k j := fun k j => by
        rw [q_a2, nI_clamp (by omega)]
        by_cases e19 : k = 19
        · rw [if_pos e19]
          show (if j = na + i then _ else _) = _
          by_cases ej : j = na + i
          · rw [if_pos ej, if_pos ⟨e19, ej⟩]
          · rw [if_neg ej, if_neg (fun q => ej q.2), e19]
        · rw [if_neg e19, if_neg (fun q => e19 q.1)]
      obtain ⟨k1, k2⟩ := ih (i + 1) n (nm_a y 19 (nI (na + i)) (nI i - nI n)) h7 hn3 (by omega) (by omega) ⟨hl.a _ _ _, fun k hk => by rw [ga, ga, if_neg (by omega), if_neg (by omega)]; exact hp k hk, fun k j hj => by rw [ga, if_neg (by omega)]; exact hold k j hj, hfl, fun k hk => by
          funext j; rw [ga, if_neg (by omega)]; exact congrFun (har k hk) j⟩ (fun k hk => by
          rw [ga]
          by_cases ek : k = i
          · rw [if_pos ⟨rfl, by omega⟩, ek]
          · rw [if_neg (by omega)]; exact hpl k (by omega))
      exact ⟨⟨fun q => absurd q c, fun _ => ⟨q_in (by omega) (by decide), k1⟩⟩, k2⟩
theorem P_176 {x0 y : nM} {nt na md n : Nat} (hn : nt < 260) (hna : 1 ≤ na) (h9 : na + 3 < 100) (hn3 : n ≤ 3) (hl6 : ∃ nm, q_L y nt nm md 6) (hv : y.1 7 = 0 → q_PV x0 y nt na n md 2) : q_PG x0 nt na md (k_procedure_176 y (nI (na - 1)) (nI n)) (p_procedure_176 y (nI (na - 1)) (nI n)) := by
  unfold k_procedure_176 p_procedure_176
  by_cases h7 : y.1 7 = 0
  · exact P_178 hn hna h9 300 0 n y h7 hn3 (by omega) (by omega) (hv h7) (fun k hk => by omega)
  · obtain ⟨k1, k2⟩ := P_e178 hn hna h9 300 0 n y h7 hn3 (by omega) (by omega) hl6
    exact ⟨k1, fun q => absurd q k2⟩
theorem P_163 {x0 y : nM} {nt na md n : Nat} (hn : nt < 260) (hna : 1 ≤ na) (h9 : na + 3 < 100) (hn3 : n ≤ 3) (hl6 : ∃ nm, q_L y nt nm md 6) (hv : y.1 7 = 0 → q_PV x0 y nt na n md 2) : q_PG x0 nt na md (k_procedure_163 y (nI (na - 1)) (nI n)) (p_procedure_163 y (nI (na - 1)) (nI n)) := by
  rw [k_procedure_163, p_procedure_163]
  by_cases h7 : y.1 7 = 0
  · rw [if_pos h7]
    obtain ⟨hl, hp, hold, hfl, har⟩ := hv h7
    obtain ⟨o1, l1⟩ := L_expect hl 41
    have k := P_176 (x0 := x0) (y := m_expect y 41) hn hna h9 hn3 ⟨_, l1.s (by omega)⟩ (fun q7 => by
      rw [m_expect] at q7 ⊢
      by_cases c : y.1 3 = 41
      · rw [if_pos c] at q7 ⊢
        exact ⟨(L_goOn1 hl (by rw [c]; decide)).2.s (by omega), fun k hk => by rw [g_goOn]; exact hp k hk, fun k j hj => by rw [g_goOn]; exact hold k j hj, fun k q3 q4 q5 q6 q15 => by rw [f_goOn _ k q3 q4 q5 q6]; exact hfl k q3 q4 q5 q6 q15, fun k hk => by rw [g_goOn]; exact har k hk⟩
      · rw [if_neg c] at q7
        exact absurd q7 (e_fail (by decide)))
    exact ⟨⟨fun _ => ⟨o1, k.1⟩, fun q => absurd h7 q⟩, k.2⟩
  · rw [if_neg h7]
    have k := P_176 (x0 := x0) (y := y) hn hna h9 hn3 hl6 hv
    exact ⟨⟨fun q => absurd q h7, fun _ => k.1⟩, k.2⟩
theorem P_95 {x0 : nM} {nt na md : Nat} (hn : nt < 260) (hna : 1 ≤ na) (h9 : na + 3 < 96) (hx0 : x0.1 7 = 0) : ∀ (f c : Nat) (y : nM) (v3 : Int32), c ≤ 3 → 3 - c < f → (∃ nm, q_L y nt nm md 6) → (y.1 7 = 0 → q_PV x0 y nt na c md 2 ∧ (¬ v3 = 0 → q_PV x0 y nt na c md 1)) →
    q_PG x0 nt na md (k_procedure_95 f y (nI (na - 1)) (nI c) v3 (nI c)) (p_procedure_95 f y (nI (na - 1)) (nI c) v3 (nI c)) := by
  intro f
  induction f with
  | zero => intro c y v3 _ h; omega
  | succ f ih =>
    intro c y v3 hc hf hl6 hv
    have kx := P_163 (x0 := x0) (y := y) hn hna (by omega) hc hl6 (fun q => (hv q).1)
    rw [k_procedure_95, p_procedure_95]
    by_cases c1 : (3 : Int32) ≤ nI c
    · rw [if_pos c1]
      exact ⟨⟨fun _ => kx.1, fun q => absurd c1 q⟩, kx.2⟩
    rw [if_neg c1]
    have hc3 : c < 3 := by
      rcases Nat.lt_or_ge c 3 with q | q
      · exact q
      · exact absurd (nI_le (a := 3) q (by omega)) c1
    by_cases c2 : v3 = 0
    · rw [if_pos c2]
      exact ⟨⟨fun q => absurd q c1, fun _ => ⟨fun _ => kx.1, fun q => absurd c2 q⟩⟩, kx.2⟩
    rw [if_neg c2]
    by_cases h7 : y.1 7 = 0
    · rw [if_pos h7]
      obtain ⟨hl, hp, hold, hfl, har⟩ := (hv h7).2 c2
      obtain ⟨d1, d2, d3⟩ := L_declare hl (by decide) 0 0 0
      have succ : (m_declare y 0 0 0).1 7 = 0 → q_PV x0 (m_declare y 0 0 0) nt na (c + 1) md 2 := fun q7 => by
        obtain ⟨-, -, e58⟩ := D_ok q7
        have l3 := d3 q7
        have hnm := hl.nm
        have ef : ∀ k, k ≠ 3 → k ≠ 4 → k ≠ 5 → k ≠ 6 → (m_declare y 0 0 0).1 k = if k = 15 then y.1 15 + 1 else y.1 k := fun k q3 q4 q5 q6 => by rw [e58]; exact f_58 y _ _ _ k q3 q4 q5 q6
        have eg : ∀ k j, (m_declare y 0 0 0).2 k j = if k = 20 ∧ j = na + c then 0 else if k = 19 ∧ j = na + c then 0 else if k = 18 ∧ j = na + c then y.1 21 else if k = 17 ∧ j = na + c then 0 else if k = 16 ∧ j = na + c then y.1 5 else y.2 k j := fun k j => by
          rw [e58, g_58 y _ _ _ (na + c) hl.h15 (by omega) k]
          have un : ∀ (f : Nat → Int32) (w : Int32), upd f (na + c) w j = if j = na + c then w else f j := fun f w => rfl
          by_cases e20 : k = 20
          · subst e20; simp [un]
          by_cases e19 : k = 19
          · subst e19; simp [un]
          by_cases e18 : k = 18
          · subst e18; simp [un]
          by_cases e17 : k = 17
          · subst e17; simp [un]
          by_cases e16 : k = 16
          · subst e16; simp [un]
          simp [e20, e19, e18, e17, e16]
        refine ⟨l3, ?_, ?_, ?_, ?_⟩
        · intro k hk
          by_cases ek : k = c
          · subst ek
            refine ⟨?_, ?_⟩
            · rw [eg, if_neg (by omega), if_neg (by omega), if_neg (by omega), if_pos ⟨rfl, rfl⟩]
            · rw [eg, if_neg (by omega), if_neg (by omega), if_pos ⟨rfl, rfl⟩]
              exact hfl 21 (by decide) (by decide) (by decide) (by decide) (by decide)
          · refine ⟨?_, ?_⟩
            · rw [eg, if_neg (by omega), if_neg (by omega), if_neg (by omega), if_neg (by omega), if_neg (by omega)]; exact (hp k (by omega)).1
            · rw [eg, if_neg (by omega), if_neg (by omega), if_neg (by omega), if_neg (by omega), if_neg (by omega)]; exact (hp k (by omega)).2
        · intro k j hj
          rw [eg, if_neg (by omega), if_neg (by omega), if_neg (by omega), if_neg (by omega), if_neg (by omega)]
          exact hold k j hj
        · intro k q3 q4 q5 q6 q15
          rw [ef k q3 q4 q5 q6, if_neg q15]; exact hfl k q3 q4 q5 q6 q15
        · intro k hk
          funext j
          rw [eg, if_neg (by omega), if_neg (by omega), if_neg (by omega), if_neg (by omega), if_neg (by omega)]
          exact congrFun (har k hk) j
      have ihn := ih (c + 1) (m_declare y 0 0 0) 0 (by omega) (by omega) ⟨_, d2.s (by omega)⟩ (fun q => ⟨succ q, fun h => absurd rfl h⟩)
      rw [← nI_1] at ihn
      by_cases c3 : (m_declare y 0 0 0).1 7 = 0
      · rw [if_pos c3]
        by_cases c4 : (m_declare y 0 0 0).1 3 = 44
        · rw [if_pos c4]
          by_cases c5 : (3 : Int32) ≤ nI c + 1
          · rw [if_pos c5]
            exact ⟨⟨fun q => absurd q c1, fun _ => ⟨fun q => absurd q c2, fun _ => ⟨fun _ => ⟨d1, fun _ => ⟨fun _ => ⟨fun _ => ihn.1, fun q => absurd c5 q⟩, fun q => absurd c4 q⟩, fun q => absurd c3 q⟩, fun q => absurd h7 q⟩⟩⟩, ihn.2⟩
          · rw [if_neg c5]
            obtain ⟨pl, pp, po, pf_, pa⟩ := succ c3
            obtain ⟨o2, l2⟩ := L_goOn1 pl (by rw [c4]; decide)
            have pv1 : q_PV x0 (m_goOn (m_declare y 0 0 0)) nt na (c + 1) md 1 := ⟨l2, fun k hk => by rw [g_goOn]; exact pp k hk, fun k j hj => by rw [g_goOn]; exact po k j hj, fun k q3 q4 q5 q6 q15 => by rw [f_goOn _ k q3 q4 q5 q6]; exact pf_ k q3 q4 q5 q6 q15, fun k hk => by rw [g_goOn]; exact pa k hk⟩
            have ihm := ih (c + 1) (m_goOn (m_declare y 0 0 0)) 1 (by omega) (by omega) ⟨_, l2.s (by omega)⟩ (fun q => ⟨⟨l2.s (by omega), pv1.2⟩, fun _ => pv1⟩)
            rw [← nI_1] at ihm
            exact ⟨⟨fun q => absurd q c1, fun _ => ⟨fun q => absurd q c2, fun _ => ⟨fun _ => ⟨d1, fun _ => ⟨fun _ => ⟨fun q => absurd q c5, fun _ => ⟨o2, ihm.1⟩⟩, fun q => absurd c4 q⟩, fun q => absurd c3 q⟩, fun q => absurd h7 q⟩⟩⟩, ihm.2⟩
        · rw [if_neg c4]
          exact ⟨⟨fun q => absurd q c1, fun _ => ⟨fun q => absurd q c2, fun _ => ⟨fun _ => ⟨d1, fun _ => ⟨fun q => absurd q c4, fun _ => ihn.1⟩, fun q => absurd c3 q⟩, fun q => absurd h7 q⟩⟩⟩, ihn.2⟩
      · rw [if_neg c3]
        exact ⟨⟨fun q => absurd q c1, fun _ => ⟨fun q => absurd q c2, fun _ => ⟨fun _ => ⟨d1, fun q => absurd q c3, fun _ => ihn.1⟩, fun q => absurd h7 q⟩⟩⟩, ihn.2⟩
    · rw [if_neg h7]
      exact ⟨⟨fun q => absurd q c1, fun _ => ⟨fun q => absurd q c2, fun _ => ⟨fun q => absurd q h7, fun _ => kx.1⟩⟩⟩, kx.2⟩
/-! the place in the text never goes back -/
def q_M (x y : nM) : Prop := ∀ ty a b, q_T x ty a b → ∃ a' b', q_T y ty a' b' ∧ a ≤ a'
theorem q_M.rf {x : nM} : q_M x x := fun ty a b h => ⟨a, b, h, Nat.le_refl _⟩
theorem q_M.tr {x y z : nM} (h : q_M x y) (g : q_M y z) : q_M x z := fun ty a b q => by
  obtain ⟨a1, b1, q1, h1⟩ := h ty a b q
  obtain ⟨a2, b2, q2, h2⟩ := g ty a1 b1 q1
  exact ⟨a2, b2, q2, by omega⟩
theorem q_M.same {x y : nM} (h1 : y.1 1 = x.1 1) (h3 : y.1 3 = x.1 3) (h4 : y.1 4 = x.1 4) (h6 : y.1 6 = x.1 6) : q_M x y := fun ty a b q => ⟨a, b, q.cong h1 h3 h4 h6, Nat.le_refl _⟩
theorem q_M.f {x : nM} (k : Nat) (v : Int32) (hk : k ≠ 1 ∧ k ≠ 3 ∧ k ≠ 4 ∧ k ≠ 6) : q_M x (nm_f x k v) := by
  refine q_M.same ?_ ?_ ?_ ?_ <;> (rw [q_f1, if_neg (by omega)])
theorem q_M.a {x : nM} (k : Nat) (i v : Int32) : q_M x (nm_a x k i v) := q_M.same rfl rfl rfl rfl
theorem M_goOn (x : nM) : q_M x (m_goOn x) := fun ty a b h => by
  obtain ⟨-, a', b', -, k3, k4⟩ := q_goOn h
  have := h.2.2.2.2.1
  exact ⟨a', b', k3, by omega⟩
theorem M_goOn1 {x : nM} {ty a b : Nat} (h : q_T x ty a b) (h3 : x.1 3 ≠ 0) : ∃ a' b', q_T (m_goOn x) ty a' b' ∧ a + 1 ≤ a' := by
  obtain ⟨-, a', b', -, k3, k4⟩ := q_goOn h
  have := h.2.2.2.2.2.2 h3
  exact ⟨a', b', k3, by omega⟩
theorem M_fail (x : nM) (w p : Int32) : q_M x (m_fail x w p) := by
  refine q_M.same ?_ ?_ ?_ ?_ <;> exact f_fail _ _ _ _ (by decide) (by decide)
theorem M_expect (x : nM) (w : Int32) : q_M x (m_expect x w) := by
  rw [m_expect]; split
  · exact M_goOn x
  · exact M_fail x _ _
theorem M_push (x : nM) (t f g : Int32) : q_M x (m_push x t f g) := q_M.same rfl rfl rfl rfl
theorem M_emit (x : nM) (t f g : Int32) : q_M x (m_emit x t f g).1 := q_M.same rfl rfl rfl rfl
theorem M_58 (x : nM) (u v w : Int32) : q_M x (k_declare_58 x u v w) := by
  rw [k_declare_58]
  refine q_M.tr ?_ (M_goOn _)
  exact q_M.same rfl rfl rfl rfl
theorem M_declare (x : nM) (u v w : Int32) : q_M x (m_declare x u v w) := by
  rw [m_declare]
  split
  · split
    · exact M_58 _ _ _ _
    · split
      · exact (M_fail _ _ _).tr (M_58 _ _ _ _)
      · exact M_58 _ _ _ _
  · exact (M_fail _ _ _).tr (M_58 _ _ _ _)
theorem M_147 {kt : nM → Int32 → Int32 → nM} (hk : ∀ x v w, q_M x (kt x v w)) (z : nM) (v2 v3 : Int32) : q_M z (k_variables_147 kt z v2 v3) := by
  rw [k_variables_147]
  have h170 : ∀ y, q_M y (k_variables_170 kt y v2) := fun y => by
    rw [k_variables_170]; split <;> (rw [k_variables_183]; exact hk _ _ _)
  split
  · exact ((q_M.f 22 _ (by decide)).tr (M_expect _ _)).tr (h170 _)
  · exact (q_M.f 22 _ (by decide)).tr (h170 _)
theorem M_114 {kt : nM → Int32 → Int32 → nM} (hk : ∀ x v w, q_M x (kt x v w)) (z : nM) (v2 : Int32) : q_M z (k_variables_114 kt z v2) := by
  rw [k_variables_114]
  exact (((q_M.a 17 _ _).tr (q_M.a 20 _ _)).tr (M_goOn _)).tr (M_147 hk _ _ _)
theorem M_vloop : ∀ (n : Nat) (x : nM) (v1 v2 : Int32), q_M x (k_variables_17 n x v1 v2) := by
  intro n
  induction n with
  | zero => intro x v1 v2; exact q_M.rf
  | succ n ih =>
    intro x v1 v2
    rw [k_variables_17]
    have d := M_declare x 0 (x.1 22) 0
    have e104 : ∀ y, q_M y (k_variables_104 (k_variables_17 n) y v2) := fun y => by rw [k_variables_104]; exact (M_fail _ _ _).tr (M_114 ih _ _)
    split
    · exact q_M.rf
    · split
      · exact q_M.rf
      · split
        · split
          · split
            · split
              · split
                · exact (d.tr (M_goOn _)).tr (e104 _)
                · split
                  · exact (d.tr (M_goOn _)).tr (M_114 ih _ _)
                  · exact (d.tr (M_goOn _)).tr (e104 _)
              · exact ((d.tr (M_goOn _)).tr (M_fail _ _ _)).tr (M_114 ih _ _)
            · exact d.tr (M_147 ih _ _ _)
          · exact d.tr (M_147 ih _ _ _)
        · exact q_M.rf
theorem M_variables (x : nM) : q_M x (m_variables x) := by
  rw [m_variables]; split
  · exact (M_goOn x).tr (M_vloop 300 (m_goOn x) 1 0)
  · exact q_M.rf
theorem M_178 : ∀ (n : Nat) (x : nM) (v1 v2 v3 : Int32), q_M x (k_procedure_178 n x v1 v2 v3) := by
  intro n
  induction n with
  | zero => intro x v1 v2 v3; exact q_M.rf
  | succ n ih =>
    intro x v1 v2 v3
    rw [k_procedure_178]
    split
    · split
      · rw [k_procedure_227]; exact (((q_M.a 20 _ _).tr (q_M.f 23 _ (by decide))).tr (M_expect _ _)).tr (M_push _ _ _ _)
      · rw [k_procedure_227]; exact ((q_M.a 20 _ _).tr (q_M.f 23 _ (by decide))).tr (M_push _ _ _ _)
    · exact (q_M.a 19 _ _).tr (ih _ _ _ _)
theorem M_176 (x : nM) (v1 v2 : Int32) : q_M x (k_procedure_176 x v1 v2) := by unfold k_procedure_176; exact M_178 300 x v1 v2 0
theorem M_163 (x : nM) (v1 v2 : Int32) : q_M x (k_procedure_163 x v1 v2) := by
  rw [k_procedure_163]; split
  · exact (M_expect _ _).tr (M_176 _ _ _)
  · exact M_176 _ _ _
theorem M_95 : ∀ (n : Nat) (x : nM) (v1 v2 v3 v4 : Int32), q_M x (k_procedure_95 n x v1 v2 v3 v4) := by
  intro n
  induction n with
  | zero => intro x v1 v2 v3 v4; exact q_M.rf
  | succ n ih =>
    intro x v1 v2 v3 v4
    rw [k_procedure_95]
    have d := M_declare x 0 0 0
    split
    · exact M_163 _ _ _
    · split
      · exact M_163 _ _ _
      · split
        · split
          · split
            · split
              · exact d.tr (ih _ _ _ _ _)
              · exact (d.tr (M_goOn _)).tr (ih _ _ _ _ _)
            · exact d.tr (ih _ _ _ _ _)
          · exact d.tr (ih _ _ _ _ _)
        · exact M_163 _ _ _
/-! a procedure's head, as parts meets it -/
def q_PR (x y : nM) (nt nm n md v : Nat) : Prop := q_L y (nt + 2) (nm + 1 + n) md 1 ∧ n ≤ 3 ∧ y.1 21 = nI (v + 1) ∧ y.1 22 = nI 3 ∧ y.1 23 = nI n ∧ (y.2 17 nm = 2 ∧ y.2 18 nm = nI v ∧ y.2 19 nm = nI md ∧ y.2 20 nm = nI n) ∧ (∀ k, k < n → y.2 17 (nm + 1 + k) = 0 ∧ y.2 18 (nm + 1 + k) = nI (v + 1) ∧ y.2 19 (nm + 1 + k) = nI k - nI n) ∧
  (∀ k j, j < nm → (k < 12 ∨ 14 < k) → y.2 k j = x.2 k j) ∧ (∀ k j, j < nt → (k = 12 ∨ k = 13 ∨ k = 14) → y.2 k j = x.2 k j) ∧ (y.2 12 nt = 3 ∧ y.2 13 nt = nI (nm + 1) ∧ y.2 14 nt = x.1 22 ∧ y.2 12 (nt + 1) = 0) ∧
  (∀ k, k ≠ 3 → k ≠ 4 → k ≠ 5 → k ≠ 6 → k ≠ 11 → k ≠ 15 → k ≠ 21 → k ≠ 22 → k ≠ 23 → y.1 k = x.1 k) ∧ (∀ k, k < 12 ∨ (14 < k ∧ k < 16) ∨ 20 < k → y.2 k = x.2 k)
theorem P_proc {x : nM} {nt nm md v : Nat} (h : q_L x nt nm md 1) (h3 : x.1 3 = 5) (h7 : x.1 7 = 0) (h21 : x.1 21 = nI v) (hv : v ≤ 4) (hnt : nt + 2 < 260) : o_procedure x ∧ ((m_procedure x).1 7 = 0 → v < 4 ∧ (∃ n, q_PR x (m_procedure x) nt nm n md v) ∧ q_M (m_goOn x) (m_procedure x)) := by
  rw [o_procedure, m_procedure]
  by_cases c1 : x.1 21 = 4
  · rw [if_pos c1]
    exact ⟨⟨fun _ => trivial, fun q => absurd c1 q⟩, fun q => absurd q (e_fail (by decide))⟩
  rw [if_neg c1]
  have hv4 : v < 4 := by
    rcases Nat.lt_or_ge v 4 with q | q
    · exact q
    · exfalso; apply c1; rw [h21, show v = 4 by omega]; rfl
  have hnm := h.nm
  obtain ⟨o1, l1⟩ := L_goOn1 h (by rw [h3]; decide)
  obtain ⟨o2, l2, l2'⟩ := L_declare l1 (by decide) 2 ((m_goOn x).1 25) 0
  generalize hD : m_declare (m_goOn x) 2 ((m_goOn x).1 25) 0 = D at *
  have d15 : D.1 15 = nI (nm + 1) := l2.h15
  obtain ⟨o3, l3⟩ := L_push l2 (show nt < 260 by omega) 3 (D.1 15) (D.1 22)
  have m1 : q_M (m_goOn x) D := hD ▸ M_declare _ _ _ _
  generalize hS : m_push D 3 (D.1 15) (D.1 22) = S at *
  have sf : ∀ k, k ≠ 11 → S.1 k = D.1 k := fun k hk => by rw [← hS, m_push, q_f1, if_neg hk]; rfl
  have m2 : q_M (m_goOn x) S := m1.tr (hS ▸ M_push _ _ _ _)
  have m3 : q_M (m_goOn x) (nm_f (nm_f S 21 (S.1 21 + 1)) 22 3) := m2.tr ((q_M.f 21 _ (by decide)).tr (q_M.f 22 _ (by decide)))
  have lB : q_L (nm_f (nm_f S 21 (S.1 21 + 1)) 22 3) (nt + 1) (nm + 1) md 2 := (l3.f 21 _ (by decide)).f 22 _ (by decide)
  have ew : D.1 15 - 1 = nI (nm + 1 - 1) := by rw [d15]; exact nz_dm nm
  rw [ew]
  -- what the head's end says, out of the base
  have fin : S.1 7 = 0 → ∀ (y : nM) (n : Nat), q_PE (nm_f (nm_f S 21 (S.1 21 + 1)) 22 3) y (nt + 1) (nm + 1) n md → q_PR x y nt nm n md v := fun s7 y n hE => by
    obtain ⟨e1, e2, e3, e4, e5, e6, e7, e8, e9, e10⟩ := hE
    have d7 : (m_declare (m_goOn x) 2 ((m_goOn x).1 25) 0).1 7 = 0 := by rw [hD, ← sf 7 (by decide)]; exact s7
    obtain ⟨-, -, e58⟩ := D_ok d7
    rw [hD] at e58
    have g15 : (m_goOn x).1 15 = nI nm := by rw [f_goOn _ 15 (by decide) (by decide) (by decide) (by decide)]; exact h.h15
    have df : ∀ k, k ≠ 3 → k ≠ 4 → k ≠ 5 → k ≠ 6 → k ≠ 15 → D.1 k = x.1 k := fun k q3 q4 q5 q6 q15 => by
      rw [e58, f_58 _ _ _ _ k q3 q4 q5 q6, if_neg q15, f_goOn _ k q3 q4 q5 q6]
    have dg : ∀ k j, D.2 k j = if k = 20 ∧ j = nm then 0 else if k = 19 ∧ j = nm then nI md else if k = 18 ∧ j = nm then nI v else if k = 17 ∧ j = nm then 2 else if k = 16 ∧ j = nm then (m_goOn x).1 5 else x.2 k j := fun k j => by
      have e25 : (m_goOn x).1 25 = nI md := by rw [f_goOn _ 25 (by decide) (by decide) (by decide) (by decide)]; exact h.h25
      have e21 : (m_goOn x).1 21 = nI v := by rw [f_goOn _ 21 (by decide) (by decide) (by decide) (by decide)]; exact h21
      rw [e58, g_58 (m_goOn x) _ _ _ nm g15 (by omega) k, e25, e21, g_goOn]
      have un : ∀ (f : Nat → Int32) (w : Int32), upd f nm w j = if j = nm then w else f j := fun f w => rfl
      by_cases e20 : k = 20
      · subst e20; simp [un]
      by_cases e19 : k = 19
      · subst e19; simp [un]
      by_cases e18 : k = 18
      · subst e18; simp [un]
      by_cases e17 : k = 17
      · subst e17; simp [un]
      by_cases e16 : k = 16
      · subst e16; simp [un]
      simp [e20, e19, e18, e17, e16]
    have d11 : D.1 11 = nI nt := l2.h11
    have sg : ∀ k j, S.2 k j = if k = 14 ∧ j = nt then D.1 22 else if k = 13 ∧ j = nt then D.1 15 else if k = 12 ∧ j = nt then 3 else D.2 k j := fun k j => by
      rw [← hS, m_push, q_f2, d11]
      simp only [q_a2, nI_clamp (show nt < 2 ^ 31 by omega)]
      have un : ∀ (f : Nat → Int32) (w : Int32), upd f nt w j = if j = nt then w else f j := fun f w => rfl
      by_cases e14 : k = 14
      · subst e14; simp [un]
      by_cases e13 : k = 13
      · subst e13; simp [un]
      by_cases e12 : k = 12
      · subst e12; simp [un]
      simp [e14, e13, e12]
    have s21 : S.1 21 + 1 = nI (v + 1) := by rw [sf 21 (by decide), df 21 (by decide) (by decide) (by decide) (by decide) (by decide), h21]; exact nI_1 v
    have bf : ∀ k, k ≠ 21 → k ≠ 22 → (nm_f (nm_f S 21 (S.1 21 + 1)) 22 3).1 k = S.1 k := fun k q1 q2 => by rw [q_f1, if_neg q2, q_f1, if_neg q1]
    have b21 : (nm_f (nm_f S 21 (S.1 21 + 1)) 22 3).1 21 = nI (v + 1) := by rw [q_f1, if_neg (by decide), q_f1, if_pos rfl]; exact s21
    have bg : ∀ k j, (nm_f (nm_f S 21 (S.1 21 + 1)) 22 3).2 k j = S.2 k j := fun _ _ => rfl
    refine ⟨e1, e3, ?_, ?_, e2, ⟨?_, ?_, ?_, ?_⟩, ?_, ?_, ?_, ⟨?_, ?_, ?_, e10⟩, ?_, ?_⟩
    · rw [e7 21 (by decide) (by decide) (by decide) (by decide) (by decide) (by decide) (by decide)]; exact b21
    · rw [e7 22 (by decide) (by decide) (by decide) (by decide) (by decide) (by decide) (by decide)]; rfl
    · rw [e6 17 nm (by omega) (by omega) (by omega), bg, sg, if_neg (by omega), if_neg (by omega), if_neg (by omega), dg, if_neg (by omega), if_neg (by omega), if_neg (by omega), if_pos ⟨rfl, rfl⟩]
    · rw [e6 18 nm (by omega) (by omega) (by omega), bg, sg, if_neg (by omega), if_neg (by omega), if_neg (by omega), dg, if_neg (by omega), if_neg (by omega), if_pos ⟨rfl, rfl⟩]
    · rw [e6 19 nm (by omega) (by omega) (by omega), bg, sg, if_neg (by omega), if_neg (by omega), if_neg (by omega), dg, if_neg (by omega), if_pos ⟨rfl, rfl⟩]
    · exact e5
    · intro k hk
      obtain ⟨q1, q2, q3⟩ := e4 k hk
      exact ⟨q1, by rw [q2]; exact b21, q3⟩
    · intro k j hj hk
      rw [e6 k j (by omega) (by omega) hk, bg, sg, if_neg (by omega), if_neg (by omega), if_neg (by omega), dg, if_neg (by omega), if_neg (by omega), if_neg (by omega), if_neg (by omega), if_neg (by omega)]
    · intro k j hj hk
      have e9' := e9 j (by omega)
      have : y.2 k j = (nm_f (nm_f S 21 (S.1 21 + 1)) 22 3).2 k j := by
        rcases hk with rfl | rfl | rfl
        · exact e9'.1
        · exact e9'.2.1
        · exact e9'.2.2
      rw [this, bg, sg, if_neg (by omega), if_neg (by omega), if_neg (by omega), dg, if_neg (by omega), if_neg (by omega), if_neg (by omega), if_neg (by omega), if_neg (by omega)]
    · rw [(e9 nt (by omega)).1, bg, sg, if_neg (by omega), if_neg (by omega), if_pos ⟨rfl, rfl⟩]
    · rw [(e9 nt (by omega)).2.1, bg, sg, if_neg (by omega), if_pos ⟨rfl, rfl⟩]; exact d15
    · rw [(e9 nt (by omega)).2.2, bg, sg, if_pos ⟨rfl, rfl⟩]; exact df 22 (by decide) (by decide) (by decide) (by decide) (by decide)
    · intro k q3 q4 q5 q6 q11 q15 q21 q22 q23
      rw [e7 k q3 q4 q5 q6 q11 q15 q23, bf k q21 q22, sf k q11, df k q3 q4 q5 q6 q15]
    · intro k hk
      rw [e8 k hk]
      funext j
      rw [bg, sg, if_neg (by omega), if_neg (by omega), if_neg (by omega), dg, if_neg (by omega), if_neg (by omega), if_neg (by omega), if_neg (by omega), if_neg (by omega)]
  by_cases s7 : S.1 7 = 0
  · rw [if_pos s7]
    have l2s : q_L (nm_f (nm_f S 21 (S.1 21 + 1)) 22 3) (nt + 1) (nm + 1) md 1 := by
      have d7 : D.1 7 = 0 := by rw [← sf 7 (by decide)]; exact s7
      have := (L_push (l2' d7) (show nt < 260 by omega) 3 (D.1 15) (D.1 22)).2
      rw [hS] at this
      exact (this.f 21 _ (by decide)).f 22 _ (by decide)
    have b7 : (nm_f (nm_f S 21 (S.1 21 + 1)) 22 3).1 7 = 0 := s7
    by_cases c4 : S.1 3 = 40
    · rw [if_pos c4]
      obtain ⟨o4, l4⟩ := L_goOn1 l2s (by rw [show (nm_f (nm_f S 21 (S.1 21 + 1)) 22 3).1 3 = S.1 3 from rfl, c4]; decide)
      have pv : q_PV (nm_f (nm_f S 21 (S.1 21 + 1)) 22 3) (m_goOn (nm_f (nm_f S 21 (S.1 21 + 1)) 22 3)) (nt + 1) (nm + 1) 0 md 1 := ⟨l4.s (by omega), fun k hk => by omega, fun k j _ => by rw [g_goOn], fun k q3 q4 q5 q6 _ => f_goOn _ k q3 q4 q5 q6, fun k _ => by rw [g_goOn]⟩
      have k := P_95 (x0 := nm_f (nm_f S 21 (S.1 21 + 1)) 22 3) (nt := nt + 1) (na := nm + 1) (md := md) (by omega) (by omega) (by omega) b7 300 0 (m_goOn (nm_f (nm_f S 21 (S.1 21 + 1)) 22 3)) 1 (by omega) (by omega) ⟨_, l4.s (by omega)⟩ (fun _ => ⟨⟨l4.s (by omega), pv.2⟩, fun _ => pv⟩)
      refine ⟨⟨fun q => absurd q c1, fun _ => ⟨o1, o2, o3, fun _ => ⟨fun _ => ⟨o4, k.1⟩, fun q => absurd c4 q⟩, fun q => absurd s7 q⟩⟩, fun q7 => ?_⟩
      obtain ⟨n, hE⟩ := k.2 q7
      exact ⟨hv4, ⟨n, fin s7 _ n hE⟩, (m3.tr (M_goOn _)).tr (M_95 300 _ _ _ _ _)⟩
    · rw [if_neg c4]
      have k := P_176 (x0 := nm_f (nm_f S 21 (S.1 21 + 1)) 22 3) (y := nm_f (nm_f S 21 (S.1 21 + 1)) 22 3) (nt := nt + 1) (na := nm + 1) (md := md) (n := 0) (by omega) (by omega) (by omega) (by omega) ⟨_, lB.s (by omega)⟩ (fun _ => ⟨l2s.s (by omega), fun k hk => by omega, fun _ _ _ => rfl, fun _ _ _ _ _ _ => rfl, fun _ _ => rfl⟩)
      refine ⟨⟨fun q => absurd q c1, fun _ => ⟨o1, o2, o3, fun _ => ⟨fun q => absurd q c4, fun _ => k.1⟩, fun q => absurd s7 q⟩⟩, fun q7 => ?_⟩
      obtain ⟨n, hE⟩ := k.2 q7
      exact ⟨hv4, ⟨n, fin s7 _ n hE⟩, m3.tr (M_176 _ _ _)⟩
  · rw [if_neg s7]
    have k := P_176 (x0 := nm_f (nm_f S 21 (S.1 21 + 1)) 22 3) (y := nm_f (nm_f S 21 (S.1 21 + 1)) 22 3) (nt := nt + 1) (na := nm + 1) (md := md) (n := 0) (by omega) (by omega) (by omega) (by omega) ⟨_, lB.s (by omega)⟩ (fun q => absurd q s7)
    refine ⟨⟨fun q => absurd q c1, fun _ => ⟨o1, o2, o3, fun q => absurd q s7, fun _ => k.1⟩⟩, fun q7 => ?_⟩
    obtain ⟨n, hE⟩ := k.2 q7
    exfalso
    have := hE.2.2.2.2.2.2.1 7 (by decide) (by decide) (by decide) (by decide) (by decide) (by decide) (by decide)
    exact s7 (this.symm.trans q7)
