/-! the start of a compile -/
theorem C_start {x : nM} {ty : Nat} (h1 : x.1 1 = nI ty) (h8 : ty ≤ 180) :
    (o_push (nm_f (nm_f (nm_f (nm_f (nm_f (nm_f (nm_f (nm_f x 11 0) 15 0) 21 0) 22 3) 23 0) 24 0) 25 0) 7 0) 4 0 0 ∧ o_push (m_push (nm_f (nm_f (nm_f (nm_f (nm_f (nm_f (nm_f (nm_f x 11 0) 15 0) 21 0) 22 3) 23 0) 24 0) 25 0) 7 0) 4 0 0) 0 0 0 ∧
      o_look (m_push (m_push (nm_f (nm_f (nm_f (nm_f (nm_f (nm_f (nm_f (nm_f x 11 0) 15 0) 21 0) 22 3) 23 0) 24 0) 25 0) 7 0) 4 0 0) 0 0 0) 0) ∧
    q_SR (m_look (m_push (m_push (nm_f (nm_f (nm_f (nm_f (nm_f (nm_f (nm_f (nm_f x 11 0) 15 0) 21 0) 22 3) 23 0) 24 0) 25 0) 7 0) 4 0 0) 0 0 0) 0) ty 1443 := by
  generalize hz : nm_f (nm_f (nm_f (nm_f (nm_f (nm_f (nm_f (nm_f x 11 0) 15 0) 21 0) 22 3) 23 0) 24 0) 25 0) 7 0 = z
  have z11 : z.1 11 = nI 0 := by rw [← hz]; rfl
  have z1 : z.1 1 = nI ty := by rw [← hz]; exact h1
  have f1 : ∀ k, k ≠ 11 → (m_push z 4 0 0).1 k = z.1 k := fun k hk => f_push _ _ _ _ k hk
  have p11 : (m_push z 4 0 0).1 11 = nI 1 := by rw [m_push, q_f1, if_pos rfl, z11]; rfl
  have g1 := g_push z 0 z11 (by decide) 4 0 0
  have g2 := g_push (m_push z 4 0 0) 1 p11 (by decide) 0 0 0
  have f2 : ∀ k, k ≠ 11 → (m_push (m_push z 4 0 0) 0 0 0).1 k = z.1 k := fun k hk => (f_push _ _ _ _ k hk).trans (f1 k hk)
  have q11 : (m_push (m_push z 4 0 0) 0 0 0).1 11 = nI 2 := by rw [m_push, q_f1, if_pos rfl, p11]; rfl
  obtain ⟨ol, a, b, lk, at1, at2, at3, at4, at5, at6⟩ := q_look (v := 0) ((f2 1 (by decide)).trans z1) h8 (Nat.zero_le _)
  have hi0 : vp_in (nI 0) 260 := q_in (by decide) (by decide)
  have hi1 : vp_in (nI 1) 260 := q_in (by decide) (by decide)
  refine ⟨⟨by rw [o_push, z11]; exact ⟨hi0, hi0, hi0, trivial⟩, by rw [o_push, p11]; exact ⟨hi1, hi1, hi1, trivial⟩, ol⟩, ?_⟩
  have e0 : (0 : Int32) = nI 0 := rfl
  generalize hy : m_look (m_push (m_push z 4 0 0) 0 0 0) 0 = y
  have hy' : m_look (m_push (m_push z 4 0 0) 0 0 0) (nI 0) = y := hy
  rw [hy'] at lk at1 at2 at6
  have fy : ∀ k, k ≠ 3 → k ≠ 4 → k ≠ 5 → k ≠ 6 → k ≠ 11 → y.1 k = z.1 k := fun k q3 q4 q5 q6 q11 => (lk.2 k q3 q4 q5 q6).trans (f2 k q11)
  have gy : ∀ k j, y.2 k j = (m_push (m_push z 4 0 0) 0 0 0).2 k j := fun k j => by rw [lk.1]
  have t0 : y.2 12 0 = 4 := by rw [gy, g2, if_neg (by decide), if_neg (by decide), if_neg (by decide), g1, if_neg (by decide), if_neg (by decide), if_pos ⟨rfl, rfl⟩]
  have t1 : y.2 12 1 = 0 := by rw [gy, g2, if_neg (by decide), if_neg (by decide), if_pos ⟨rfl, rfl⟩]
  refine Or.inr ⟨((fun _ => 0), (fun _ => 0), (fun _ => 0), (fun _ => 0), (fun _ => 0), (fun _ => (0, none))), 1, a, b, 2, 0, 0, (0, 0, [], 0, 0), ⟨?_, h8, at1, at2, at4, at5, at6⟩, ?_, ?_, ?_, ?_, ?_, ?_, Nat.zero_le 6, Nat.le_refl _, by omega, by decide, ⟨by decide, rfl, rfl, ?_⟩, ?_, ⟨?_, ?_⟩, ⟨fun _ => ⟨rfl, rfl, ?_, ?_⟩, fun q => absurd (show (0 : Nat) = 1 from q) (by decide), fun q => absurd (show (0 : Nat) = 2 from q) (by decide)⟩, ?_, ?_, ?_⟩
  · rw [fy 1 (by decide) (by decide) (by decide) (by decide) (by decide)]; exact z1
  · rw [fy 7 (by decide) (by decide) (by decide) (by decide) (by decide), ← hz]; rfl
  · rw [lk.2 11 (by decide) (by decide) (by decide) (by decide)]; exact q11
  · rw [fy 15 (by decide) (by decide) (by decide) (by decide) (by decide), ← hz]; rfl
  · rw [fy 25 (by decide) (by decide) (by decide) (by decide) (by decide), ← hz]; rfl
  · rw [fy 21 (by decide) (by decide) (by decide) (by decide) (by decide), ← hz]; rfl
  · rw [fy 24 (by decide) (by decide) (by decide) (by decide) (by decide), ← hz]; rfl
  · intro e he
    have e0 : e = 0 := by omega
    subst e0
    exact ⟨Or.inl ⟨rfl, rfl, rfl⟩, by decide, by decide, rfl, Or.inr ⟨rfl, rfl, rfl⟩⟩
  · intro k hk; omega
  · intro i hi; omega
  · intro _ i hi; omega
  · rw [fy 22 (by decide) (by decide) (by decide) (by decide) (by decide), ← hz]; rfl
  · rw [fy 23 (by decide) (by decide) (by decide) (by decide) (by decide), ← hz]; rfl
  · exact TS_cons (kd := 0) (by decide) (by decide) t1 ⟨rfl, by decide, rfl, rfl⟩ (TS_cons (kd := 4) (by decide) (by decide) t0 ⟨rfl, rfl, rfl, rfl⟩ rfl)
  · rw [q_we, q_we, t1, t0]; show 0 + (1 + (0 + 0)) ≤ _; omega
  · rw [q_wt, q_wt, t1, t0]; show 2 + (1 + 0) + 8 * (ty - a) ≤ 1443; omega
/-- all the code of a compile that ended well -/
def q_code (Γ : q_G) (nb md : Nat) (O L A : Nat → Int32) : Prop := 0 < nb ∧ 0 < md ∧ md ≤ 363 ∧ g_e Γ 0 = 0 ∧ g_p Γ 0 = 0 ∧ (∀ e, e < nb → ((e = 0 ∧ g_l Γ e = 0 ∧ g_n Γ e = 0) ∨ (g_p Γ e < e ∧ g_l Γ e = g_l Γ (g_p Γ e) + 1)) ∧ g_n Γ e ≤ 3 ∧ g_l Γ e ≤ 4 ∧ g_a Γ (g_e Γ e) = (e, none) ∧ g_e Γ e < md) ∧ (∀ i, i < md → q_ok Γ nb O L A i ∧ q_tg Γ md O A i) ∧ (∀ i, i + 1 = md → O i = 7 ∨ (O i = 9 ∧ A i = 0))
theorem C_end {y : nM} {Γ : q_G} {nb ty a b0 nm md r : Nat} {c : q_C} (h : q_CI y Γ nb ty a b0 0 nm md r c) : q_code Γ nb md (y.2 26) (y.2 27) (y.2 28) ∧ y.1 25 = nI md := by
  obtain ⟨g1, g2, g3, g4, g5, g6, g7, g8, hs, g9, g10, g11, g12, g13, g14, gT, gw, gr⟩ := h
  have hp : c.2.1 = 4 := gT
  obtain ⟨bo1, bo2, bo3, bo4⟩ := g11
  have hlt : ∀ e, e < nb → g_e Γ e < md := fun e he => by
    rcases (bo4 e he).2.2.2.2 with q | ⟨q, _⟩
    · exact q
    · rw [hp] at q; exact absurd q (by decide)
  have a180 : a ≤ 180 := by have := g1.2.1; have := g1.2.2.2.2.1; have := g1.2.2.2.2.2.1; omega
  have em : q_mm md c.2.1 = md := by rw [hp]; rfl
  refine ⟨⟨bo1, by have := hlt 0 bo1; omega, by omega, bo2, bo3, fun e he => ?_, fun i hi => ?_, g13.2 (by rw [hp]; decide)⟩, g5⟩
  · obtain ⟨m1, m2, m3, m4, -⟩ := bo4 e he
    exact ⟨m1, m2, m3, m4, hlt e he⟩
  · obtain ⟨q1, q2⟩ := g13.1 i hi
    refine ⟨q1, ?_⟩
    rcases q2 with q | ⟨j, j1, _⟩
    · intro hO
      obtain ⟨t, t1, t2⟩ := q hO
      rw [em] at t2
      rcases t2 with ⟨s1, s2, s3, s4⟩ | ⟨s1, s2, s3⟩
      · exact ⟨t, t1, s2, Or.inl ⟨s1, s3, s4⟩⟩
      · exact ⟨t, t1, s2, Or.inr ⟨s1, s3⟩⟩
    · omega
/-! what a compile leaves alone until its end: the text, the code that runs, the machine -/
def q_K (x y : nM) : Prop := (∀ k, k < 3 ∨ k = 9 ∨ k = 10 ∨ 28 < k → y.1 k = x.1 k) ∧ (∀ k, k < 12 ∨ 28 < k → y.2 k = x.2 k) ∧ (0 ≤ x.1 7 → 0 ≤ y.1 7)
theorem q_K.rf {x : nM} : q_K x x := ⟨fun _ _ => rfl, fun _ _ => rfl, fun h => h⟩
theorem q_K.tr {x y z : nM} (h : q_K x y) (g : q_K y z) : q_K x z := ⟨fun k q => (g.1 k q).trans (h.1 k q), fun k q => (g.2.1 k q).trans (h.2.1 k q), fun q => g.2.2 (h.2.2 q)⟩
theorem q_K.f {x : nM} (k : Nat) (v : Int32) (hk : 3 ≤ k ∧ k ≤ 28 ∧ k ≠ 9 ∧ k ≠ 10 ∧ k ≠ 7) : q_K x (nm_f x k v) := ⟨fun j q => by rw [q_f1, if_neg (by omega)], fun _ _ => rfl, fun h => by rw [q_f1, if_neg (by omega)]; exact h⟩
theorem q_K.a {x : nM} (k : Nat) (i v : Int32) (hk : 12 ≤ k ∧ k ≤ 28) : q_K x (nm_a x k i v) := ⟨fun _ _ => rfl, fun j q => by rw [q_a2, if_neg (by omega)], fun h => h⟩
theorem q_K.lk {x y : nM} (h : q_Lk x y) : q_K x y := ⟨fun k q => h.2 k (by omega) (by omega) (by omega) (by omega), fun k _ => by rw [h.1], fun q => by rw [h.2 7 (by decide) (by decide) (by decide) (by decide)]; exact q⟩
theorem K_goOn (x : nM) : q_K x (m_goOn x) := q_K.lk (U_goOn x)
theorem K_fail (x : nM) (w p : Int32) (hw : 0 ≤ w) : q_K x (m_fail x w p) := ⟨fun k q => f_fail _ _ _ _ (by omega) (by omega), fun k _ => by rw [g_fail], fun q => by
  rw [m_fail]; split
  · exact hw
  · exact q⟩
theorem K_expect (x : nM) (w : Int32) : q_K x (m_expect x w) := by
  rw [m_expect]; split
  · exact K_goOn x
  · exact K_fail x _ _ (by decide)
theorem K_push (x : nM) (t f g : Int32) : q_K x (m_push x t f g) := by
  rw [m_push]
  exact (((q_K.a 12 _ _ (by decide)).tr (q_K.a 13 _ _ (by decide))).tr (q_K.a 14 _ _ (by decide))).tr (q_K.f 11 _ (by decide))
theorem K_emit (x : nM) (t f g : Int32) : q_K x (m_emit x t f g).1 := by
  rw [m_emit]
  exact (((q_K.a 26 _ _ (by decide)).tr (q_K.a 27 _ _ (by decide))).tr (q_K.a 28 _ _ (by decide))).tr (q_K.f 25 _ (by decide))
theorem K_open (x : nM) : q_K x (m_open x) := by
  rw [m_open]; split
  · rw [k_open_18]; exact ((K_fail _ _ _ (by decide)).tr (q_K.f 24 _ (by decide))).tr (K_goOn _)
  · rw [k_open_18]; exact (q_K.f 24 _ (by decide)).tr (K_goOn _)
theorem K_close (x : nM) (w : Int32) : q_K x (m_close x w) := by
  rw [m_close]; exact (K_expect _ _).tr (q_K.f 24 _ (by decide))
theorem K_58 (x : nM) (u v w : Int32) : q_K x (k_declare_58 x u v w) := by
  rw [k_declare_58]
  exact ((((((q_K.a 16 _ _ (by decide)).tr (q_K.a 17 _ _ (by decide))).tr (q_K.a 18 _ _ (by decide))).tr (q_K.a 19 _ _ (by decide))).tr (q_K.a 20 _ _ (by decide))).tr (q_K.f 15 _ (by decide))).tr (K_goOn _)
theorem K_declare (x : nM) (u v w : Int32) : q_K x (m_declare x u v w) := by
  rw [m_declare]
  split
  · split
    · exact K_58 _ _ _ _
    · split
      · exact (K_fail _ _ _ (by decide)).tr (K_58 _ _ _ _)
      · exact K_58 _ _ _ _
  · exact (K_fail _ _ _ (by decide)).tr (K_58 _ _ _ _)
theorem K_147 {kt : nM → Int32 → Int32 → nM} (hk : ∀ x v w, q_K x (kt x v w)) (z : nM) (v2 v3 : Int32) : q_K z (k_variables_147 kt z v2 v3) := by
  rw [k_variables_147]
  have h170 : ∀ y, q_K y (k_variables_170 kt y v2) := fun y => by
    rw [k_variables_170]; split <;> (rw [k_variables_183]; exact hk _ _ _)
  split
  · exact ((q_K.f 22 _ (by decide)).tr (K_expect _ _)).tr (h170 _)
  · exact (q_K.f 22 _ (by decide)).tr (h170 _)
theorem K_114 {kt : nM → Int32 → Int32 → nM} (hk : ∀ x v w, q_K x (kt x v w)) (z : nM) (v2 : Int32) : q_K z (k_variables_114 kt z v2) := by
  rw [k_variables_114]
  exact (((q_K.a 17 _ _ (by decide)).tr (q_K.a 20 _ _ (by decide))).tr (K_goOn _)).tr (K_147 hk _ _ _)
theorem K_vloop : ∀ (n : Nat) (x : nM) (v1 v2 : Int32), q_K x (k_variables_17 n x v1 v2) := by
  intro n
  induction n with
  | zero => intro x v1 v2; exact q_K.rf
  | succ n ih =>
    intro x v1 v2
    rw [k_variables_17]
    have d := K_declare x 0 (x.1 22) 0
    have e104 : ∀ y, q_K y (k_variables_104 (k_variables_17 n) y v2) := fun y => by rw [k_variables_104]; exact (K_fail _ _ _ (by decide)).tr (K_114 ih _ _)
    split
    · exact q_K.rf
    · split
      · exact q_K.rf
      · split
        · split
          · split
            · split
              · split
                · exact (d.tr (K_goOn _)).tr (e104 _)
                · split
                  · exact (d.tr (K_goOn _)).tr (K_114 ih _ _)
                  · exact (d.tr (K_goOn _)).tr (e104 _)
              · exact ((d.tr (K_goOn _)).tr (K_fail _ _ _ (by decide))).tr (K_114 ih _ _)
            · exact d.tr (K_147 ih _ _ _)
          · exact d.tr (K_147 ih _ _ _)
        · exact q_K.rf
theorem K_variables (x : nM) : q_K x (m_variables x) := by
  rw [m_variables]; split
  · exact (K_goOn x).tr (K_vloop 300 (m_goOn x) 1 0)
  · exact q_K.rf
theorem K_178 : ∀ (n : Nat) (x : nM) (v1 v2 v3 : Int32), q_K x (k_procedure_178 n x v1 v2 v3) := by
  intro n
  induction n with
  | zero => intro x v1 v2 v3; exact q_K.rf
  | succ n ih =>
    intro x v1 v2 v3
    rw [k_procedure_178]
    split
    · split
      · rw [k_procedure_227]; exact (((q_K.a 20 _ _ (by decide)).tr (q_K.f 23 _ (by decide))).tr (K_expect _ _)).tr (K_push _ _ _ _)
      · rw [k_procedure_227]; exact ((q_K.a 20 _ _ (by decide)).tr (q_K.f 23 _ (by decide))).tr (K_push _ _ _ _)
    · exact (q_K.a 19 _ _ (by decide)).tr (ih _ _ _ _)
theorem K_176 (x : nM) (v1 v2 : Int32) : q_K x (k_procedure_176 x v1 v2) := by unfold k_procedure_176; exact K_178 300 x v1 v2 0
theorem K_163 (x : nM) (v1 v2 : Int32) : q_K x (k_procedure_163 x v1 v2) := by
  rw [k_procedure_163]; split
  · exact (K_expect _ _).tr (K_176 _ _ _)
  · exact K_176 _ _ _
theorem K_95 : ∀ (n : Nat) (x : nM) (v1 v2 v3 v4 : Int32), q_K x (k_procedure_95 n x v1 v2 v3 v4) := by
  intro n
  induction n with
  | zero => intro x v1 v2 v3 v4; exact q_K.rf
  | succ n ih =>
    intro x v1 v2 v3 v4
    rw [k_procedure_95]
    have d := K_declare x 0 0 0
    split
    · exact K_163 _ _ _
    · split
      · exact K_163 _ _ _
      · split
        · split
          · split
            · split
              · exact d.tr (ih _ _ _ _ _)
              · exact (d.tr (K_goOn _)).tr (ih _ _ _ _ _)
            · exact d.tr (ih _ _ _ _ _)
          · exact d.tr (ih _ _ _ _ _)
        · exact K_163 _ _ _
theorem K_block (x : nM) : q_K x (m_block x) := by
  rw [m_block]; exact ((K_emit _ _ _ _).tr (K_variables _)).tr (K_push _ _ _ _)
theorem K_procedure (x : nM) : q_K x (m_procedure x) := by
  rw [m_procedure]
  have d : q_K x (nm_f (nm_f (m_push (m_declare (m_goOn x) 2 ((m_goOn x).1 25) 0) 3 ((m_declare (m_goOn x) 2 ((m_goOn x).1 25) 0).1 15) ((m_declare (m_goOn x) 2 ((m_goOn x).1 25) 0).1 22)) 21 (((m_push (m_declare (m_goOn x) 2 ((m_goOn x).1 25) 0) 3 ((m_declare (m_goOn x) 2 ((m_goOn x).1 25) 0).1 15) ((m_declare (m_goOn x) 2 ((m_goOn x).1 25) 0).1 22)).1 21) + 1)) 22 3) :=
    ((((K_goOn x).tr (K_declare _ _ _ _)).tr (K_push _ _ _ _)).tr (q_K.f 21 _ (by decide))).tr (q_K.f 22 _ (by decide))
  by_cases c1 : x.1 21 = 4
  · rw [if_pos c1]; exact K_fail _ _ _ (by decide)
  rw [if_neg c1]
  generalize nm_f (nm_f (m_push (m_declare (m_goOn x) 2 ((m_goOn x).1 25) 0) 3 ((m_declare (m_goOn x) 2 ((m_goOn x).1 25) 0).1 15) ((m_declare (m_goOn x) 2 ((m_goOn x).1 25) 0).1 22)) 21 (((m_push (m_declare (m_goOn x) 2 ((m_goOn x).1 25) 0) 3 ((m_declare (m_goOn x) 2 ((m_goOn x).1 25) 0).1 15) ((m_declare (m_goOn x) 2 ((m_goOn x).1 25) 0).1 22)).1 21) + 1)) 22 3 = B at *
  split
  · split
    · exact (d.tr (K_goOn B)).tr (K_95 300 (m_goOn B) _ 0 1 0)
    · exact d.tr (K_176 _ _ _)
  · exact d.tr (K_176 _ _ _)
theorem K_parts (x : nM) (f s : Int32) : q_K x (m_parts x f s) := by
  rw [m_parts]; split
  · exact (K_push _ _ _ _).tr (K_procedure _)
  · split
    · exact (((((K_goOn _).tr (q_K.a 28 _ _ (by decide))).tr (K_emit _ _ _ _)).tr (K_push _ _ _ _)).tr (K_push _ _ _ _)).tr (K_push _ _ _ _)
    · exact K_fail _ _ _ (by decide)
theorem K_c40 (x : nM) (v : Int32) : q_K x (k_call_40 x v) := by rw [k_call_40]; exact ((K_open _).tr (K_push _ _ _ _)).tr (K_push _ _ _ _)
theorem K_c127 (x : nM) (v : Int32) : q_K x (k_call_127 x v) := by rw [k_call_127]; exact K_emit _ _ _ _
theorem K_c100 (x : nM) (v w : Int32) : q_K x (k_call_100 x v w) := by
  rw [k_call_100]; split
  · exact K_c127 _ _
  · split <;> (rw [k_call_120]; exact (K_fail _ _ _ (by decide)).tr (K_c127 _ _))
theorem K_call (x : nM) (v : Int32) : q_K x (m_call x v) := by
  rw [m_call]
  have d := K_goOn x
  split
  · split
    · exact d.tr (K_c40 _ _)
    · split
      · exact (d.tr (K_fail _ _ _ (by decide))).tr (K_c40 _ _)
      · exact d.tr (K_c40 _ _)
  · split
    · rw [k_call_95]; exact d.tr (K_c100 _ _ _)
    · split
      · rw [k_call_95]; exact d.tr (K_c100 _ _ _)
      · split
        · split
          · rw [k_call_99]; exact d.tr (K_c100 _ _ _)
          · rw [k_call_95]; exact d.tr (K_c100 _ _ _)
        · rw [k_call_99]; exact d.tr (K_c100 _ _ _)
theorem K_named (x : nM) : q_K x (m_named x) := by
  rw [m_named, e_peek]
  split
  · split
    · split
      · rw [k_named_52]; exact K_fail _ _ _ (by decide)
      · split
        · rw [k_named_52]; exact K_fail _ _ _ (by decide)
        · exact K_call _ _
    · split
      · split
        · exact (((K_goOn _).tr (K_open _)).tr (K_push _ _ _ _)).tr (K_push _ _ _ _)
        · exact K_fail _ _ _ (by decide)
      · split
        · exact (((K_goOn _).tr (K_goOn _)).tr (K_push _ _ _ _)).tr (K_push _ _ _ _)
        · exact K_fail _ _ _ (by decide)
  · exact K_fail _ _ _ (by decide)
theorem K_statement (x : nM) : q_K x (m_statement x) := by
  rw [m_statement]
  have p3 : ∀ u1 f1 u2 u3 : Int32, q_K x (m_push (m_push (m_push (m_open x) u1 f1 0) u2 0 0) u3 0 0) := fun _ _ _ _ => (((K_open _).tr (K_push _ _ _ _)).tr (K_push _ _ _ _)).tr (K_push _ _ _ _)
  by_cases c2 : x.1 3 = 2
  · rw [if_pos c2]; exact K_named x
  rw [if_neg c2]
  by_cases c3 : x.1 3 = 3
  · rw [if_pos c3]; exact q_K.rf
  rw [if_neg c3]
  by_cases c4 : x.1 3 = 4
  · rw [if_pos c4]; exact q_K.rf
  rw [if_neg c4]
  by_cases c5 : x.1 3 = 5
  · rw [if_pos c5]; exact q_K.rf
  rw [if_neg c5]
  by_cases c6 : x.1 3 = 6
  · rw [if_pos c6]; exact q_K.rf
  rw [if_neg c6]
  by_cases c7 : x.1 3 = 7
  · rw [if_pos c7]; exact p3 _ _ _ _
  rw [if_neg c7]
  by_cases c8 : x.1 3 = 8
  · rw [if_pos c8]; exact q_K.rf
  rw [if_neg c8]
  by_cases c9 : x.1 3 = 9
  · rw [if_pos c9]; exact p3 _ _ _ _
  rw [if_neg c9]
  by_cases c10 : x.1 3 = 10
  · rw [if_pos c10]; exact q_K.rf
  rw [if_neg c10]
  by_cases c11 : x.1 3 = 11
  · rw [if_pos c11]; exact q_K.rf
  rw [if_neg c11]
  by_cases c12 : x.1 3 = 12
  · rw [if_pos c12]; exact p3 _ _ _ _
  rw [if_neg c12]
  by_cases c13 : x.1 3 = 13
  · rw [if_pos c13]; exact q_K.rf
  rw [if_neg c13]
  by_cases c14 : x.1 3 = 14
  · rw [if_pos c14]; exact ((K_goOn _).tr (K_push _ _ _ _)).tr (K_push _ _ _ _)
  rw [if_neg c14]; exact q_K.rf
theorem K_row (x : nM) : q_K x (m_row x) := by
  rw [m_row]; split
  · exact ((K_goOn _).tr (K_push _ _ _ _)).tr (K_push _ _ _ _)
  · exact K_expect _ _
theorem K_105 (x : nM) (v : Int32) : q_K x (k_branches_105 x v) := by rw [k_branches_105]; exact (q_K.a 28 _ _ (by decide)).tr (q_K.f 24 _ (by decide))
theorem K_93 (x : nM) (u f s : Int32) : q_K x (k_branches_93 x u f s) := by
  rw [k_branches_93]; split
  · exact K_105 _ _
  · split
    · exact K_105 _ _
    · split
      · exact (((K_expect _ _).tr (K_emit _ _ _ _)).tr (K_push _ _ _ _)).tr (K_push _ _ _ _)
      · exact ((K_emit _ _ _ _).tr (q_K.a 28 _ _ (by decide))).tr (q_K.f 24 _ (by decide))
theorem K_branches (x : nM) (u f s : Int32) : q_K x (m_branches x u f s) := by
  rw [m_branches]; split
  · exact (((K_expect _ _).tr (K_emit _ _ _ _)).tr (K_push _ _ _ _)).tr (K_push _ _ _ _)
  · split
    · split
      · exact ((((K_goOn _).tr (K_emit _ _ _ _)).tr (K_push _ _ _ _)).tr (q_K.a 28 _ _ (by decide))).tr (K_push _ _ _ _)
      · exact K_93 _ _ _ _
    · exact K_93 _ _ _ _
theorem K_condition (x : nM) : q_K x (m_condition x) := by
  have h : ∀ w, q_K x (k_condition_57 x w) := fun w => by
    rw [k_condition_57]; split
    · rw [k_condition_71]; exact (((K_fail _ _ _ (by decide)).tr (K_goOn _)).tr (K_push _ _ _ _)).tr (K_push _ _ _ _)
    · rw [k_condition_71]; exact ((K_goOn _).tr (K_push _ _ _ _)).tr (K_push _ _ _ _)
  rw [m_condition]
  split
  · exact h _
  · split
    · exact h _
    · split
      · exact h _
      · split <;> exact h _
theorem K_expression (x : nM) : q_K x (m_expression x) := by
  rw [m_expression]; split
  · rw [k_expression_31]; exact (((K_push _ _ _ _).tr (K_goOn _)).tr (K_push _ _ _ _)).tr (K_push _ _ _ _)
  · rw [k_expression_31]; exact (K_push _ _ _ _).tr (K_push _ _ _ _)
theorem K_chain (x : nM) (a1 a2 a3 a4 a5 : Int32) : q_K x (m_chain x a1 a2 a3 a4 a5) := by
  have h : ∀ w, q_K x (k_chain_33 x a1 a5 w) := fun w => by
    rw [k_chain_33]; exact (((K_goOn _).tr (K_push _ _ _ _)).tr (K_push _ _ _ _)).tr (K_push _ _ _ _)
  have g : q_K x (k_chain_16 x a1 a2 a4 a5) := by rw [k_chain_16]; split <;> exact h _
  rw [m_chain]; split
  · exact g
  · split
    · exact g
    · exact q_K.rf
theorem K_144 (x : nM) (v1 v2 w0 w1 : Int32) : q_K x (k_factor_144 x v1 v2 w0 w1) := by
  rw [k_factor_144]; split
  · split
    · exact (K_emit _ _ _ _).tr (K_goOn _)
    · exact (((K_goOn _).tr (K_open _)).tr (K_push _ _ _ _)).tr (K_push _ _ _ _)
  · rw [k_factor_147]; exact K_fail _ _ _ (by decide)
theorem K_101 (x : nM) (v w : Int32) : q_K x (k_factor_101 x v w) := by
  rw [k_factor_101]; split
  · split
    · rw [k_factor_147]; exact K_fail _ _ _ (by decide)
    · split <;> exact K_144 _ _ _ _ _
  · exact K_fail _ _ _ (by decide)
theorem K_factor (x : nM) : q_K x (m_factor x) := by
  rw [m_factor, e_peek]; split
  · exact (K_emit _ _ _ _).tr (K_goOn _)
  · split
    · exact ((K_open _).tr (K_push _ _ _ _)).tr (K_push _ _ _ _)
    · split
      · split <;> exact K_101 _ _ _
      · exact K_fail _ _ _ (by decide)
theorem K_60 (x : nM) (v : Int32) : q_K x (k_argument_60 x v) := by rw [k_argument_60]; exact (K_close _ _).tr (K_emit _ _ _ _)
theorem K_argument (x : nM) (u v : Int32) : q_K x (m_argument x u v) := by
  rw [m_argument]; split
  · exact ((K_goOn _).tr (K_push _ _ _ _)).tr (K_push _ _ _ _)
  · split
    · split
      · exact K_60 _ _
      · exact (K_fail _ _ _ (by decide)).tr (K_60 _ _)
    · exact K_60 _ _
theorem K_element (x : nM) (u v : Int32) : q_K x (m_element x u v) := by
  rw [m_element]; split
  · exact ((K_close _ _).tr (K_emit _ _ _ _)).tr (K_emit _ _ _ _)
  · exact ((((K_close _ _).tr (K_emit _ _ _ _)).tr (K_expect _ _)).tr (K_push _ _ _ _)).tr (K_push _ _ _ _)
theorem K_perform (x : nM) (a1 a2 a3 : Int32) : q_K x (m_perform x a1 a2 a3) := by
  rw [m_perform]
  by_cases c0 : a1 = 0
  · rw [if_pos c0]; exact K_block x
  rw [if_neg c0]
  by_cases c1 : a1 = 1
  · rw [if_pos c1]; exact K_parts x a2 a3
  rw [if_neg c1]
  by_cases c2 : a1 = 2
  · rw [if_pos c2]; exact K_emit x 9 a2 0
  rw [if_neg c2]
  by_cases c3 : a1 = 3
  · rw [if_pos c3]; exact (((K_expect _ _).tr (q_K.f 15 _ (by decide))).tr (q_K.f 22 _ (by decide))).tr (q_K.f 21 _ (by decide))
  rw [if_neg c3]
  by_cases c4 : a1 = 4
  · rw [if_pos c4]; split
    · exact K_expect _ _
    · exact (K_expect _ _).tr (K_fail _ _ _ (by decide))
  rw [if_neg c4]
  by_cases c5 : a1 = 5
  · rw [if_pos c5]; exact K_row x
  rw [if_neg c5]
  by_cases c6 : a1 = 6
  · rw [if_pos c6]; exact K_statement x
  rw [if_neg c6]
  by_cases c7 : a1 = 7
  · rw [if_pos c7]; exact q_K.f 24 _ (by decide)
  rw [if_neg c7]
  by_cases c8 : a1 = 8
  · rw [if_pos c8]; exact K_branches x a1 a2 a3
  rw [if_neg c8]
  by_cases c9 : a1 = 9
  · rw [if_pos c9]; exact K_branches x a1 a2 a3
  rw [if_neg c9]
  by_cases c10 : a1 = 10
  · rw [if_pos c10]; exact K_branches x a1 a2 a3
  rw [if_neg c10]
  by_cases c11 : a1 = 11
  · rw [if_pos c11]; exact K_branches x a1 a2 a3
  rw [if_neg c11]
  by_cases c12 : a1 = 12
  · rw [if_pos c12]; exact K_branches x a1 a2 a3
  rw [if_neg c12]
  by_cases c13 : a1 = 13
  · rw [if_pos c13]; exact K_condition x
  rw [if_neg c13]
  by_cases c14 : a1 = 14
  · rw [if_pos c14]; exact K_expression x
  rw [if_neg c14]
  by_cases c15 : a1 = 15
  · rw [if_pos c15]; exact K_chain x a1 43 45 2 16
  rw [if_neg c15]
  by_cases c16 : a1 = 16
  · rw [if_pos c16]; exact (K_push _ _ _ _).tr (K_push _ _ _ _)
  rw [if_neg c16]
  by_cases c17 : a1 = 17
  · rw [if_pos c17]; exact K_chain x a1 42 47 4 18
  rw [if_neg c17]
  by_cases c18 : a1 = 18
  · rw [if_pos c18]; exact K_factor x
  rw [if_neg c18]
  by_cases c19 : a1 = 19
  · rw [if_pos c19]; exact K_close x 41
  rw [if_neg c19]
  by_cases c20 : a1 = 20
  · rw [if_pos c20]; exact K_element x a2 0
  rw [if_neg c20]
  by_cases c21 : a1 = 21
  · rw [if_pos c21]; exact K_element x a2 1
  rw [if_neg c21]
  by_cases c22 : a1 = 22
  · rw [if_pos c22]; exact K_argument x a2 a3
  rw [if_neg c22]
  by_cases c23 : a1 = 23
  · rw [if_pos c23]; exact K_emit x _ _ _
  rw [if_neg c23]
  exact K_branches x a1 a2 a3
theorem C_loopK {ty : Nat} : ∀ (f r R : Nat) (x : nM), R + r ≤ 4000 → r < f → q_SR x ty r → ∃ y, k_compile_61 f x (nI R) = k_compile_129 y ∧ (p_compile_129 y → p_compile_61 f x (nI R)) ∧ (y.1 7 ≠ 0 ∨ ∃ Γ nb a b0 nm md r' c, q_CI y Γ nb ty a b0 0 nm md r' c) ∧ q_K x y := by
  intro f
  induction f with
  | zero => intro r R x _ h; omega
  | succ f ih =>
    intro r R x hR hf hx
    have hb : ¬ (5000 : Int32) ≤ nI R := fun q => absurd ((nI_leI (a := 5000) (by decide) (by omega)).mp q) (by omega)
    rw [k_compile_61, p_compile_61, if_neg hb]
    by_cases h7 : x.1 7 = 0
    · rcases hx with hx | ⟨Γ, nb, a, b0, nt, nm, md, c, hC⟩
      · exact absurd h7 hx
      have h11 : x.1 11 = nI nt := hC.2.2.1
      have hwt : q_wt x nt + 8 * (ty - a) ≤ r := hC.2.2.2.2.2.2.2.2.2.2.2.2.2.2.2.2.2
      have := q_wt.pos (x := x) nt
      cases nt with
      | zero =>
        have h0 : x.1 11 ≤ 0 := by rw [h11]; decide
        rw [if_pos h0]
        exact ⟨x, rfl, fun q => ⟨fun w => absurd w hb, fun _ => ⟨fun _ => q, fun w => absurd h0 w⟩⟩, Or.inr ⟨Γ, nb, a, b0, nm, md, r, c, hC⟩, q_K.rf⟩
      | succ n =>
        obtain ⟨r, rfl⟩ : ∃ q, r = q + 1 := ⟨r - 1, by omega⟩
        have hn : n + 1 ≤ 4000 := by omega
        have h0 : ¬ x.1 11 ≤ 0 := by rw [h11]; exact nI_ge (a := 0) (by omega) (by omega)
        rw [if_neg h0, if_pos h7]
        have e11 : x.1 11 - 1 = nI n := by rw [h11]; exact nz_dm n
        obtain ⟨s1, s2⟩ := S_all hC
        have e12 : nm_g x 12 (x.1 11 - 1) = x.2 12 n := by rw [e11]; exact q_g x 12 n (by omega)
        have e13 : nm_g x 13 (x.1 11 - 1) = x.2 13 n := by rw [e11]; exact q_g x 13 n (by omega)
        have e14 : nm_g x 14 (x.1 11 - 1) = x.2 14 n := by rw [e11]; exact q_g x 14 n (by omega)
        rw [e12, e13, e14, nI_1]
        obtain ⟨y, y1, y2, y3, y4⟩ := ih r (R + 1) _ (by omega) (by omega) s2
        refine ⟨y, y1, fun q => ⟨fun w => absurd w hb, fun _ => ⟨fun w => absurd w h0, fun _ => ⟨fun _ => ?_, fun w => absurd h7 w⟩⟩⟩, y3, ((q_K.f 11 _ (by decide)).tr (K_perform _ _ _ _)).tr y4⟩
        have hn260 : n < 260 := by
          have k := q_TS.len (n + 1) c hC.2.2.2.2.2.2.2.2.2.2.2.2.2.2.2.1
          have d6 : c.2.2.2.1 ≤ 6 := hC.2.2.2.2.2.2.2.1
          have l4 := (hC.2.2.2.2.2.2.2.2.2.2.2.1.2.2.2 c.1 hC.2.2.2.2.2.2.2.2.2.2.1).2.2.1
          omega
        have hi : vp_in (x.1 11 - 1) 260 := by rw [e11]; exact q_in hn260 (by decide)
        exact ⟨hi, hi, hi, s1, y2 q⟩
    · refine ⟨x, ?_, fun q => ⟨fun w => absurd w hb, fun _ => ⟨fun _ => q, fun _ => ⟨fun w => absurd w h7, fun _ => q⟩⟩⟩, Or.inl h7, q_K.rf⟩
      split
      · rfl
      · first | rfl | rw [if_neg h7]
/-! the end of a compile -/
theorem F_54 : ∀ (n i : Nat) (x : nM), i ≤ 8 → 8 - i < n → p_forget_54 n x (nI i) ∧ (k_forget_54 n x (nI i)).1 = x.1 ∧ ∀ k, k ≠ 41 → (k_forget_54 n x (nI i)).2 k = x.2 k := by
  intro n
  induction n with
  | zero => intro i x _ h; omega
  | succ n ih =>
    intro i x hi hn
    rw [k_forget_54, p_forget_54]
    by_cases c : (8 : Int32) ≤ nI i
    · rw [if_pos c]; exact ⟨⟨fun _ => trivial, fun q => absurd c q⟩, rfl, fun _ _ => rfl⟩
    · rw [if_neg c, nI_1]
      have h8 : i < 8 := by
        rcases Nat.lt_or_ge i 8 with q | q
        · exact q
        · exact absurd (nI_le (a := 8) q (by omega)) c
      obtain ⟨k1, k2, k3⟩ := ih (i + 1) (nm_a x 41 (nI i) 0) (by omega) (by omega)
      exact ⟨⟨fun q => absurd q c, fun _ => ⟨q_in h8 (by decide), k1⟩⟩, k2, fun k hk => by rw [k3 k hk, q_a2, if_neg hk]⟩
theorem F_32 : ∀ (n i : Nat) (x : nM), i ≤ 200 → 200 - i < n → (∀ j, j < i → x.2 40 j = 0) → p_forget_32 n x (nI i) ∧ (k_forget_32 n x (nI i)).1 = x.1 ∧ (∀ k, k ≠ 40 → k ≠ 41 → (k_forget_32 n x (nI i)).2 k = x.2 k) ∧ ∀ j, j < 200 → (k_forget_32 n x (nI i)).2 40 j = 0 := by
  intro n
  induction n with
  | zero => intro i x _ h; omega
  | succ n ih =>
    intro i x hi hn hz
    rw [k_forget_32, p_forget_32]
    by_cases c : (200 : Int32) ≤ nI i
    · rw [if_pos c]
      have h2 : i = 200 := by
        have := (nI_leI (a := 200) (by decide) (show i < 2 ^ 31 by omega)).mp c
        omega
      obtain ⟨k1, k2, k3⟩ := F_54 300 0 x (by omega) (by omega)
      rw [show nI 0 = (0 : Int32) from rfl] at k1 k2 k3
      exact ⟨⟨fun _ => k1, fun q => absurd c q⟩, k2, fun k _ h41 => k3 k h41, fun j hj => by
        have := k3 40 (by decide)
        exact (congrFun this j).trans (hz j (by omega))⟩
    · rw [if_neg c, nI_1]
      have h8 : i < 200 := by
        rcases Nat.lt_or_ge i 200 with q | q
        · exact q
        · exact absurd (nI_le (a := 200) q (by omega)) c
      obtain ⟨k1, k2, k3, k4⟩ := ih (i + 1) (nm_a x 40 (nI i) 0) (by omega) (by omega) (fun j hj => by
        rw [q_a2, if_pos rfl, nI_clamp (by omega)]
        show (if j = i then 0 else x.2 40 j) = 0
        by_cases e : j = i
        · rw [if_pos e]
        · rw [if_neg e]; exact hz j (by omega))
      exact ⟨⟨fun q => absurd q c, fun _ => ⟨q_in h8 (by decide), k1⟩⟩, k2, fun k h40 h41 => by rw [k3 k h40 h41, q_a2, if_neg h40], k4⟩
theorem F_forget (x : nM) : o_forget x ∧ (∀ k, k < 34 ∨ 39 < k → (m_forget x).1 k = x.1 k) ∧ ((m_forget x).1 34 = 0 ∧ (m_forget x).1 35 = 0 ∧ (m_forget x).1 36 = 0 ∧ (m_forget x).1 37 = -1 ∧ (m_forget x).1 38 = 0 ∧ (m_forget x).1 39 = 0) ∧ (∀ k, k ≠ 40 → k ≠ 41 → (m_forget x).2 k = x.2 k) ∧ ∀ j, j < 200 → (m_forget x).2 40 j = 0 := by
  unfold o_forget m_forget
  obtain ⟨k1, k2, k3, k4⟩ := F_32 300 0 (nm_f (nm_f (nm_f (nm_f (nm_f (nm_f x 34 0) 35 0) 36 0) 37 (-1)) 38 0) 39 0) (by omega) (by omega) (fun j hj => by omega)
  rw [show nI 0 = (0 : Int32) from rfl] at k1 k2 k3 k4
  refine ⟨k1, fun k hk => ?_, ?_, k3, k4⟩
  · rw [k2, q_f1, if_neg (by omega), q_f1, if_neg (by omega), q_f1, if_neg (by omega), q_f1, if_neg (by omega), q_f1, if_neg (by omega), q_f1, if_neg (by omega)]
  · rw [k2]; exact ⟨rfl, rfl, rfl, rfl, rfl, rfl⟩
set_option maxRecDepth 8000 in
theorem F_207 {md : Nat} (hm : md ≤ 363) : ∀ (n i : Nat) (x : nM), x.1 25 = nI md → i ≤ md → md - i < n → (∀ j, j < i → x.2 30 j = x.2 26 j ∧ x.2 31 j = x.2 27 j ∧ x.2 32 j = x.2 28 j) →
    p_compile_207 n x (nI i) ∧ ∃ z, (k_compile_207 n x (nI i)).1 = m_forget (nm_f z 33 1) ∧ z.1 = x.1 ∧ (∀ k, k < 30 ∨ 32 < k → z.2 k = x.2 k) ∧ ∀ j, j < md → z.2 30 j = x.2 26 j ∧ z.2 31 j = x.2 27 j ∧ z.2 32 j = x.2 28 j := by
  intro n
  induction n with
  | zero => intro i x _ _ h; omega
  | succ n ih =>
    intro i x h25 hi hn hj
    rw [k_compile_207, p_compile_207]
    by_cases c : x.1 25 ≤ nI i
    · rw [if_pos c]
      have h2 : i = md := by
        rw [h25] at c
        have := (nI_leI (show md < 2 ^ 31 by omega) (show i < 2 ^ 31 by omega)).mp c
        omega
      subst h2
      have hF := F_forget (nm_f x 33 1)
      refine ⟨⟨fun _ => ?_, fun q => absurd c q⟩, x, ?_, rfl, fun _ _ => rfl, hj⟩
      · exact And.intro hF.1 trivial
      · rfl
    · rw [if_neg c, nI_1]
      have h8 : i < md := by
        rcases Nat.lt_or_ge i md with q | q
        · exact q
        · exact absurd (by rw [h25]; exact nI_le q (by omega)) c
      have hin : vp_in (nI i) 400 := q_in (by omega) (by decide)
      have g : ∀ k j, (nm_a (nm_a (nm_a x 30 (nI i) (nm_g x 26 (nI i))) 31 (nI i) (nm_g x 27 (nI i))) 32 (nI i) (nm_g x 28 (nI i))).2 k j = if k = 32 ∧ j = i then x.2 28 i else if k = 31 ∧ j = i then x.2 27 i else if k = 30 ∧ j = i then x.2 26 i else x.2 k j := fun k j => by
        rw [q_g x 26 i (by omega), q_g x 27 i (by omega), q_g x 28 i (by omega)]
        simp only [q_a2, nI_clamp (show i < 2 ^ 31 by omega)]
        have un : ∀ (f : Nat → Int32) (w : Int32), upd f i w j = if j = i then w else f j := fun f w => rfl
        by_cases e14 : k = 32
        · subst e14; simp [un]
        by_cases e13 : k = 31
        · subst e13; simp [un]
        by_cases e12 : k = 30
        · subst e12; simp [un]
        simp [e14, e13, e12]
      generalize hw : nm_a (nm_a (nm_a x 30 (nI i) (nm_g x 26 (nI i))) 31 (nI i) (nm_g x 27 (nI i))) 32 (nI i) (nm_g x 28 (nI i)) = w at *
      have w1 : w.1 = x.1 := by rw [← hw]; rfl
      obtain ⟨k1, z, k2, k3, k4, k5⟩ := ih (i + 1) w (by rw [w1]; exact h25) (by omega) (by omega) (fun j hj' => by
        rw [g, g, g, g, g, g, if_neg (show ¬ (26 = 32 ∧ j = i) by omega), if_neg (show ¬ (26 = 31 ∧ j = i) by omega), if_neg (show ¬ (26 = 30 ∧ j = i) by omega), if_neg (show ¬ (27 = 32 ∧ j = i) by omega), if_neg (show ¬ (27 = 31 ∧ j = i) by omega), if_neg (show ¬ (27 = 30 ∧ j = i) by omega), if_neg (show ¬ (28 = 32 ∧ j = i) by omega), if_neg (show ¬ (28 = 31 ∧ j = i) by omega), if_neg (show ¬ (28 = 30 ∧ j = i) by omega)]
        by_cases e : j = i
        · subst e; simp
        · obtain ⟨q1, q2, q3⟩ := hj j (by omega)
          simp [e, q1, q2, q3])
      have go : ∀ k j, k < 30 ∨ 32 < k → w.2 k j = x.2 k j := fun k j hk => by rw [g, if_neg (by omega), if_neg (by omega), if_neg (by omega)]
      exact ⟨⟨fun q => absurd q c, fun _ => ⟨hin, hin, hin, hin, hin, hin, k1⟩⟩, z, k2, k3.trans w1, fun k hk => (k4 k hk).trans (funext fun j => go k j hk), fun j hj' => by
        obtain ⟨q1, q2, q3⟩ := k5 j hj'
        exact ⟨q1.trans (go 26 j (by omega)), q2.trans (go 27 j (by omega)), q3.trans (go 28 j (by omega))⟩⟩
