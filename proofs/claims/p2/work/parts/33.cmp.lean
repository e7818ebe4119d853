/-- code, seen through its instructions alone -/
theorem q_code.eq {Γ : q_G} {nb md : Nat} {O L A O' L' A' : Nat → Int32} (h : q_code Γ nb md O L A) (hO : ∀ i, i < md → O' i = O i) (hL : ∀ i, i < md → L' i = L i) (hA : ∀ i, i < md → A' i = A i) : q_code Γ nb md O' L' A' := by
  obtain ⟨h1, h2, h3, h4, h5, h6, h7, h8⟩ := h
  refine ⟨h1, h2, h3, h4, h5, h6, fun i hi => ?_, fun i hi => by rw [hO i (by omega), hA i (by omega)]; exact h8 i hi⟩
  obtain ⟨⟨k0, k1⟩, k2⟩ := h7 i hi
  refine ⟨⟨k0, by rw [hO i hi, hL i hi, hA i hi]; exact k1⟩, fun q => ?_⟩
  rw [hO i hi] at q
  obtain ⟨t, t1, t2, t3⟩ := k2 q
  refine ⟨t, by rw [hA i hi]; exact t1, t2, ?_⟩
  rw [hO t t2]; exact t3
/-- what a compile leaves -/
def q_cmp (x y : nM) : Prop := y.1 1 = 0 ∧ y.2 2 = x.2 2 ∧ (((∀ k, k = 29 ∨ (32 < k ∧ k < 40) → y.1 k = x.1 k) ∧ ∀ k, 29 < k → y.2 k = x.2 k) ∨
  (∃ Γ nb md, q_code Γ nb md (y.2 30) (y.2 31) (y.2 32) ∧ y.1 29 = nI md ∧ y.1 33 = 1 ∧ (y.1 34 = 0 ∧ y.1 35 = 0 ∧ y.1 36 = 0 ∧ y.1 37 = -1 ∧ y.1 38 = 0 ∧ y.1 39 = 0) ∧ ∀ j, j < 200 → y.2 40 j = 0))
theorem C_129 {x y : nM} (hK : q_K x y) (h0 : 0 ≤ y.1 7) (hy : y.1 7 ≠ 0 ∨ ∃ Γ nb md, q_code Γ nb md (y.2 26) (y.2 27) (y.2 28) ∧ y.1 25 = nI md ∧ y.1 7 = 0) : p_compile_129 y ∧ q_cmp x (k_compile_129 y).1 := by
  rw [p_compile_129, k_compile_129]
  by_cases c : y.1 7 ≤ 0
  · have e0 : y.1 7 = 0 := Int32.le_antisymm c h0
    obtain ⟨Γ, nb, md, hc, h25, -⟩ : ∃ Γ nb md, q_code Γ nb md (y.2 26) (y.2 27) (y.2 28) ∧ y.1 25 = nI md ∧ y.1 7 = 0 := by
      rcases hy with q | q
      · exact absurd e0 q
      · exact q
    rw [if_pos c]
    have k147 : ∀ z : nM, z.1 7 ≤ 0 → z.1 25 = nI md → z.2 = y.2 → z.1 1 = 0 → ∀ w, p_compile_147 z w ∧ q_cmp x (k_compile_147 z w).1 := fun z z7 z25 z2 z1 w => by
      rw [p_compile_147, k_compile_147, if_pos z7, p_compile_166, k_compile_166]
      have a7 : (nm_f z 0 w).1 7 ≤ 0 := z7
      rw [if_pos a7, p_compile_185, k_compile_185]
      have b7 : (nm_f (nm_f z 0 w) 9 (-1)).1 7 ≤ 0 := z7
      rw [if_pos b7]
      obtain ⟨s1, v, s2, s3, s4, s5⟩ := F_207 hc.2.2.1 401 0 (nm_f (nm_f (nm_f (nm_f z 0 w) 9 (-1)) 10 (-1)) 29 ((nm_f (nm_f z 0 w) 9 (-1)).1 25)) z25 (Nat.zero_le _) (by have := hc.2.2.1; omega) (fun j hj => by omega)
      rw [show nI 0 = (0 : Int32) from rfl] at s1 s2
      refine ⟨⟨fun _ => ⟨fun _ => ⟨fun _ => s1, fun q => absurd b7 q⟩, fun q => absurd a7 q⟩, fun q => absurd z7 q⟩, ?_⟩
      rw [s2]
      obtain ⟨-, f2, f3, f4, f5⟩ := F_forget (nm_f v 33 1)
      refine ⟨?_, ?_, Or.inr ⟨Γ, nb, md, ?_, ?_, ?_, f3, f5⟩⟩
      · rw [f2 1 (by omega)]; show v.1 1 = 0; rw [s3]; exact z1
      · rw [f4 2 (by decide) (by decide)]; show v.2 2 = _
        rw [s4 2 (by omega)]; show z.2 2 = _; rw [z2]; exact hK.2.1 2 (by omega)
      · rw [f4 30 (by decide) (by decide), f4 31 (by decide) (by decide), f4 32 (by decide) (by decide)]
        refine hc.eq (fun i hi => ?_) (fun i hi => ?_) (fun i hi => ?_)
        · refine (s5 i hi).1.trans ?_; show z.2 26 i = _; rw [z2]
        · refine (s5 i hi).2.1.trans ?_; show z.2 27 i = _; rw [z2]
        · refine (s5 i hi).2.2.trans ?_; show z.2 28 i = _; rw [z2]
      · rw [f2 29 (by omega)]; show v.1 29 = _; rw [s3]; exact z25
      · rw [f2 33 (by omega)]; rfl
    have k := k147 (nm_f y 1 0) c h25 rfl rfl 0
    exact ⟨⟨fun _ => k.1, fun q => absurd c q⟩, k.2⟩
  · rw [if_neg c]
    have n7 : ∀ (z : nM), z.1 7 = y.1 7 → ¬ z.1 7 ≤ 0 := fun z hz => by rw [hz]; exact c
    rw [p_compile_147, k_compile_147, if_neg (n7 (nm_f y 1 0) rfl), p_compile_166, k_compile_166, if_neg (n7 (nm_f (nm_f y 1 0) 0 1) rfl), p_compile_185, k_compile_185, if_neg (n7 (nm_f (nm_f (nm_f y 1 0) 0 1) 9 ((nm_f y 1 0).1 7)) rfl)]
    refine ⟨⟨fun q => absurd q c, fun _ => ⟨fun q => absurd q (n7 (nm_f y 1 0) rfl), fun _ => ⟨fun q => absurd q (n7 (nm_f (nm_f y 1 0) 0 1) rfl), fun _ => ⟨fun q => absurd q (n7 (nm_f (nm_f (nm_f y 1 0) 0 1) 9 ((nm_f y 1 0).1 7)) rfl), fun _ => trivial⟩⟩⟩⟩, ?_, ?_, Or.inl ⟨fun k hk => ?_, fun k hk => ?_⟩⟩
    · rfl
    · exact hK.2.1 2 (by omega)
    · show (nm_f (nm_f (nm_f (nm_f y 1 0) 0 1) 9 _) 10 _).1 k = _
      rw [q_f1, if_neg (by omega), q_f1, if_neg (by omega), q_f1, if_neg (by omega), q_f1, if_neg (by omega)]; exact hK.1 k (by omega)
    · exact hK.2.1 k (by omega)
theorem q_K.f7 {x : nM} : q_K x (nm_f x 7 0) := ⟨fun j q => by rw [q_f1, if_neg (by omega)], fun _ _ => rfl, fun _ => by rw [q_f1, if_pos rfl]; decide⟩
/-- the reference's compile, whatever the text -/
theorem C_compile {x : nM} {ty : Nat} (h1 : x.1 1 = nI ty) (h8 : ty ≤ 180) : o_compile x ∧ q_cmp x (m_compile x).1 := by
  obtain ⟨⟨o1, o2, o3⟩, hs⟩ := C_start h1 h8
  unfold o_compile m_compile
  have k0 : q_K x (nm_f (nm_f (nm_f (nm_f (nm_f (nm_f (nm_f (nm_f x 11 0) 15 0) 21 0) 22 3) 23 0) 24 0) 25 0) 7 0) := (((((((q_K.f 11 _ (by decide)).tr (q_K.f 15 _ (by decide))).tr (q_K.f 21 _ (by decide))).tr (q_K.f 22 _ (by decide))).tr (q_K.f 23 _ (by decide))).tr (q_K.f 24 _ (by decide))).tr (q_K.f 25 _ (by decide))).tr q_K.f7
  have z7 : (nm_f (nm_f (nm_f (nm_f (nm_f (nm_f (nm_f (nm_f x 11 0) 15 0) 21 0) 22 3) 23 0) 24 0) 25 0) 7 0).1 7 = 0 := rfl
  generalize nm_f (nm_f (nm_f (nm_f (nm_f (nm_f (nm_f (nm_f x 11 0) 15 0) 21 0) 22 3) 23 0) 24 0) 25 0) 7 0 = z at *
  have k1 : q_K z (m_look (m_push (m_push z 4 0 0) 0 0 0) 0) := ((K_push _ _ _ _).tr (K_push _ _ _ _)).tr (q_K.lk (U_look _ _))
  generalize m_look (m_push (m_push z 4 0 0) 0 0 0) 0 = w at *
  obtain ⟨y, y1, y2, y3, y4⟩ := C_loopK 5001 1443 0 w (by omega) (by omega) hs
  rw [show nI 0 = (0 : Int32) from rfl] at y1 y2
  have hK : q_K x y := (k0.tr k1).tr y4
  have h0 : 0 ≤ y.1 7 := (k1.tr y4).2.2 (by rw [z7]; decide)
  obtain ⟨c1, c2⟩ := C_129 hK h0 (by
    rcases y3 with q | ⟨Γ, nb, a, b0, nm, md, r', c, hC⟩
    · exact Or.inl q
    · obtain ⟨e1, e2⟩ := C_end hC
      exact Or.inr ⟨Γ, nb, md, e1, e2, hC.2.1⟩)
  rw [y1]
  exact ⟨⟨o1, o2, o3, y2 c1⟩, c2⟩
