/-! the reference's machine: what holds while it runs -/
/-- what is known of the cells on top -/
def q_sk (M : Nat → Int32) : Nat → q_Ty → Prop
  | _, [] => True
  | tp, u :: r => (∀ m, u = some m → ∃ v, v < m ∧ M (tp - 1) = nI v) ∧ q_sk M (tp - 1) r
theorem q_sk.eq {M M' : Nat → Int32} : ∀ (t : q_Ty) (tp : Nat), (∀ p, tp ≤ p + t.length → p < tp → M' p = M p) → t.length ≤ tp → q_sk M tp t → q_sk M' tp t := by
  intro t
  induction t with
  | nil => intro _ _ _ _; exact trivial
  | cons u r ih =>
    intro tp hp hl h
    simp only [List.length_cons] at hp hl
    refine ⟨fun m hm => ?_, ih (tp - 1) (fun p h1 h2 => hp p (by omega) (by omega)) (by omega) h.2⟩
    obtain ⟨v, v1, v2⟩ := h.1 m hm
    exact ⟨v, v1, by rw [hp (tp - 1) (by omega) (by omega)]; exact v2⟩
theorem q_fr.eq {Γ : q_G} {md : Nat} {M M' : Nat → Int32} : ∀ (fs : List (Nat × Nat)), (∀ g ∈ fs, ∀ k, k < 3 → M' (g.1 + k) = M (g.1 + k)) → q_fr Γ md M fs → q_fr Γ md M' fs := by
  intro fs
  induction fs with
  | nil => intro _ h; exact h
  | cons f rest ih =>
    intro hp h
    cases rest with
    | nil => exact h
    | cons g rest =>
      obtain ⟨h1, h2, h3, ⟨r, r1, r2⟩, ⟨S, s1, s2⟩, h7⟩ := h
      have e0 := hp f List.mem_cons_self 0 (by decide)
      have e1 := hp f List.mem_cons_self 1 (by decide)
      have e2 := hp f List.mem_cons_self 2 (by decide)
      exact ⟨h1, h2, e1.trans h3, ⟨r, e2.trans r1, r2⟩, ⟨S, e0.trans s1, s2⟩, ih (fun g hg => hp g (List.mem_cons_of_mem _ hg)) h7⟩
/-- two frames lie apart -/
theorem q_fr.ap {Γ : q_G} {md : Nat} {M : Nat → Int32} : ∀ (fs : List (Nat × Nat)) (f : Nat × Nat), q_fr Γ md M (f :: fs) → (∀ g ∈ fs, 3 ≤ g_c Γ g.2) → ∀ s ∈ f :: fs, ∀ g ∈ f :: fs, g = s ∨ (g.1 + g_c Γ g.2 + g_n Γ s.2 ≤ s.1 ∧ 3 ≤ g_c Γ g.2) ∨ s.1 + g_c Γ s.2 ≤ g.1 := by
  intro fs
  induction fs with
  | nil => intro f _ _ s hs g hg; rw [List.mem_singleton.mp hs, List.mem_singleton.mp hg]; exact Or.inl rfl
  | cons f' rest ih =>
    intro f h h3 s hs g hg
    have hb := q_fr.below _ _ h
    obtain ⟨h1, h2, -, -, -, h7⟩ := h
    rcases List.mem_cons.mp hs with q | q
    · rcases List.mem_cons.mp hg with r | r
      · exact Or.inl (r.trans q.symm)
      · refine Or.inr (Or.inl ⟨?_, h3 g r⟩)
        rw [q]
        rcases List.mem_cons.mp r with w | w
        · rw [w]; omega
        · have := q_fr.below _ _ h7 g w; omega
    · rcases List.mem_cons.mp hg with r | r
      · rw [r]; exact Or.inr (Or.inr (hb s q))
      · exact ih f' h7 (fun g hg => h3 g (List.mem_cons_of_mem _ hg)) s q g r
/-- so many frames, so many cells -/
theorem q_fr.len {Γ : q_G} {md : Nat} {M : Nat → Int32} : ∀ (fs : List (Nat × Nat)) (f : Nat × Nat), q_fr Γ md M (f :: fs) → (∀ g ∈ fs, 3 ≤ g_c Γ g.2) → 3 * fs.length ≤ f.1 := by
  intro fs
  induction fs with
  | nil => intro f _ _; exact Nat.zero_le _
  | cons f' rest ih =>
    intro f h h3
    obtain ⟨h1, h2, -, -, -, h7⟩ := h
    have := ih f' h7 (fun g hg => h3 g (List.mem_cons_of_mem _ hg))
    have := h3 f' List.mem_cons_self
    simp only [List.length_cons]; omega
/-- where the stack stands, by an instruction's annotation -/
def q_tp (Γ : q_G) (M : Nat → Int32) (B e tp : Nat) (a : Nat × Option q_Ty) : Prop := a.1 = e ∧ ((a.2 = none ∧ tp = B) ∨ ∃ t, a.2 = some t ∧ 3 ≤ g_c Γ e ∧ tp = B + g_c Γ e + t.length ∧ q_sk M tp t)
def q_MI (Γ : q_G) (nb md : Nat) (x : nM) (B e : Nat) (fs : List (Nat × Nat)) (i tp : Nat) : Prop :=
  q_fr Γ md (x.2 40) ((B, e) :: fs) ∧ (∀ g ∈ (B, e) :: fs, g.2 < nb) ∧ (∀ g ∈ fs, 3 ≤ g_c Γ g.2) ∧ B + 3 ≤ 200 ∧ x.1 36 = nI B ∧ x.1 38 = nI (fs.length + 1) ∧ x.1 35 = nI i ∧ i < md ∧ x.1 37 = nI tp - 1 ∧ tp ≤ 200 ∧ q_tp Γ (x.2 40) B e tp (g_a Γ i)
/-- or it runs no more -/
def q_MS (Γ : q_G) (nb md : Nat) (x : nM) : Prop := x.1 34 = 1 → ∃ B e fs i tp, q_MI Γ nb md x B e fs i tp
/-- what the machine leaves alone -/
def q_ke (x y : nM) : Prop := (∀ k, k < 34 → y.1 k = x.1 k) ∧ (∀ k, k < 40 → y.2 k = x.2 k)
theorem q_ke.rf {x : nM} : q_ke x x := ⟨fun _ _ => rfl, fun _ _ => rfl⟩
theorem q_ke.tr {x y z : nM} (h : q_ke x y) (g : q_ke y z) : q_ke x z := ⟨fun k q => (g.1 k q).trans (h.1 k q), fun k q => (g.2 k q).trans (h.2 k q)⟩
theorem q_ke.f {x y : nM} (h : q_ke x y) {k : Nat} {v : Int32} (hk : 34 ≤ k) : q_ke x (nm_f y k v) := ⟨fun j q => by rw [q_f1, if_neg (by omega)]; exact h.1 j q, h.2⟩
theorem q_ke.a {x y : nM} (h : q_ke x y) {k : Nat} {i v : Int32} (hk : 40 ≤ k) : q_ke x (nm_a y k i v) := ⟨h.1, fun j q => by rw [q_a2, if_neg (by omega)]; exact h.2 j q⟩
/-- all frames' bases, and their blocks -/
theorem q_MI.fr {Γ : q_G} {nb md B e i tp : Nat} {x : nM} {fs : List (Nat × Nat)} (h : q_MI Γ nb md x B e fs i tp) : ∀ g ∈ (B, e) :: fs, g.1 < 200 ∧ g.2 < nb := by
  obtain ⟨h1, h2, h3, h4, -⟩ := h
  intro g hg
  have := q_fr.le fs _ h1 g hg
  have this : g.1 ≤ B := this
  exact ⟨by omega, h2 g hg⟩
theorem M_linked {Γ : q_G} {nb md B e i tp l : Nat} {x : nM} {fs : List (Nat × Nat)} {O L A : Nat → Int32} (hc : q_code Γ nb md O L A) (h : q_MI Γ nb md x B e fs i tp) (hl : l ≤ g_l Γ e) : o_linked x (nI l) ∧ ∃ T, m_linked x (nI l) = nI T ∧ (T, q_an (g_p Γ) l e) ∈ (B, e) :: fs := by
  obtain ⟨c1, c2, c3, c4, c5, c6, c7, c8⟩ := hc
  have he : e < nb := h.2.1 (B, e) List.mem_cons_self
  have h4 : g_l Γ e ≤ 4 := (c6 e he).2.2.1
  have hf := h.fr
  obtain ⟨h1, h2, h3, h4', h5, -⟩ := h
  obtain ⟨k1, T, k2, k3⟩ := q_lk (x := x) (nb := nb) h1 (fun e he => by
    rcases (c6 e he).1 with ⟨q1, q2, _⟩ | q
    · exact Or.inl ⟨q1, q2⟩
    · exact Or.inr q) hf 300 0 l B e List.mem_cons_self (Nat.zero_le _) (by omega) (by omega) (by omega)
  rw [show nI 0 = (0 : Int32) from rfl] at k1 k2
  unfold o_linked m_linked
  rw [h5]
  exact ⟨k1, T, k2, k3⟩
/-! the step of the reference's machine, a row for each operation (by wip/p2/gen31.py) -/
theorem sm_0 {x : nM} (hO : nm_g x 30 (x.1 35) = 0) : m_step x = m_put x (nm_g x 32 (x.1 35)) := by unfold m_step; rw [hO, if_pos rfl]
theorem so_0 {x : nM} (hO : nm_g x 30 (x.1 35) = 0) (hp : vp_in (x.1 35) 400) (h : o_put x (nm_g x 32 (x.1 35)) ∧ True) : o_step x := by unfold o_step; exact ⟨hp, hp, hp, ⟨fun _ => h, fun q => absurd hO q⟩⟩
theorem sm_1 {x : nM} (hO : nm_g x 30 (x.1 35) = 1) : m_step x = m_put x (nm_g x 40 ((m_linked x (nm_g x 31 (x.1 35))) + (nm_g x 32 (x.1 35)))) := by unfold m_step; rw [hO, if_neg (by decide), if_pos rfl]
theorem so_1 {x : nM} (hO : nm_g x 30 (x.1 35) = 1) (hp : vp_in (x.1 35) 400) (h : o_linked x (nm_g x 31 (x.1 35)) ∧ vp_in ((m_linked x (nm_g x 31 (x.1 35))) + (nm_g x 32 (x.1 35))) 200 ∧ o_put x (nm_g x 40 ((m_linked x (nm_g x 31 (x.1 35))) + (nm_g x 32 (x.1 35)))) ∧ True) : o_step x := by unfold o_step; exact ⟨hp, hp, hp, ⟨fun q => absurd (hO.symm.trans q) (by decide), fun _ => ⟨fun _ => h, fun q => absurd hO q⟩⟩⟩
theorem sm_2 {x : nM} (hO : nm_g x 30 (x.1 35) = 2) : m_step x = nm_f (nm_f (nm_a x 40 ((m_linked x (nm_g x 31 (x.1 35))) + (nm_g x 32 (x.1 35))) (nm_g x 40 (x.1 37))) 37 ((x.1 37) - 1)) 35 ((x.1 35) + 1) := by unfold m_step; rw [hO, if_neg (by decide), if_neg (by decide), if_pos rfl]
theorem so_2 {x : nM} (hO : nm_g x 30 (x.1 35) = 2) (hp : vp_in (x.1 35) 400) (h : o_linked x (nm_g x 31 (x.1 35)) ∧ vp_in (x.1 37) 200 ∧ vp_in ((m_linked x (nm_g x 31 (x.1 35))) + (nm_g x 32 (x.1 35))) 200 ∧ True) : o_step x := by unfold o_step; exact ⟨hp, hp, hp, ⟨fun q => absurd (hO.symm.trans q) (by decide), fun _ => ⟨fun q => absurd (hO.symm.trans q) (by decide), fun _ => ⟨fun _ => h, fun q => absurd hO q⟩⟩⟩⟩
theorem sm_3 {x : nM} (hO : nm_g x 30 (x.1 35) = 3) : m_step x = nm_f (nm_a x 40 (x.1 37) (nm_g x 40 (((m_linked x (nm_g x 31 (x.1 35))) + (nm_g x 32 (x.1 35))) + (nm_g x 40 (x.1 37))))) 35 ((x.1 35) + 1) := by unfold m_step; rw [hO, if_neg (by decide), if_neg (by decide), if_neg (by decide), if_pos rfl]
theorem so_3 {x : nM} (hO : nm_g x 30 (x.1 35) = 3) (hp : vp_in (x.1 35) 400) (h : o_linked x (nm_g x 31 (x.1 35)) ∧ vp_in (x.1 37) 200 ∧ vp_in (((m_linked x (nm_g x 31 (x.1 35))) + (nm_g x 32 (x.1 35))) + (nm_g x 40 (x.1 37))) 200 ∧ vp_in (x.1 37) 200 ∧ True) : o_step x := by unfold o_step; exact ⟨hp, hp, hp, ⟨fun q => absurd (hO.symm.trans q) (by decide), fun _ => ⟨fun q => absurd (hO.symm.trans q) (by decide), fun _ => ⟨fun q => absurd (hO.symm.trans q) (by decide), fun _ => ⟨fun _ => h, fun q => absurd hO q⟩⟩⟩⟩⟩
theorem sm_4 {x : nM} (hO : nm_g x 30 (x.1 35) = 4) : m_step x = nm_f (nm_f (nm_a x 40 (((m_linked x (nm_g x 31 (x.1 35))) + (nm_g x 32 (x.1 35))) + (nm_g x 40 ((x.1 37) - 1))) (nm_g x 40 (x.1 37))) 37 ((x.1 37) - 2)) 35 ((x.1 35) + 1) := by unfold m_step; rw [hO, if_neg (by decide), if_neg (by decide), if_neg (by decide), if_neg (by decide), if_pos rfl]
theorem so_4 {x : nM} (hO : nm_g x 30 (x.1 35) = 4) (hp : vp_in (x.1 35) 400) (h : o_linked x (nm_g x 31 (x.1 35)) ∧ vp_in ((x.1 37) - 1) 200 ∧ vp_in (x.1 37) 200 ∧ vp_in (((m_linked x (nm_g x 31 (x.1 35))) + (nm_g x 32 (x.1 35))) + (nm_g x 40 ((x.1 37) - 1))) 200 ∧ True) : o_step x := by unfold o_step; exact ⟨hp, hp, hp, ⟨fun q => absurd (hO.symm.trans q) (by decide), fun _ => ⟨fun q => absurd (hO.symm.trans q) (by decide), fun _ => ⟨fun q => absurd (hO.symm.trans q) (by decide), fun _ => ⟨fun q => absurd (hO.symm.trans q) (by decide), fun _ => ⟨fun _ => h, fun q => absurd hO q⟩⟩⟩⟩⟩⟩
theorem sm_5 {x : nM} (hO : nm_g x 30 (x.1 35) = 5) : m_step x = m_enter x (nm_g x 31 (x.1 35)) (nm_g x 32 (x.1 35)) := by unfold m_step; rw [hO, if_neg (by decide), if_neg (by decide), if_neg (by decide), if_neg (by decide), if_neg (by decide), if_pos rfl]
theorem so_5 {x : nM} (hO : nm_g x 30 (x.1 35) = 5) (hp : vp_in (x.1 35) 400) (h : o_enter x (nm_g x 31 (x.1 35)) (nm_g x 32 (x.1 35)) ∧ True) : o_step x := by unfold o_step; exact ⟨hp, hp, hp, ⟨fun q => absurd (hO.symm.trans q) (by decide), fun _ => ⟨fun q => absurd (hO.symm.trans q) (by decide), fun _ => ⟨fun q => absurd (hO.symm.trans q) (by decide), fun _ => ⟨fun q => absurd (hO.symm.trans q) (by decide), fun _ => ⟨fun q => absurd (hO.symm.trans q) (by decide), fun _ => ⟨fun _ => h, fun q => absurd hO q⟩⟩⟩⟩⟩⟩⟩
theorem sm_6 {x : nM} (hO : nm_g x 30 (x.1 35) = 6) : m_step x = m_more x (nm_g x 32 (x.1 35)) := by unfold m_step; rw [hO, if_neg (by decide), if_neg (by decide), if_neg (by decide), if_neg (by decide), if_neg (by decide), if_neg (by decide), if_pos rfl]
theorem so_6 {x : nM} (hO : nm_g x 30 (x.1 35) = 6) (hp : vp_in (x.1 35) 400) (h : o_more x (nm_g x 32 (x.1 35)) ∧ True) : o_step x := by unfold o_step; exact ⟨hp, hp, hp, ⟨fun q => absurd (hO.symm.trans q) (by decide), fun _ => ⟨fun q => absurd (hO.symm.trans q) (by decide), fun _ => ⟨fun q => absurd (hO.symm.trans q) (by decide), fun _ => ⟨fun q => absurd (hO.symm.trans q) (by decide), fun _ => ⟨fun q => absurd (hO.symm.trans q) (by decide), fun _ => ⟨fun q => absurd (hO.symm.trans q) (by decide), fun _ => ⟨fun _ => h, fun q => absurd hO q⟩⟩⟩⟩⟩⟩⟩⟩
theorem sm_7 {x : nM} (hO : nm_g x 30 (x.1 35) = 7) : m_step x = nm_f x 35 (nm_g x 32 (x.1 35)) := by unfold m_step; rw [hO, if_neg (by decide), if_neg (by decide), if_neg (by decide), if_neg (by decide), if_neg (by decide), if_neg (by decide), if_neg (by decide), if_pos rfl]
theorem so_7 {x : nM} (hO : nm_g x 30 (x.1 35) = 7) (hp : vp_in (x.1 35) 400) (h : True) : o_step x := by unfold o_step; exact ⟨hp, hp, hp, ⟨fun q => absurd (hO.symm.trans q) (by decide), fun _ => ⟨fun q => absurd (hO.symm.trans q) (by decide), fun _ => ⟨fun q => absurd (hO.symm.trans q) (by decide), fun _ => ⟨fun q => absurd (hO.symm.trans q) (by decide), fun _ => ⟨fun q => absurd (hO.symm.trans q) (by decide), fun _ => ⟨fun q => absurd (hO.symm.trans q) (by decide), fun _ => ⟨fun q => absurd (hO.symm.trans q) (by decide), fun _ => ⟨fun _ => h, fun q => absurd hO q⟩⟩⟩⟩⟩⟩⟩⟩⟩
theorem sm_8 {x : nM} (hO : nm_g x 30 (x.1 35) = 8) : m_step x = if nm_g x 40 (x.1 37) = 0 then k_step_303 x (nm_g x 32 (x.1 35)) else k_step_303 x ((x.1 35) + 1) := by unfold m_step; rw [hO, if_neg (by decide), if_neg (by decide), if_neg (by decide), if_neg (by decide), if_neg (by decide), if_neg (by decide), if_neg (by decide), if_neg (by decide), if_pos rfl]
theorem so_8 {x : nM} (hO : nm_g x 30 (x.1 35) = 8) (hp : vp_in (x.1 35) 400) (h : vp_in (x.1 37) 200 ∧ ((nm_g x 40 (x.1 37) = 0 → p_step_303 x (nm_g x 32 (x.1 35))) ∧ (¬ (nm_g x 40 (x.1 37) = 0) → p_step_303 x ((x.1 35) + 1)))) : o_step x := by unfold o_step; exact ⟨hp, hp, hp, ⟨fun q => absurd (hO.symm.trans q) (by decide), fun _ => ⟨fun q => absurd (hO.symm.trans q) (by decide), fun _ => ⟨fun q => absurd (hO.symm.trans q) (by decide), fun _ => ⟨fun q => absurd (hO.symm.trans q) (by decide), fun _ => ⟨fun q => absurd (hO.symm.trans q) (by decide), fun _ => ⟨fun q => absurd (hO.symm.trans q) (by decide), fun _ => ⟨fun q => absurd (hO.symm.trans q) (by decide), fun _ => ⟨fun q => absurd (hO.symm.trans q) (by decide), fun _ => ⟨fun _ => h, fun q => absurd hO q⟩⟩⟩⟩⟩⟩⟩⟩⟩⟩
theorem sm_9 {x : nM} (hO : nm_g x 30 (x.1 35) = 9) : m_step x = m_operation x (nm_g x 31 (x.1 35)) (nm_g x 32 (x.1 35)) := by unfold m_step; rw [hO, if_neg (by decide), if_neg (by decide), if_neg (by decide), if_neg (by decide), if_neg (by decide), if_neg (by decide), if_neg (by decide), if_neg (by decide), if_neg (by decide), if_pos rfl]
theorem so_9 {x : nM} (hO : nm_g x 30 (x.1 35) = 9) (hp : vp_in (x.1 35) 400) (h : o_operation x (nm_g x 31 (x.1 35)) (nm_g x 32 (x.1 35)) ∧ True) : o_step x := by unfold o_step; exact ⟨hp, hp, hp, ⟨fun q => absurd (hO.symm.trans q) (by decide), fun _ => ⟨fun q => absurd (hO.symm.trans q) (by decide), fun _ => ⟨fun q => absurd (hO.symm.trans q) (by decide), fun _ => ⟨fun q => absurd (hO.symm.trans q) (by decide), fun _ => ⟨fun q => absurd (hO.symm.trans q) (by decide), fun _ => ⟨fun q => absurd (hO.symm.trans q) (by decide), fun _ => ⟨fun q => absurd (hO.symm.trans q) (by decide), fun _ => ⟨fun q => absurd (hO.symm.trans q) (by decide), fun _ => ⟨fun q => absurd (hO.symm.trans q) (by decide), fun _ => ⟨fun _ => h, fun q => absurd hO q⟩⟩⟩⟩⟩⟩⟩⟩⟩⟩⟩
theorem sm_11 {x : nM} (hO : nm_g x 30 (x.1 35) = 11) : m_step x = if nm_g x 40 (x.1 37) < 0 then k_step_353 x else (if nm_g x 40 (x.1 37) < nm_g x 32 (x.1 35) then (nm_f x 35 ((x.1 35) + 1)) else k_step_353 x) := by unfold m_step; rw [hO, if_neg (by decide), if_neg (by decide), if_neg (by decide), if_neg (by decide), if_neg (by decide), if_neg (by decide), if_neg (by decide), if_neg (by decide), if_neg (by decide), if_neg (by decide)]
theorem so_11 {x : nM} (hO : nm_g x 30 (x.1 35) = 11) (hp : vp_in (x.1 35) 400) (h : vp_in (x.1 37) 200 ∧ ((nm_g x 40 (x.1 37) < 0 → p_step_353 x) ∧ (¬ (nm_g x 40 (x.1 37) < 0) → vp_in (x.1 37) 200 ∧ ((nm_g x 40 (x.1 37) < nm_g x 32 (x.1 35) → True) ∧ (¬ (nm_g x 40 (x.1 37) < nm_g x 32 (x.1 35)) → p_step_353 x))))) : o_step x := by unfold o_step; exact ⟨hp, hp, hp, ⟨fun q => absurd (hO.symm.trans q) (by decide), fun _ => ⟨fun q => absurd (hO.symm.trans q) (by decide), fun _ => ⟨fun q => absurd (hO.symm.trans q) (by decide), fun _ => ⟨fun q => absurd (hO.symm.trans q) (by decide), fun _ => ⟨fun q => absurd (hO.symm.trans q) (by decide), fun _ => ⟨fun q => absurd (hO.symm.trans q) (by decide), fun _ => ⟨fun q => absurd (hO.symm.trans q) (by decide), fun _ => ⟨fun q => absurd (hO.symm.trans q) (by decide), fun _ => ⟨fun q => absurd (hO.symm.trans q) (by decide), fun _ => ⟨fun q => absurd (hO.symm.trans q) (by decide), fun _ => h⟩⟩⟩⟩⟩⟩⟩⟩⟩⟩⟩
/-! the reference's machine: a step keeps it -/
theorem q_MI.some {Γ : q_G} {nb md B e i tp b : Nat} {x : nM} {fs : List (Nat × Nat)} {t : q_Ty} (h : q_MI Γ nb md x B e fs i tp) (ha : g_a Γ i = (b, some t)) : b = e ∧ 3 ≤ g_c Γ e ∧ tp = B + g_c Γ e + t.length ∧ q_sk (x.2 40) tp t := by
  obtain ⟨-, -, -, -, -, -, -, -, -, -, k1, k2⟩ := h
  rw [ha] at k1 k2
  rcases k2 with ⟨q, _⟩ | ⟨t', q, k3⟩
  · cases q
  · cases q; exact ⟨k1, k3⟩
theorem q_MI.none {Γ : q_G} {nb md B e i tp b : Nat} {x : nM} {fs : List (Nat × Nat)} (h : q_MI Γ nb md x B e fs i tp) (ha : g_a Γ i = (b, none)) : b = e ∧ tp = B := by
  obtain ⟨-, -, -, -, -, -, -, -, -, -, k1, k2⟩ := h
  rw [ha] at k1 k2
  rcases k2 with ⟨_, q⟩ | ⟨t', q, k3⟩
  · exact ⟨k1, q⟩
  · cases q
theorem q_tp.s {Γ : q_G} {M : Nat → Int32} {B e tp : Nat} {a : Nat × Option q_Ty} {t : q_Ty} (ha : a = (e, some t)) (h3 : 3 ≤ g_c Γ e) (h4 : tp = B + g_c Γ e + t.length) (h5 : q_sk M tp t) : q_tp Γ M B e tp a := by
  rw [ha]; exact ⟨rfl, Or.inr ⟨t, rfl, h3, h4, h5⟩⟩
theorem q_MI.go {Γ : q_G} {nb md B e i tp i' tp' : Nat} {x y : nM} {fs : List (Nat × Nat)} (h : q_MI Γ nb md x B e fs i tp) (hM : ∀ g ∈ (B, e) :: fs, ∀ k, k < 3 → y.2 40 (g.1 + k) = x.2 40 (g.1 + k)) (h36 : y.1 36 = x.1 36) (h38 : y.1 38 = x.1 38) (h35 : y.1 35 = nI i') (hi : i' < md) (h37 : y.1 37 = nI tp' - 1) (hp : tp' ≤ 200) (ht : q_tp Γ (y.2 40) B e tp' (g_a Γ i')) : q_MI Γ nb md y B e fs i' tp' := by
  obtain ⟨k1, k2, k3, k4, k5, k6, -⟩ := h
  exact ⟨q_fr.eq _ hM k1, k2, k3, k4, h36.trans k5, h38.trans k6, h35, hi, h37, hp, ht⟩
theorem q_MI.hd {Γ : q_G} {nb md B e i tp : Nat} {x : nM} {fs : List (Nat × Nat)} (h : q_MI Γ nb md x B e fs i tp) : ∀ g ∈ (B, e) :: fs, ∀ k, k < 3 → g.1 + k < B + 3 := by
  intro g hg k hk
  have := q_fr.le fs _ h.1 g hg
  have this : g.1 ≤ B := this
  omega
theorem q_up (x : nM) (p : Nat) (v : Int32) (hp : p < 2 ^ 31) : (nm_a x 40 (nI p) v).2 40 = upd (x.2 40) p v := by
  rw [q_a2, if_pos rfl, nI_clamp hp]
theorem q_cd {Γ : q_G} {nb md : Nat} {O L A : Nat → Int32} (hc : q_code Γ nb md O L A) {i : Nat} (hi : i < md) (h7 : O i ≠ 7) (h9 : ¬ (O i = 9 ∧ A i = 0)) : i + 1 < md := by
  rcases Nat.lt_or_ge (i + 1) md with q | q
  · exact q
  · rcases hc.2.2.2.2.2.2.2 i (by omega) with r | r
    · exact absurd r h7
    · exact absurd r h9
/-- a variable's place: among the cells, no frame's header -/
theorem q_MI.pl {Γ : q_G} {nb md B e i tp : Nat} {x : nM} {fs : List (Nat × Nat)} {O L A : Nat → Int32} (hc : q_code Γ nb md O L A) (h : q_MI Γ nb md x B e fs i tp) (hB : B + g_c Γ e ≤ 200) {S b : Nat} (hm : (S, b) ∈ (B, e) :: fs) {a : Int32} (hA : q_pl Γ b a) : ∃ p, nI S + a = nI p ∧ p < B + g_c Γ e ∧ p < 200 ∧ ∀ g ∈ (B, e) :: fs, ∀ k, k < 3 → g.1 + k ≠ p := by
  obtain ⟨c1, c2, c3, c4, c5, c6, c7, c8⟩ := hc
  have hfr := h.fr
  obtain ⟨h1, h2, h3, h4, -⟩ := h
  have g0 : g_n Γ 0 = 0 := by
    rcases (c6 0 c1).1 with ⟨_, _, q⟩ | ⟨q, _⟩
    · exact q
    · omega
  have hle : S + g_c Γ b ≤ B + g_c Γ e := by
    rcases List.mem_cons.mp hm with q | q
    · cases q; exact Nat.le_refl _
    · have := q_fr.below fs _ h1 _ q
      have this : S + g_c Γ b ≤ B := this
      omega
  have hSB : S ≤ B := q_fr.le fs _ h1 _ hm
  have hp : g_n Γ b ≤ S := q_fr.par g0 _ h1 _ hm
  have hap := q_fr.ap fs _ h1 h3 _ hm
  rcases hA with ⟨a, a1, a2, a3⟩ | ⟨k, k1, k2⟩
  · refine ⟨S + a, by rw [a1]; exact nI_add S a, by omega, by omega, fun g hg k hk q => ?_⟩
    rcases hap g hg with r | ⟨r, _⟩ | r
    · rw [r] at q; have q : S + k = S + a := q; omega
    · have r : g.1 + g_c Γ g.2 + g_n Γ b ≤ S := r; omega
    · have r : S + g_c Γ b ≤ g.1 := r; omega
  · refine ⟨S + k - g_n Γ b, ?_, by omega, by omega, fun g hg j hj q => ?_⟩
    · rw [k2, ← pk_sub (show g_n Γ b ≤ S + k by omega), ← nI_add]
      rw [Int32.sub_eq_add_neg, Int32.sub_eq_add_neg, Int32.add_assoc]
    · rcases hap g hg with r | ⟨r, r'⟩ | r
      · rw [r] at q; have q : S + j = S + k - g_n Γ b := q; omega
      · have r : g.1 + g_c Γ g.2 + g_n Γ b ≤ S := r; omega
      · have r : S + g_c Γ b ≤ g.1 := r; omega
theorem q_i1 (n : Nat) : nI n - 1 + 1 = nI n := by rw [Int32.sub_add_cancel]
theorem q_nst {Γ : q_G} {nb md : Nat} {x : nM} (v : Int32) (hv : v ≠ 1) : q_MS Γ nb md (nm_f x 34 v) := fun q => absurd q (by rw [q_f1, if_pos rfl]; exact hv)
theorem M_put {Γ : q_G} {nb md B e i tp : Nat} {x : nM} {fs : List (Nat × Nat)} {t : q_Ty} (h : q_MI Γ nb md x B e fs i tp) (hi : i + 1 < md) (ha : g_a Γ i = (e, some t)) (ha' : g_a Γ (i + 1) = (e, some (none :: t))) (v : Int32) : o_put x v ∧ q_ke x (m_put x v) ∧ q_MS Γ nb md (m_put x v) := by
  obtain ⟨-, t3, t4, t5⟩ := h.some ha
  have hhd := h.hd
  have hgo := @q_MI.go Γ nb md B e i tp (i + 1) (tp + 1) x
  obtain ⟨h1, h2, h3, h4, h5, h6, h7, h8, h9, h10, h11⟩ := id h
  unfold o_put m_put o_room m_room
  rw [h9, q_i1]
  by_cases c : nI tp ≤ 199
  · have hlt : tp ≤ 199 := (nI_leI (b := 199) (by omega) (by decide)).mp c
    rw [if_pos c]
    refine ⟨⟨⟨fun _ => trivial, fun _ => trivial⟩, fun _ => trivial, fun _ => ⟨?_, trivial⟩⟩, ?_, ?_⟩
    · show vp_in (x.1 37 + 1) 200
      rw [h9, q_i1]; exact q_in (by omega) (by decide)
    · rw [if_neg (show ¬ (1 : Int32) = 0 by decide)]
      exact ((q_ke.rf.f (by decide)).a (by decide)).f (by decide)
    · rw [if_neg (show ¬ (1 : Int32) = 0 by decide)]
      intro _
      refine ⟨B, e, fs, i + 1, tp + 1, hgo h ?_ rfl rfl ?_ hi ?_ (by omega) ?_⟩
      · intro g hg k hk
        show (nm_a _ 40 (x.1 37 + 1) v).2 40 _ = _
        rw [h9, q_i1, q_up _ _ _ (by omega)]
        have := hhd g hg k hk
        exact pk_un (by omega)
      · show x.1 35 + 1 = _
        rw [h7, nI_1]
      · show x.1 37 + 1 = _
        rw [h9, q_i1, nI_pred]
      · show q_tp Γ ((nm_a _ 40 (x.1 37 + 1) v).2 40) B e (tp + 1) _
        rw [h9, q_i1, q_up _ _ _ (by omega)]
        refine q_tp.s ha' t3 (by simp only [List.length_cons]; omega) ⟨(fun m q => by cases q), ?_⟩
        exact q_sk.eq t tp (fun p _ hp => pk_un (by omega)) (by omega) t5
  · rw [if_neg c]
    refine ⟨⟨⟨fun _ => trivial, fun _ => trivial⟩, fun _ => trivial, fun q => absurd rfl q⟩, ?_, ?_⟩
    · rw [if_pos rfl]; exact q_ke.rf.f (by decide)
    · rw [if_pos rfl]; exact q_nst 3 (by decide)
/-! the reference's machine: operation by operation -/
/-- what is wanted of a step -/
def q_go (Γ : q_G) (nb md : Nat) (x : nM) : Prop := o_step x ∧ q_ke x (m_step x) ∧ q_MS Γ nb md (m_step x)
theorem M_var {Γ : q_G} {nb md B e i tp : Nat} {x : nM} {fs : List (Nat × Nat)} {O L A : Nat → Int32} (hc : q_code Γ nb md O L A) (h : q_MI Γ nb md x B e fs i tp) (hB : B + g_c Γ e ≤ 200) {u a : Int32} (hv : q_var Γ e u a) : o_linked x u ∧ ∃ p, m_linked x u + a = nI p ∧ p < B + g_c Γ e ∧ p < 200 ∧ ∀ g ∈ (B, e) :: fs, ∀ k, k < 3 → g.1 + k ≠ p := by
  obtain ⟨l, l1, l2, l3⟩ := hv
  rw [l1]
  obtain ⟨k1, T, k2, k3⟩ := M_linked hc h l2
  obtain ⟨p, p1, p2⟩ := q_MI.pl hc h hB k3 l3
  exact ⟨k1, p, by rw [k2]; exact p1, p2⟩
theorem M_arr {Γ : q_G} {nb md B e i tp m v : Nat} {x : nM} {fs : List (Nat × Nat)} {O L A : Nat → Int32} (hc : q_code Γ nb md O L A) (h : q_MI Γ nb md x B e fs i tp) (hB : B + g_c Γ e ≤ 200) {u a : Int32} (hv : q_arr Γ e u a m) (hm : v < m) : o_linked x u ∧ ∃ p, m_linked x u + a + nI v = nI p ∧ p < B + g_c Γ e ∧ p < 200 ∧ ∀ g ∈ (B, e) :: fs, ∀ k, k < 3 → g.1 + k ≠ p := by
  obtain ⟨l, b, l1, l2, l3, l4, l5⟩ := hv
  rw [l1]
  obtain ⟨k1, T, k2, k3⟩ := M_linked hc h l2
  obtain ⟨p, p1, p2⟩ := q_MI.pl hc h hB k3 (a := nI (b + v)) (Or.inl ⟨b + v, rfl, by omega, by omega⟩)
  exact ⟨k1, p, by rw [k2, l3, Int32.add_assoc, nI_add]; exact p1, p2⟩
theorem M_0 {Γ : q_G} {nb md B e i tp : Nat} {x : nM} {fs : List (Nat × Nat)} {t : q_Ty} (h : q_MI Γ nb md x B e fs i tp) (hp : vp_in (x.1 35) 400) (hO : nm_g x 30 (x.1 35) = 0) (hi : i + 1 < md) (ha : g_a Γ i = (e, some t)) (ha' : g_a Γ (i + 1) = (e, some (none :: t))) : q_go Γ nb md x := by
  obtain ⟨k1, k2⟩ := M_put h hi ha ha' (nm_g x 32 (x.1 35))
  unfold q_go; rw [sm_0 hO]; exact ⟨so_0 hO hp ⟨k1, trivial⟩, k2⟩
theorem M_1 {Γ : q_G} {nb md B e i tp : Nat} {x : nM} {fs : List (Nat × Nat)} {t : q_Ty} {O L A : Nat → Int32} (hc : q_code Γ nb md O L A) (h : q_MI Γ nb md x B e fs i tp) (hp : vp_in (x.1 35) 400) (hO : nm_g x 30 (x.1 35) = 1) (hi : i + 1 < md) (ha : g_a Γ i = (e, some t)) (ha' : g_a Γ (i + 1) = (e, some (none :: t))) (hv : q_var Γ e (nm_g x 31 (x.1 35)) (nm_g x 32 (x.1 35))) : q_go Γ nb md x := by
  obtain ⟨-, t3, t4, t5⟩ := h.some ha
  have h10 : tp ≤ 200 := h.2.2.2.2.2.2.2.2.2.1
  obtain ⟨v1, p, p1, p2, p3, p4⟩ := M_var hc h (by omega) hv
  obtain ⟨k1, k2⟩ := M_put h hi ha ha' (nm_g x 40 (nI p))
  unfold q_go; rw [sm_1 hO, p1]; exact ⟨so_1 hO hp ⟨v1, by rw [p1]; exact q_in p3 (by decide), by rw [p1]; exact k1, trivial⟩, k2⟩
theorem M_2 {Γ : q_G} {nb md B e i tp : Nat} {x : nM} {fs : List (Nat × Nat)} {t : q_Ty} {u : Option Nat} {O L A : Nat → Int32} (hc : q_code Γ nb md O L A) (h : q_MI Γ nb md x B e fs i tp) (hp : vp_in (x.1 35) 400) (hO : nm_g x 30 (x.1 35) = 2) (hi : i + 1 < md) (ha : g_a Γ i = (e, some (u :: t))) (ha' : g_a Γ (i + 1) = (e, some t)) (hv : q_var Γ e (nm_g x 31 (x.1 35)) (nm_g x 32 (x.1 35))) : q_go Γ nb md x := by
  obtain ⟨-, t3, t4, t5⟩ := h.some ha
  have h10 : tp ≤ 200 := h.2.2.2.2.2.2.2.2.2.1
  simp only [List.length_cons] at t4
  obtain ⟨v1, p, p1, p2, p3, p4⟩ := M_var hc h (by omega) hv
  have hgo := @q_MI.go Γ nb md B e i tp (i + 1) (tp - 1) x
  obtain ⟨h1, h2, h3, h4, h5, h6, h7, h8, h9, -, h11⟩ := id h
  have e37 : x.1 37 = nI (tp - 1) := by rw [h9, show (1 : Int32) = nI 1 from rfl, pk_sub (by omega)]
  unfold q_go; rw [sm_2 hO, p1]
  refine ⟨so_2 hO hp ⟨v1, by rw [e37]; exact q_in (by omega) (by decide), by rw [p1]; exact q_in p3 (by decide), trivial⟩, ((q_ke.rf.a (by decide)).f (by decide)).f (by decide), fun _ => ⟨B, e, fs, i + 1, tp - 1, hgo h ?_ rfl rfl ?_ hi ?_ (by omega) ?_⟩⟩
  · intro g hg k hk
    show (nm_a x 40 (nI p) _).2 40 _ = _
    rw [q_up _ _ _ (by omega)]; exact pk_un (p4 g hg k hk)
  · show x.1 35 + 1 = _
    rw [h7, nI_1]
  · show x.1 37 - 1 = _
    rw [e37]
  · show q_tp Γ ((nm_a x 40 (nI p) _).2 40) B e _ _
    rw [q_up _ _ _ (by omega)]
    exact q_tp.s ha' t3 (by omega) (q_sk.eq t (tp - 1) (fun j j1 j2 => pk_un (by omega)) (by omega) t5.2)
theorem M_3 {Γ : q_G} {nb md B e i tp m : Nat} {x : nM} {fs : List (Nat × Nat)} {t : q_Ty} {O L A : Nat → Int32} (hc : q_code Γ nb md O L A) (h : q_MI Γ nb md x B e fs i tp) (hp : vp_in (x.1 35) 400) (hO : nm_g x 30 (x.1 35) = 3) (hi : i + 1 < md) (ha : g_a Γ i = (e, some (some m :: t))) (ha' : g_a Γ (i + 1) = (e, some (none :: t))) (hv : q_arr Γ e (nm_g x 31 (x.1 35)) (nm_g x 32 (x.1 35)) m) : q_go Γ nb md x := by
  obtain ⟨-, t3, t4, t5⟩ := h.some ha
  have h10 : tp ≤ 200 := h.2.2.2.2.2.2.2.2.2.1
  simp only [List.length_cons] at t4
  obtain ⟨v, w1, w2⟩ := t5.1 m rfl
  obtain ⟨v1, p, p1, p2, p3, p4⟩ := M_arr hc h (by omega) hv w1
  have hgo := @q_MI.go Γ nb md B e i tp (i + 1) tp x
  have hhd := h.hd
  obtain ⟨h1, h2, h3, h4, h5, h6, h7, h8, h9, -, h11⟩ := id h
  have e37 : x.1 37 = nI (tp - 1) := by rw [h9, show (1 : Int32) = nI 1 from rfl, pk_sub (by omega)]
  have eg : nm_g x 40 (x.1 37) = nI v := by rw [e37, q_g _ _ _ (by omega)]; exact w2
  unfold q_go; rw [sm_3 hO, eg, p1]
  have hq : vp_in (x.1 37) 200 := by rw [e37]; exact q_in (by omega) (by decide)
  refine ⟨so_3 hO hp ⟨v1, hq, by rw [eg, p1]; exact q_in p3 (by decide), hq, trivial⟩, (q_ke.rf.a (by decide)).f (by decide), fun _ => ⟨B, e, fs, i + 1, tp, hgo h ?_ rfl rfl ?_ hi h9 (by omega) ?_⟩⟩
  · intro g hg k hk
    show (nm_a x 40 (x.1 37) _).2 40 _ = _
    rw [e37, q_up _ _ _ (by omega)]
    have := hhd g hg k hk
    exact pk_un (by omega)
  · show x.1 35 + 1 = _
    rw [h7, nI_1]
  · show q_tp Γ ((nm_a x 40 (x.1 37) _).2 40) B e _ _
    rw [e37, q_up _ _ _ (by omega)]
    exact q_tp.s ha' t3 (by simp only [List.length_cons]; omega) ⟨(fun m q => by cases q), q_sk.eq t (tp - 1) (fun j j1 j2 => pk_un (by omega)) (by omega) t5.2⟩
theorem q_m2 (d : Nat) : nI (d + 1) - 2 = nI d - 1 := by
  rw [← nI_1, Int32.sub_eq_add_neg, Int32.sub_eq_add_neg, Int32.add_assoc]; rfl
theorem M_4 {Γ : q_G} {nb md B e i tp m : Nat} {x : nM} {fs : List (Nat × Nat)} {t : q_Ty} {u : Option Nat} {O L A : Nat → Int32} (hc : q_code Γ nb md O L A) (h : q_MI Γ nb md x B e fs i tp) (hp : vp_in (x.1 35) 400) (hO : nm_g x 30 (x.1 35) = 4) (hi : i + 1 < md) (ha : g_a Γ i = (e, some (u :: some m :: t))) (ha' : g_a Γ (i + 1) = (e, some t)) (hv : q_arr Γ e (nm_g x 31 (x.1 35)) (nm_g x 32 (x.1 35)) m) : q_go Γ nb md x := by
  obtain ⟨-, t3, t4, t5⟩ := h.some ha
  have h10 : tp ≤ 200 := h.2.2.2.2.2.2.2.2.2.1
  simp only [List.length_cons] at t4
  obtain ⟨v, w1, w2⟩ := t5.2.1 m rfl
  obtain ⟨v1, p, p1, p2, p3, p4⟩ := M_arr hc h (by omega) hv w1
  have hgo := @q_MI.go Γ nb md B e i tp (i + 1) (tp - 2) x
  obtain ⟨h1, h2, h3, h4, h5, h6, h7, h8, h9, -, h11⟩ := id h
  obtain ⟨d, hd⟩ : ∃ d, tp = d + 2 := ⟨tp - 2, by omega⟩
  subst hd
  have e37 : x.1 37 = nI (d + 1) := by rw [h9, nI_pred]
  have eg : nm_g x 40 (x.1 37 - 1) = nI v := by rw [e37, nI_pred, q_g _ _ _ (by omega)]; exact w2
  unfold q_go; rw [sm_4 hO, eg, p1]
  have hq : vp_in (x.1 37) 200 := by rw [e37]; exact q_in (by omega) (by decide)
  refine ⟨so_4 hO hp ⟨v1, by rw [e37, nI_pred]; exact q_in (by omega) (by decide), hq, by rw [eg, p1]; exact q_in p3 (by decide), trivial⟩, ((q_ke.rf.a (by decide)).f (by decide)).f (by decide), fun _ => ⟨B, e, fs, i + 1, d, hgo h ?_ rfl rfl ?_ hi ?_ (by omega) ?_⟩⟩
  · intro g hg k hk
    show (nm_a x 40 (nI p) _).2 40 _ = _
    rw [q_up _ _ _ (by omega)]; exact pk_un (p4 g hg k hk)
  · show x.1 35 + 1 = _
    rw [h7, nI_1]
  · show x.1 37 - 2 = _
    rw [e37, q_m2]; rfl
  · show q_tp Γ ((nm_a x 40 (nI p) _).2 40) B e _ _
    rw [q_up _ _ _ (by omega)]
    exact q_tp.s ha' t3 (by omega) (q_sk.eq t d (fun j j1 j2 => pk_un (by omega)) (by omega) t5.2.2)
theorem M_7 {Γ : q_G} {nb md B e i tp b : Nat} {x : nM} {fs : List (Nat × Nat)} (h : q_MI Γ nb md x B e fs i tp) (hp : vp_in (x.1 35) 400) (hO : nm_g x 30 (x.1 35) = 7) (ha : g_a Γ i = (b, none) ∨ g_a Γ i = (b, some [])) {t : Nat} (hA : nm_g x 32 (x.1 35) = nI t) (ht : t < md) (hg : ((g_a Γ i).2 = none ∧ g_a Γ t = ((g_a Γ i).1, none)) ∨ ((g_a Γ i).2 ≠ none ∧ g_a Γ t = ((g_a Γ i).1, some []))) : q_go Γ nb md x := by
  have e0 : g_a Γ t = g_a Γ i := by
    rcases ha with q | q
    · rw [q] at hg ⊢
      rcases hg with ⟨_, r⟩ | ⟨r, _⟩
      · exact r
      · exact absurd rfl r
    · rw [q] at hg ⊢
      rcases hg with ⟨r, _⟩ | ⟨_, r⟩
      · cases r
      · exact r
  have hgo := @q_MI.go Γ nb md B e i tp t tp x
  obtain ⟨h1, h2, h3, h4, h5, h6, h7, h8, h9, h10, h11⟩ := id h
  unfold q_go; rw [sm_7 hO, hA]
  exact ⟨so_7 hO hp trivial, q_ke.rf.f (by decide), fun _ => ⟨B, e, fs, t, tp, hgo h (fun _ _ _ _ => rfl) rfl rfl rfl ht h9 h10 (by rw [e0]; exact h11)⟩⟩
theorem M_303 {Γ : q_G} {nb md B e i tp t : Nat} {x : nM} {fs : List (Nat × Nat)} {u : Option Nat} (h : q_MI Γ nb md x B e fs i tp) (ha : g_a Γ i = (e, some [u])) (ht : t < md) (ha' : g_a Γ t = (e, some [])) : q_MS Γ nb md (k_step_303 x (nI t)) := by
  obtain ⟨-, t3, t4, t5⟩ := h.some ha
  simp only [List.length_cons, List.length_nil] at t4
  have hgo := @q_MI.go Γ nb md B e i tp t (tp - 1) x
  obtain ⟨h1, h2, h3, h4, h5, h6, h7, h8, h9, h10, h11⟩ := id h
  have e37 : x.1 37 = nI (tp - 1) := by rw [h9, show (1 : Int32) = nI 1 from rfl, pk_sub (by omega)]
  unfold k_step_303
  exact fun _ => ⟨B, e, fs, t, tp - 1, hgo h (fun _ _ _ _ => rfl) rfl rfl rfl ht (by show x.1 37 - 1 = _; rw [e37]) (by omega) (q_tp.s ha' t3 (by simp only [List.length_nil]; omega) trivial)⟩
theorem M_8 {Γ : q_G} {nb md B e i tp t : Nat} {x : nM} {fs : List (Nat × Nat)} {u : Option Nat} (h : q_MI Γ nb md x B e fs i tp) (hp : vp_in (x.1 35) 400) (hO : nm_g x 30 (x.1 35) = 8) (hi : i + 1 < md) (ha : g_a Γ i = (e, some [u])) (ha' : g_a Γ (i + 1) = (e, some [])) (hA : nm_g x 32 (x.1 35) = nI t) (ht : t < md) (hg : g_a Γ t = (e, some [])) : q_go Γ nb md x := by
  obtain ⟨-, t3, t4, t5⟩ := h.some ha
  simp only [List.length_cons, List.length_nil] at t4
  have h9 : x.1 37 = nI tp - 1 := h.2.2.2.2.2.2.2.2.1
  have h7 : x.1 35 = nI i := h.2.2.2.2.2.2.1
  have h10 : tp ≤ 200 := h.2.2.2.2.2.2.2.2.2.1
  have e37 : x.1 37 = nI (tp - 1) := by rw [h9, show (1 : Int32) = nI 1 from rfl, pk_sub (by omega)]
  unfold q_go; rw [sm_8 hO, hA]
  refine ⟨so_8 hO hp ⟨by rw [e37]; exact q_in (by omega) (by decide), fun _ => trivial, fun _ => trivial⟩, ?_⟩
  by_cases c : nm_g x 40 (x.1 37) = 0
  · rw [if_pos c]
    exact ⟨(q_ke.rf.f (by decide)).f (by decide), M_303 h ha ht hg⟩
  · rw [if_neg c]
    exact ⟨(q_ke.rf.f (by decide)).f (by decide), by rw [h7, nI_1]; exact M_303 h ha hi ha'⟩
theorem M_11 {Γ : q_G} {nb md B e i tp m : Nat} {x : nM} {fs : List (Nat × Nat)} {t : q_Ty} {u : Option Nat} (h : q_MI Γ nb md x B e fs i tp) (hp : vp_in (x.1 35) 400) (hO : nm_g x 30 (x.1 35) = 11) (hi : i + 1 < md) (ha : g_a Γ i = (e, some (u :: t))) (ha' : g_a Γ (i + 1) = (e, some (some m :: t))) (hA : nm_g x 32 (x.1 35) = nI m) (hm : m ≤ 30) : q_go Γ nb md x := by
  obtain ⟨-, t3, t4, t5⟩ := h.some ha
  have hgo := @q_MI.go Γ nb md B e i tp (i + 1) tp x
  simp only [List.length_cons] at t4
  obtain ⟨h1, h2, h3, h4, h5, h6, h7, h8, h9, h10, h11⟩ := id h
  have e37 : x.1 37 = nI (tp - 1) := by rw [h9, show (1 : Int32) = nI 1 from rfl, pk_sub (by omega)]
  have hq : vp_in (x.1 37) 200 := by rw [e37]; exact q_in (by omega) (by decide)
  unfold q_go; rw [sm_11 hO, hA]
  refine ⟨so_11 hO hp ⟨hq, fun _ => trivial, fun _ => ⟨hq, fun _ => trivial, fun _ => trivial⟩⟩, ?_⟩
  by_cases c : nm_g x 40 (x.1 37) < 0
  · rw [if_pos c]; exact ⟨q_ke.rf.f (by decide), q_nst 4 (by decide)⟩
  · rw [if_neg c]
    by_cases d : nm_g x 40 (x.1 37) < nI m
    · rw [if_pos d]
      refine ⟨q_ke.rf.f (by decide), fun _ => ⟨B, e, fs, i + 1, tp, hgo h (fun _ _ _ _ => rfl) rfl rfl (by show x.1 35 + 1 = _; rw [h7, nI_1]) hi h9 h10 (q_tp.s ha' t3 (by simp only [List.length_cons]; omega) ⟨fun m' q => ?_, t5.2⟩)⟩⟩
      cases q
      obtain ⟨v, v1, v2⟩ := nI_of c
      rw [v2] at d
      refine ⟨v, (nI_ltI v1 (by omega)).mp d, ?_⟩
      rw [← v2, e37, q_g _ _ _ (by omega)]
      rfl
    · rw [if_neg d]; exact ⟨q_ke.rf.f (by decide), q_nst 4 (by decide)⟩
/-! the reference's machine: calls, room, returns -/
theorem M_5 {Γ : q_G} {nb md B e i tp b l : Nat} {x : nM} {fs : List (Nat × Nat)} {O L A : Nat → Int32} (hc : q_code Γ nb md O L A) (h : q_MI Γ nb md x B e fs i tp) (hp : vp_in (x.1 35) 400) (hO : nm_g x 30 (x.1 35) = 5) (hi : i + 1 < md) (ha : g_a Γ i = (e, some (List.replicate (g_n Γ b) none))) (ha' : g_a Γ (i + 1) = (e, some [])) (hb : b < nb) (hL : nm_g x 31 (x.1 35) = nI l) (hl : l ≤ g_l Γ e) (hA : nm_g x 32 (x.1 35) = nI (g_e Γ b)) (hb0 : b ≠ 0) (hpb : g_p Γ b = q_an (g_p Γ) l e) : q_go Γ nb md x := by
  obtain ⟨-, t3, t4, t5⟩ := h.some ha
  rw [List.length_replicate] at t4
  obtain ⟨l1, T, l2, l3⟩ := M_linked hc h hl
  have hhd := h.hd
  obtain ⟨-, -, hmd, -, -, c6, -⟩ := hc
  obtain ⟨-, n3, -, en, em⟩ := c6 b hb
  obtain ⟨h1, h2, h3, h4, h5, h6, h7, h8, h9, h10, h11⟩ := id h
  have hlen : 3 * fs.length ≤ B := q_fr.len fs (B, e) h1 h3
  have e3 : x.1 37 + 3 = nI (tp + 2) := by rw [h9, show (3 : Int32) = 1 + nI 2 from rfl, ← Int32.add_assoc, q_i1, nI_add]
  have e2 : x.1 37 + 2 = nI (tp + 1) := by rw [h9, show (2 : Int32) = 1 + nI 1 from rfl, ← Int32.add_assoc, q_i1, nI_add]
  have e1 : x.1 37 + 1 = nI tp := by rw [h9, q_i1]
  unfold q_go; rw [sm_5 hO]
  suffices H : o_enter x (nI l) (nI (g_e Γ b)) ∧ q_ke x (m_enter x (nI l) (nI (g_e Γ b))) ∧ q_MS Γ nb md (m_enter x (nI l) (nI (g_e Γ b))) by
    rw [hL, hA]
    exact ⟨so_5 hO hp ⟨by rw [hL, hA]; exact H.1, trivial⟩, H.2⟩
  unfold o_enter m_enter o_room m_room
  rw [e3]
  by_cases c : nI (tp + 2) ≤ 199
  · have hlt : tp + 2 ≤ 199 := (nI_leI (b := 199) (by omega) (by decide)).mp c
    rw [if_pos c]
    refine ⟨⟨⟨fun _ => trivial, fun _ => trivial⟩, fun _ => trivial, fun _ => ⟨l1, ?_, ?_, ?_, trivial⟩⟩, ?_⟩
    · show vp_in (x.1 37 + 1) 200
      rw [e1]; exact q_in (by omega) (by decide)
    · show vp_in (x.1 37 + 2) 200
      rw [e2]; exact q_in (by omega) (by decide)
    · show vp_in (x.1 37 + 3) 200
      rw [e3]; exact q_in (by omega) (by decide)
    · rw [if_neg (show ¬ (1 : Int32) = 0 by decide)]
      refine ⟨(((((q_ke.rf.a (by decide)).a (by decide)).a (by decide)).f (by decide)).f (by decide)).f (by decide), fun _ => ?_⟩
      have eM : (nm_a (nm_a (nm_a x 40 (x.1 37 + 1) (m_linked x (nI l))) 40 (x.1 37 + 2) (x.1 36)) 40 (x.1 37 + 3) (x.1 35 + 1)).2 40 = upd (upd (upd (x.2 40) tp (nI T)) (tp + 1) (nI B)) (tp + 2) (nI (i + 1)) := by
        rw [e3, q_up _ _ _ (by omega), e2, q_up _ _ _ (by omega), e1, q_up _ _ _ (by omega), l2, h5, h7, nI_1]
      refine ⟨tp, b, (B, e) :: fs, g_e Γ b, tp, ?_, ?_, ?_, by omega, ?_, ?_, rfl, em, h9, h10, ?_⟩
      · show q_fr Γ md ((nm_a (nm_a (nm_a x 40 (x.1 37 + 1) (m_linked x (nI l))) 40 (x.1 37 + 2) (x.1 36)) 40 (x.1 37 + 3) (x.1 35 + 1)).2 40) _
        rw [eM]
        refine ⟨hb0, t4, ?_, ⟨i + 1, ?_, hi, ha'⟩, ⟨T, ?_, by rw [hpb]; exact l3⟩, q_fr.eq _ (fun g hg k hk => ?_) h1⟩
        · show upd _ (tp + 2) _ (tp + 1) = _
          rw [pk_un (by omega), pk_us]
        · show upd _ (tp + 2) _ (tp + 2) = _
          rw [pk_us]
        · show upd _ (tp + 2) _ tp = _
          rw [pk_un (by omega), pk_un (by omega), pk_us]
        · have := hhd g hg k hk
          rw [pk_un (by omega), pk_un (by omega), pk_un (by omega)]
      · intro g hg
        rcases List.mem_cons.mp hg with q | q
        · rw [q]; exact hb
        · exact h2 g q
      · intro g hg
        rcases List.mem_cons.mp hg with q | q
        · rw [q]; exact t3
        · exact h3 g q
      · show x.1 37 + 1 = _
        exact e1
      · show x.1 38 + 1 = _
        rw [h6, nI_1]; rfl
      · rw [en]; exact ⟨rfl, Or.inl ⟨rfl, rfl⟩⟩
  · rw [if_neg c]
    refine ⟨⟨⟨fun _ => trivial, fun _ => trivial⟩, fun _ => trivial, fun q => absurd rfl q⟩, ?_⟩
    rw [if_pos rfl]; exact ⟨q_ke.rf.f (by decide), q_nst 3 (by decide)⟩
theorem M_more {B c : Nat} (hB : B + c ≤ 200) : ∀ (n j : Nat) (x : nM), 4 ≤ j → j ≤ c + 1 → c + 1 - j < n → x.1 37 = nI B - 1 → p_more_10 n x (nI c) (nI j) ∧ ∃ y : nM, k_more_10 n x (nI c) (nI j) = nm_f (nm_f y 37 (x.1 37 + nI c)) 35 (x.1 35 + 1) ∧ y.1 = x.1 ∧ (∀ k, k ≠ 40 → y.2 k = x.2 k) ∧ ∀ p, p < B + 3 → y.2 40 p = x.2 40 p := by
  intro n
  induction n with
  | zero => intro j x _ _ h; omega
  | succ n ih =>
    intro j x h4 hj hn h37
    rw [k_more_10, p_more_10]
    by_cases c1 : nI c < nI j
    · rw [if_pos c1]
      exact ⟨⟨fun _ => trivial, fun q => absurd c1 q⟩, x, rfl, rfl, fun _ _ => rfl, fun _ _ => rfl⟩
    · have hle : j ≤ c := by
        rcases Nat.lt_or_ge c j with q | q
        · exact absurd (nI_lt q (by omega)) c1
        · exact q
      have ep : x.1 37 + nI j = nI (B + j - 1) := by
        rw [h37, show nI j = 1 + nI (j - 1) by rw [show (1 : Int32) = nI 1 from rfl, nI_add, show 1 + (j - 1) = j by omega], ← Int32.add_assoc, q_i1, nI_add, show B + (j - 1) = B + j - 1 by omega]
      rw [if_neg c1, ep, nI_1]
      obtain ⟨k1, y, k2, k3, k4, k5⟩ := ih (j + 1) (nm_a x 40 (nI (B + j - 1)) 0) (by omega) (by omega) (by omega) h37
      refine ⟨⟨fun q => absurd q c1, fun _ => ⟨q_in (by omega) (by decide), k1⟩⟩, y, k2, k3, fun k hk => by rw [k4 k hk, q_a2, if_neg hk], fun p hp => ?_⟩
      rw [k5 p hp, q_up _ _ _ (by omega)]
      exact pk_un (by omega)
theorem M_6 {Γ : q_G} {nb md B e i tp : Nat} {x : nM} {fs : List (Nat × Nat)} (h : q_MI Γ nb md x B e fs i tp) (hp : vp_in (x.1 35) 400) (hO : nm_g x 30 (x.1 35) = 6) (hi : i + 1 < md) (ha : g_a Γ i = (e, none)) (ha' : g_a Γ (i + 1) = (e, some [])) (hA : nm_g x 32 (x.1 35) = nI (g_c Γ e)) (h3c : 3 ≤ g_c Γ e) (hc3 : g_c Γ e ≤ 3000) : q_go Γ nb md x := by
  obtain ⟨-, t4⟩ := h.none ha
  have hhd := h.hd
  have hgo := @q_MI.go Γ nb md B e i tp (i + 1) (B + g_c Γ e) x
  obtain ⟨h1, h2, h3, h4, h5, h6, h7, h8, h9, h10, h11⟩ := id h
  subst t4
  generalize hce : g_c Γ e = c at *
  have ep : x.1 37 + nI c = nI (tp + c - 1) := by
    rw [h9, show nI c = 1 + nI (c - 1) by rw [show (1 : Int32) = nI 1 from rfl, nI_add, show 1 + (c - 1) = c by omega], ← Int32.add_assoc, q_i1, nI_add, show tp + (c - 1) = tp + c - 1 by omega]
  unfold q_go; rw [sm_6 hO, hA]
  suffices H : o_more x (nI c) ∧ q_ke x (m_more x (nI c)) ∧ q_MS Γ nb md (m_more x (nI c)) by
    exact ⟨so_6 hO hp ⟨by rw [hA]; exact H.1, trivial⟩, H.2⟩
  unfold o_more m_more o_room m_room
  rw [ep]
  by_cases c1 : nI (tp + c - 1) ≤ 199
  · have hlt : tp + c - 1 ≤ 199 := (nI_leI (b := 199) (by omega) (by decide)).mp c1
    rw [if_pos c1]
    obtain ⟨k1, y, k2, k3, k4, k5⟩ := M_more (show tp + c ≤ 200 by omega) 300 4 x (by omega) (by omega) (by omega) h9
    rw [show nI 4 = (4 : Int32) from rfl] at k1 k2
    refine ⟨⟨⟨fun _ => trivial, fun _ => trivial⟩, fun _ => trivial, fun _ => k1⟩, ?_⟩
    rw [if_neg (show ¬ (1 : Int32) = 0 by decide)]
    show q_ke x (k_more_10 300 x (nI c) 4) ∧ q_MS Γ nb md (k_more_10 300 x (nI c) 4)
    rw [k2]
    refine ⟨⟨fun k hk => ?_, fun k hk => ?_⟩, fun _ => ⟨tp, e, fs, i + 1, tp + c, hgo h ?_ ?_ ?_ ?_ hi ?_ (by omega) ?_⟩⟩
    · rw [q_f1, if_neg (by omega), q_f1, if_neg (by omega), k3]
    · exact k4 k (by omega)
    · intro g hg k hk
      exact k5 _ (hhd g hg k hk)
    · show y.1 36 = _
      rw [k3]
    · show y.1 38 = _
      rw [k3]
    · show x.1 35 + 1 = _
      rw [h7, nI_1]
    · show x.1 37 + nI c = _
      rw [ep, show (1 : Int32) = nI 1 from rfl, pk_sub (by omega)]
    · exact q_tp.s ha' (by omega) (by rw [hce]; simp only [List.length_nil]; omega) trivial
  · rw [if_neg c1]
    refine ⟨⟨⟨fun _ => trivial, fun _ => trivial⟩, fun _ => trivial, fun q => absurd rfl q⟩, ?_⟩
    rw [if_pos rfl]; exact ⟨q_ke.rf.f (by decide), q_nst 3 (by decide)⟩
theorem M_leave {Γ : q_G} {nb md B e i tp : Nat} {x : nM} {fs : List (Nat × Nat)} (h : q_MI Γ nb md x B e fs i tp) (ha : g_a Γ i = (e, some [])) : o_leave x (nI (g_n Γ e)) ∧ q_ke x (m_leave x (nI (g_n Γ e))) ∧ q_MS Γ nb md (m_leave x (nI (g_n Γ e))) := by
  obtain ⟨-, t3, t4, t5⟩ := h.some ha
  obtain ⟨h1, h2, h3, h4, h5, h6, h7, h8, h9, h10, h11⟩ := id h
  have e2 : x.1 36 + 2 = nI (B + 2) := by rw [h5, show (2 : Int32) = nI 2 from rfl, nI_add]
  have e1 : x.1 36 + 1 = nI (B + 1) := by rw [h5, nI_1]
  have hlen : 3 * fs.length ≤ B := q_fr.len fs (B, e) h1 h3
  unfold o_leave m_leave
  refine ⟨⟨by rw [e2]; exact q_in (by omega) (by decide), by rw [e1]; exact q_in (by omega) (by decide), fun _ => trivial, fun _ => trivial⟩, ?_⟩
  cases fs with
  | nil =>
    have c : x.1 38 - 1 = 0 := by rw [h6]; decide
    rw [if_pos c]
    exact ⟨((((q_ke.rf.f (by decide)).f (by decide)).f (by decide)).f (by decide)).f (by decide), q_nst 2 (by decide)⟩
  | cons f rest =>
    obtain ⟨B', e'⟩ := f
    obtain ⟨f1, f2, f3, ⟨r, r1, r2, r3⟩, f5, f7⟩ := h1
    have f2 : B = B' + g_c Γ e' + g_n Γ e := f2
    have f3 : x.2 40 (B + 1) = nI B' := f3
    have r1 : x.2 40 (B + 2) = nI r := r1
    have c3 : 3 ≤ g_c Γ e' := h3 (B', e') List.mem_cons_self
    simp only [List.length_cons] at h6 hlen
    have e38 : x.1 38 - 1 = nI (rest.length + 1) := by rw [h6, nI_pred]
    have c : ¬ x.1 38 - 1 = 0 := by rw [e38]; exact nI_ne0 (by omega) (by omega)
    rw [if_neg c]
    refine ⟨((((q_ke.rf.f (by decide)).f (by decide)).f (by decide)).f (by decide)).f (by decide), fun _ => ⟨B', e', rest, r, B' + g_c Γ e', f7, fun g hg => h2 g (List.mem_cons_of_mem _ hg), fun g hg => h3 g (List.mem_cons_of_mem _ hg), by omega, ?_, ?_, ?_, r2, ?_, by omega, ?_⟩⟩
    · show nm_g x 40 (x.1 36 + 1) = _
      rw [e1, q_g _ _ _ (by omega)]; exact f3
    · show x.1 38 - 1 = _
      exact e38
    · show nm_g x 40 (x.1 36 + 2) = _
      rw [e2, q_g _ _ _ (by omega)]; exact r1
    · show x.1 36 - 1 - nI (g_n Γ e) = _
      rw [h5, f2, Int32.sub_eq_add_neg, Int32.sub_eq_add_neg, Int32.add_assoc, Int32.add_comm (-1), ← Int32.add_assoc, ← Int32.sub_eq_add_neg, ← Int32.sub_eq_add_neg, pk_sub (by omega), Nat.add_sub_cancel]
    · exact q_tp.s r3 c3 (by simp only [List.length_nil]; omega) trivial
/-! the reference's machine: tell, operations, a step, a run -/
theorem M_tell3 : ∀ (n j : Nat) (x : nM) (v : Int32), j ≤ 7 → j < n → p_tell_3 n x v (nI j) ∧ (∀ k, k ≠ 39 → (k_tell_3 n x v (nI j)).1 k = x.1 k) ∧ ∀ k, k ≠ 41 → (k_tell_3 n x v (nI j)).2 k = x.2 k := by
  intro n
  induction n with
  | zero => intro j x v _ h; omega
  | succ n ih =>
    intro j x v hj hn
    rw [k_tell_3, p_tell_3]
    by_cases c : nI j ≤ 0
    · rw [if_pos c]
      refine ⟨⟨fun _ => ⟨vp_in_nI (n := 0) (by decide) (by decide), trivial⟩, fun q => absurd c q⟩, fun k hk => by rw [q_f1, if_neg hk, q_a1], fun k hk => by rw [q_f2, q_a2, if_neg hk]⟩
    · rw [if_neg c]
      obtain ⟨d, hd⟩ : ∃ d, j = d + 1 := by
        cases j with
        | zero => exact absurd (by decide) c
        | succ d => exact ⟨d, rfl⟩
      subst hd
      rw [nI_pred, pk_m1]
      obtain ⟨k1, k2, k3⟩ := ih d (nm_a x 41 (nI (d + 1)) (nm_g x 41 (nI d))) v (by omega) (by omega)
      exact ⟨⟨fun q => absurd q c, fun _ => ⟨q_in (by omega) (by decide), q_in (by omega) (by decide), k1⟩⟩, k2, fun k hk => by rw [k3 k hk, q_a2, if_neg hk]⟩
theorem M_tell (x : nM) (v : Int32) : o_tell x v ∧ (∀ k, k ≠ 39 → (m_tell x v).1 k = x.1 k) ∧ ∀ k, k ≠ 41 → (m_tell x v).2 k = x.2 k := by
  unfold o_tell m_tell
  have := M_tell3 300 7 x v (by omega) (by omega)
  rw [show nI 7 = (7 : Int32) from rfl] at this
  exact this
theorem M_59 {x : nM} {v2 v3 v4 : Int32} (h1 : v2 ≠ 1) (h10 : v2 ≠ 10) (hz : v2 = 5 → ¬ v3 = 0) (hd : vp_in (x.1 37 - 1) 200) : p_operation_59 x v2 v3 v4 ∧ ∃ w, k_operation_59 x v2 v3 v4 = k_operation_224 (nm_f x 37 (x.1 37 - 1)) w (x.1 37 - 1) := by
  have hd' : ∀ w, p_operation_224 (nm_f x 37 (x.1 37 - 1)) w (x.1 37 - 1) := fun _ => ⟨hd, trivial⟩
  constructor
  · unfold p_operation_59
    exact ⟨fun q => absurd q h1, fun _ => ⟨fun q => absurd q h10, fun _ => ⟨fun _ => hd' _, fun _ => ⟨fun _ => hd' _, fun _ => ⟨fun _ => hd' _, fun _ => ⟨fun q => ⟨hz q, hd' _⟩, fun _ => ⟨fun _ => ⟨fun _ => hd' _, fun _ => hd' _⟩, fun _ => ⟨fun _ => ⟨fun _ => hd' _, fun _ => hd' _⟩, fun _ => ⟨fun _ => ⟨fun _ => hd' _, fun _ => hd' _⟩, fun _ => ⟨fun _ => hd' _, fun _ => hd' _⟩⟩⟩⟩⟩⟩⟩⟩⟩⟩
  · unfold k_operation_59
    rw [if_neg h1, if_neg h10]
    by_cases c2 : v2 = 2
    · rw [if_pos c2]; exact ⟨_, rfl⟩
    rw [if_neg c2]
    by_cases c3 : v2 = 3
    · rw [if_pos c3]; exact ⟨_, rfl⟩
    rw [if_neg c3]
    by_cases c4 : v2 = 4
    · rw [if_pos c4]; exact ⟨_, rfl⟩
    rw [if_neg c4]
    by_cases c5 : v2 = 5
    · rw [if_pos c5]; exact ⟨_, rfl⟩
    rw [if_neg c5]
    by_cases c6 : v2 = 6
    · rw [if_pos c6]
      by_cases d : v4 = v3
      · rw [if_pos d]; exact ⟨1, rfl⟩
      · rw [if_neg d]; exact ⟨0, rfl⟩
    rw [if_neg c6]
    by_cases c7 : v2 = 7
    · rw [if_pos c7]
      by_cases d : v4 = v3
      · rw [if_pos d]; exact ⟨0, rfl⟩
      · rw [if_neg d]; exact ⟨1, rfl⟩
    rw [if_neg c7]
    by_cases c8 : v2 = 8
    · rw [if_pos c8]
      by_cases d : v3 ≤ v4
      · rw [if_pos d]; exact ⟨0, rfl⟩
      · rw [if_neg d]; exact ⟨1, rfl⟩
    rw [if_neg c8]
    by_cases d : v4 ≤ v3
    · rw [if_pos d]; exact ⟨0, rfl⟩
    · rw [if_neg d]; exact ⟨1, rfl⟩
theorem M_42 {x : nM} {v2 v3 v4 : Int32} (h1 : v2 ≠ 1) (h10 : v2 ≠ 10) (hd : vp_in (x.1 37 - 1) 200) : p_operation_42 x v2 v3 v4 ∧ (k_operation_42 x v2 v3 v4 = nm_f x 34 5 ∨ ∃ w, k_operation_42 x v2 v3 v4 = k_operation_224 (nm_f x 37 (x.1 37 - 1)) w (x.1 37 - 1)) := by
  unfold p_operation_42 k_operation_42
  by_cases c5 : v2 = 5
  · rw [if_pos c5]
    by_cases z : v3 = 0
    · rw [if_pos z]
      exact ⟨⟨fun _ => ⟨fun _ => trivial, fun q => absurd z q⟩, fun q => absurd c5 q⟩, Or.inl rfl⟩
    · rw [if_neg z]
      obtain ⟨k1, k2⟩ := M_59 (x := x) (v4 := v4) h1 h10 (fun _ => z) hd
      exact ⟨⟨fun _ => ⟨fun q => absurd q z, fun _ => k1⟩, fun q => absurd c5 q⟩, Or.inr k2⟩
  · rw [if_neg c5]
    obtain ⟨k1, k2⟩ := M_59 (x := x) (v3 := v3) (v4 := v4) h1 h10 (fun q => absurd q c5) hd
    exact ⟨⟨fun q => absurd q c5, fun _ => k1⟩, Or.inr k2⟩
theorem M_91 {Γ : q_G} {nb md B e i tp : Nat} {x : nM} {fs : List (Nat × Nat)} {t : q_Ty} {u : Option Nat} (a1 : Int32) (h : q_MI Γ nb md x B e fs i tp) (hi : i + 1 < md) (ha : g_a Γ i = (e, some (u :: t))) (ha' : g_a Γ (i + 1) = (e, some (none :: t))) : o_operation x a1 1 ∧ q_ke x (m_operation x a1 1) ∧ q_MS Γ nb md (m_operation x a1 1) := by
  obtain ⟨-, t3, t4, t5⟩ := h.some ha
  simp only [List.length_cons] at t4
  have hhd := h.hd
  have hgo := @q_MI.go Γ nb md B e i tp (i + 1) tp x
  obtain ⟨h1, h2, h3, h4, h5, h6, h7, h8, h9, h10, h11⟩ := id h
  have e37 : x.1 37 = nI (tp - 1) := by rw [h9, show (1 : Int32) = nI 1 from rfl, pk_sub (by omega)]
  have hq : vp_in (x.1 37) 200 := by rw [e37]; exact q_in (by omega) (by decide)
  have c : ¬ x.1 37 ≤ 0 := by rw [e37]; exact nI_nle (by omega) (by omega)
  have hq1 : vp_in (x.1 37 - 1) 200 := by rw [e37, show (1 : Int32) = nI 1 from rfl, pk_sub (by omega)]; exact q_in (by omega) (by decide)
  unfold o_operation m_operation p_operation_42 k_operation_42 p_operation_59 k_operation_59
  rw [if_neg (by decide), if_neg c, if_neg (by decide), if_pos rfl]
  refine ⟨⟨fun q => absurd q (by decide), fun _ => ⟨hq, fun q => absurd q c, fun _ => ⟨hq1, fun q => absurd q (by decide), fun _ => ⟨fun _ => ⟨hq, trivial⟩, fun q => absurd rfl q⟩⟩⟩⟩, (q_ke.rf.a (by decide)).f (by decide), fun _ => ⟨B, e, fs, i + 1, tp, hgo h ?_ rfl rfl ?_ hi h9 h10 ?_⟩⟩
  · intro g hg k hk
    show (nm_a x 40 (x.1 37) _).2 40 _ = _
    rw [e37, q_up _ _ _ (by omega)]
    have := hhd g hg k hk
    exact pk_un (by omega)
  · show x.1 35 + 1 = _
    rw [h7, nI_1]
  · show q_tp Γ ((nm_a x 40 (x.1 37) _).2 40) B e _ _
    rw [e37, q_up _ _ _ (by omega)]
    exact q_tp.s ha' t3 (by simp only [List.length_cons]; omega) ⟨(fun m q => by cases q), q_sk.eq t (tp - 1) (fun j j1 j2 => pk_un (by omega)) (by omega) t5.2⟩
theorem M_910 {Γ : q_G} {nb md B e i tp : Nat} {x : nM} {fs : List (Nat × Nat)} {t : q_Ty} {u : Option Nat} (a1 : Int32) (h : q_MI Γ nb md x B e fs i tp) (hi : i + 1 < md) (ha : g_a Γ i = (e, some (u :: t))) (ha' : g_a Γ (i + 1) = (e, some t)) : o_operation x a1 10 ∧ q_ke x (m_operation x a1 10) ∧ q_MS Γ nb md (m_operation x a1 10) := by
  obtain ⟨-, t3, t4, t5⟩ := h.some ha
  simp only [List.length_cons] at t4
  have hhd := h.hd
  have hgo := @q_MI.go Γ nb md B e i tp (i + 1) (tp - 1) x
  obtain ⟨h1, h2, h3, h4, h5, h6, h7, h8, h9, h10, h11⟩ := id h
  have e37 : x.1 37 = nI (tp - 1) := by rw [h9, show (1 : Int32) = nI 1 from rfl, pk_sub (by omega)]
  have hq : vp_in (x.1 37) 200 := by rw [e37]; exact q_in (by omega) (by decide)
  have c : ¬ x.1 37 ≤ 0 := by rw [e37]; exact nI_nle (by omega) (by omega)
  have hq1 : vp_in (x.1 37 - 1) 200 := by rw [e37, show (1 : Int32) = nI 1 from rfl, pk_sub (by omega)]; exact q_in (by omega) (by decide)
  unfold o_operation m_operation p_operation_42 k_operation_42 p_operation_59 k_operation_59
  rw [if_neg (by decide), if_neg c, if_neg (by decide), if_neg (by decide), if_pos rfl]
  obtain ⟨y1, y2, y3⟩ := M_tell x (nm_g x 40 (x.1 37))
  generalize m_tell x (nm_g x 40 (x.1 37)) = y at *
  refine ⟨⟨fun q => absurd q (by decide), fun _ => ⟨hq, fun q => absurd q c, fun _ => ⟨hq1, fun q => absurd q (by decide), fun _ => ⟨fun q => absurd q (by decide), fun _ => ⟨fun _ => ⟨y1, trivial⟩, fun q => absurd rfl q⟩⟩⟩⟩⟩, ?_, fun _ => ⟨B, e, fs, i + 1, tp - 1, hgo h ?_ ?_ ?_ ?_ hi ?_ (by omega) ?_⟩⟩
  · refine ⟨fun k hk => ?_, fun k hk => y3 k (by omega)⟩
    show (if k = 35 then _ else if k = 37 then _ else y.1 k) = _
    rw [if_neg (by omega), if_neg (by omega)]; exact y2 k (by omega)
  · intro g hg k hk
    show y.2 40 _ = _
    rw [y3 40 (by decide)]
  · show y.1 36 = _
    exact y2 36 (by decide)
  · show y.1 38 = _
    exact y2 38 (by decide)
  · show y.1 35 + 1 = _
    rw [y2 35 (by decide), h7, nI_1]
  · show y.1 37 - 1 = _
    rw [y2 37 (by decide), e37]
  · show q_tp Γ (y.2 40) B e _ _
    rw [y3 40 (by decide)]
    exact q_tp.s ha' t3 (by omega) t5.2
theorem M_92 {Γ : q_G} {nb md B e i tp : Nat} {x : nM} {fs : List (Nat × Nat)} {t : q_Ty} {u w : Option Nat} (a1 : Int32) {a2 : Int32} (h0 : a2 ≠ 0) (h1 : a2 ≠ 1) (h10 : a2 ≠ 10) (h : q_MI Γ nb md x B e fs i tp) (hi : i + 1 < md) (ha : g_a Γ i = (e, some (u :: w :: t))) (ha' : g_a Γ (i + 1) = (e, some (none :: t))) : o_operation x a1 a2 ∧ q_ke x (m_operation x a1 a2) ∧ q_MS Γ nb md (m_operation x a1 a2) := by
  obtain ⟨-, t3, t4, t5⟩ := h.some ha
  simp only [List.length_cons] at t4
  have hhd := h.hd
  have hgo := @q_MI.go Γ nb md B e i tp (i + 1) (tp - 1) x
  obtain ⟨g1, h2, h3, h4, h5, h6, h7, h8, h9, hx, h11⟩ := id h
  have e37 : x.1 37 = nI (tp - 1) := by rw [h9, show (1 : Int32) = nI 1 from rfl, pk_sub (by omega)]
  have e38 : x.1 37 - 1 = nI (tp - 2) := by rw [e37, show (1 : Int32) = nI 1 from rfl, pk_sub (by omega)]; rfl
  have hq : vp_in (x.1 37) 200 := by rw [e37]; exact q_in (by omega) (by decide)
  have c : ¬ x.1 37 ≤ 0 := by rw [e37]; exact nI_nle (by omega) (by omega)
  have hq1 : vp_in (x.1 37 - 1) 200 := by rw [e38]; exact q_in (by omega) (by decide)
  unfold o_operation m_operation
  rw [if_neg h0, if_neg c]
  obtain ⟨k1, k2⟩ := M_42 (x := x) (v3 := nm_g x 40 (x.1 37)) (v4 := nm_g x 40 (x.1 37 - 1)) h1 h10 hq1
  refine ⟨⟨fun q => absurd q h0, fun _ => ⟨hq, fun q => absurd q c, fun _ => ⟨hq1, k1⟩⟩⟩, ?_⟩
  rcases k2 with k2 | ⟨z, k2⟩
  · rw [k2]; exact ⟨q_ke.rf.f (by decide), q_nst 5 (by decide)⟩
  · rw [k2]
    refine ⟨((q_ke.rf.f (by decide)).a (by decide)).f (by decide), fun _ => ⟨B, e, fs, i + 1, tp - 1, hgo h ?_ rfl rfl ?_ hi ?_ (by omega) ?_⟩⟩
    · intro g hg k hk
      show (nm_a (nm_f x 37 (x.1 37 - 1)) 40 (x.1 37 - 1) _).2 40 _ = _
      rw [e38, q_up _ _ _ (by omega)]
      have := hhd g hg k hk
      exact pk_un (by omega)
    · show x.1 35 + 1 = _
      rw [h7, nI_1]
    · show x.1 37 - 1 = _
      rw [e37]
    · show q_tp Γ ((nm_a (nm_f x 37 (x.1 37 - 1)) 40 (x.1 37 - 1) _).2 40) B e _ _
      rw [e38, q_up _ _ _ (by omega)]
      exact q_tp.s ha' t3 (by simp only [List.length_cons]; omega) ⟨(fun m q => by cases q), q_sk.eq t (tp - 1 - 1) (fun j j1 j2 => pk_un (by omega)) (by omega) t5.2.2⟩
theorem M_9 {Γ : q_G} {nb md : Nat} {x : nM} (hp : vp_in (x.1 35) 400) (hO : nm_g x 30 (x.1 35) = 9) (H : o_operation x (nm_g x 31 (x.1 35)) (nm_g x 32 (x.1 35)) ∧ q_ke x (m_operation x (nm_g x 31 (x.1 35)) (nm_g x 32 (x.1 35))) ∧ q_MS Γ nb md (m_operation x (nm_g x 31 (x.1 35)) (nm_g x 32 (x.1 35)))) : q_go Γ nb md x := by
  unfold q_go; rw [sm_9 hO]; exact ⟨so_9 hO hp ⟨H.1, trivial⟩, H.2⟩
/-- a step -/
theorem M_step {Γ : q_G} {nb md B e i tp : Nat} {x : nM} {fs : List (Nat × Nat)} (hc : q_code Γ nb md (x.2 30) (x.2 31) (x.2 32)) (h : q_MI Γ nb md x B e fs i tp) : q_go Γ nb md x := by
  have h7 : x.1 35 = nI i := h.2.2.2.2.2.2.1
  have h8 : i < md := h.2.2.2.2.2.2.2.1
  have hmd : md ≤ 363 := hc.2.2.1
  have hp : vp_in (x.1 35) 400 := by rw [h7]; exact q_in (by omega) (by decide)
  have e0 : nm_g x 30 (x.1 35) = x.2 30 i := by rw [h7, q_g _ _ _ (by omega)]
  have e1 : nm_g x 31 (x.1 35) = x.2 31 i := by rw [h7, q_g _ _ _ (by omega)]
  have e2 : nm_g x 32 (x.1 35) = x.2 32 i := by rw [h7, q_g _ _ _ (by omega)]
  obtain ⟨⟨-, hk⟩, ht⟩ := hc.2.2.2.2.2.2.1 i h8
  have hn := fun q1 q2 => q_cd hc h8 q1 q2
  rcases hk with ⟨b, t, t', a1, a2, st⟩ | ⟨hO, b, c, l, a1, a2, c1, c2, c3, c4, c5, c6⟩ | ⟨hO, b, a1, a2, a3, a4, a5⟩ | ⟨hO, b, a1⟩ | ⟨hO, b, u, a1, a2⟩ | ⟨hO, hA, b, a1, a2⟩
  · have hbe : b = e := (h.some a1).1
    subst hbe
    rcases st with ⟨hO, s1⟩ | ⟨hO, s1, s2⟩ | ⟨hO, s1, u, s2⟩ | ⟨hO, m, r, s1, s2, s3⟩ | ⟨hO, u, m, s1, s2⟩ | ⟨hO, hA, u, r, s1, s2⟩ | ⟨hO, hA, u, s1⟩ | ⟨hO, ⟨k, k1, k2, hA⟩, u, v, r, s1, s2⟩ | ⟨hO, m, u, r, hA, m1, m2, s1, s2⟩
    · rw [s1] at a2
      exact M_0 h hp (e0.trans hO) (hn (by rw [hO]; decide) (fun q => by rw [hO] at q; exact absurd q.1 (by decide))) a1 a2
    · rw [s2] at a2
      exact M_1 hc h hp (e0.trans hO) (hn (by rw [hO]; decide) (fun q => by rw [hO] at q; exact absurd q.1 (by decide))) a1 a2 (by rw [e1, e2]; exact s1)
    · rw [s2] at a1
      exact M_2 hc h hp (e0.trans hO) (hn (by rw [hO]; decide) (fun q => by rw [hO] at q; exact absurd q.1 (by decide))) a1 a2 (by rw [e1, e2]; exact s1)
    · rw [s1] at a1; rw [s2] at a2
      exact M_3 hc h hp (e0.trans hO) (hn (by rw [hO]; decide) (fun q => by rw [hO] at q; exact absurd q.1 (by decide))) a1 a2 (by rw [e1, e2]; exact s3)
    · rw [s1] at a1
      exact M_4 hc h hp (e0.trans hO) (hn (by rw [hO]; decide) (fun q => by rw [hO] at q; exact absurd q.1 (by decide))) a1 a2 (by rw [e1, e2]; exact s2)
    · rw [s1] at a1; rw [s2] at a2
      refine M_9 hp (e0.trans hO) ?_
      rw [e2, hA]
      exact M_91 _ h (hn (by rw [hO]; decide) (fun q => by rw [hA] at q; exact absurd q.2 (by decide))) a1 a2
    · rw [s1] at a1
      refine M_9 hp (e0.trans hO) ?_
      rw [e2, hA]
      exact M_910 _ h (hn (by rw [hO]; decide) (fun q => by rw [hA] at q; exact absurd q.2 (by decide))) a1 a2
    · rw [s1] at a1; rw [s2] at a2
      refine M_9 hp (e0.trans hO) ?_
      rw [e2, hA]
      have n0 : nI k ≠ 0 := nI_ne0 (by omega) (by omega)
      have n1 : nI k ≠ 1 := fun q => by have := nz_inj (a := k) (b := 1) q (by omega) (by omega); omega
      have n10 : nI k ≠ 10 := fun q => by have := nz_inj (a := k) (b := 10) q (by omega) (by omega); omega
      exact M_92 _ n0 n1 n10 h (hn (by rw [hO]; decide) (fun q => by rw [hA] at q; exact n0 q.2)) a1 a2
    · rw [s1] at a1; rw [s2] at a2
      exact M_11 h hp (e0.trans hO) (hn (by rw [hO]; decide) (fun q => by rw [hO] at q; exact absurd q.1 (by decide))) a1 a2 (e2.trans hA) m2
  · have hbe : b = e := (h.some a1).1
    subst hbe
    exact M_5 hc h hp (e0.trans hO) (hn (by rw [hO]; decide) (fun q => by rw [hO] at q; exact absurd q.1 (by decide))) a1 a2 c1 (e1.trans c2) c3 (e2.trans c4) c5 c6
  · have hbe : b = e := (h.none a1).1
    subst hbe
    exact M_6 h hp (e0.trans hO) (hn (by rw [hO]; decide) (fun q => by rw [hO] at q; exact absurd q.1 (by decide))) a1 a2 (e2.trans a3) a4 a5
  · obtain ⟨t, t1, t2, t3⟩ := ht (Or.inl hO)
    refine M_7 h hp (e0.trans hO) a1 (e2.trans t1) t2 ?_
    rcases t3 with ⟨r1, r2, _⟩ | r
    · exact Or.inl ⟨r1, r2⟩
    · exact Or.inr r
  · have hbe : b = e := (h.some a1).1
    subst hbe
    obtain ⟨t, t1, t2, t3⟩ := ht (Or.inr hO)
    rw [a1] at t3
    refine M_8 h hp (e0.trans hO) (hn (by rw [hO]; decide) (fun q => by rw [hO] at q; exact absurd q.1 (by decide))) a1 a2 (e2.trans t1) t2 ?_
    rcases t3 with ⟨r1, _⟩ | ⟨_, r⟩
    · cases r1
    · exact r
  · have hbe : b = e := (h.some a1).1
    subst hbe
    refine M_9 hp (e0.trans hO) ?_
    rw [e1, a2, e2, hA]
    obtain ⟨k1, k2⟩ := M_leave h a1
    unfold o_operation m_operation
    rw [if_pos rfl]
    exact ⟨⟨fun _ => ⟨k1, trivial⟩, fun q => absurd rfl q⟩, k2⟩
/-! the reference between calls -/
theorem q_fr.ne {Γ : q_G} {md : Nat} {M : Nat → Int32} : ∀ (fs : List (Nat × Nat)), q_fr Γ md M fs → ∀ S e, (S, e) ∈ fs → S ≠ 0 → e ≠ 0 := by
  intro fs
  induction fs with
  | nil => intro h; exact absurd h id
  | cons f rest ih =>
    intro h S e hm hS
    cases rest with
    | nil =>
      have hf : (S, e) = f := by simpa using hm
      rw [← hf] at h
      exact absurd h.1 hS
    | cons g rest =>
      obtain ⟨h1, -, -, -, -, h7⟩ := h
      rcases List.mem_cons.mp hm with q | q
      · rw [← q] at h1; exact h1
      · exact ih h7 S e q hS
theorem M_v58 {x : nM} {tp : Nat} (h37 : x.1 37 = nI tp - 1) (htp : tp ≤ 200) (v1 v2 v3 v4 : Int32) : p_variable_58 x v1 v2 v3 v4 := by
  unfold p_variable_58
  refine ⟨fun _ => trivial, fun _ => ⟨fun _ => trivial, fun c => ⟨fun d => ⟨?_, trivial⟩, fun _ => trivial⟩⟩⟩
  rw [lg_cmp_lt] at c
  rw [lg_cmp_le] at d
  generalize v3.toInt64 + v2.toInt64 = s at *
  rw [Int64.lt_iff_toInt_lt] at c
  rw [Int64.le_iff_toInt_le, Int32.toInt_toInt64, h37] at d
  have e1 : (nI tp - 1).toInt = (tp : Int) - 1 := pk_sub_toInt (a := tp) (b := 1) (by omega) (by decide)
  rw [e1] at d
  have e2 : (0 : Int64).toInt = 0 := by decide
  rw [e2] at c
  rw [vp_in_iff, Int64.toInt_toInt32]
  have e3 : s.toInt.bmod (2 ^ 32) = s.toInt := by
    rw [Int.bmod_eq_of_le (by omega) (by omega)]
  rw [e3]
  omega
theorem M_v27 {Γ : q_G} {md tp : Nat} {x : nM} {fs : List (Nat × Nat)} (hf : q_fr Γ md (x.2 40) fs) (h2 : ∀ g ∈ fs, g.1 < 200) (h37 : x.1 37 = nI tp - 1) (htp : tp ≤ 200) (v1 v2 : Int32) : ∀ (n j S e : Nat), (S, e) ∈ fs → j ≤ 200 → 200 - j < n → p_variable_27 n x v1 v2 (nI S) (nI j) := by
  intro n
  induction n with
  | zero => intro j S e _ _ h; omega
  | succ n ih =>
    intro j S e hm hj hn
    rw [p_variable_27]
    refine ⟨fun _ => M_v58 h37 htp _ _ _ _, fun _ => ⟨fun _ => M_v58 h37 htp _ _ _ _, fun c => ⟨fun _ => M_v58 h37 htp _ _ _ _, fun d => ?_⟩⟩⟩
    have hS : S < 200 := h2 _ hm
    have hj' : j < 200 := by
      rcases Nat.lt_or_ge j 200 with q | q
      · exact q
      · exact absurd (nI_le (a := 200) q (by omega)) c
    have hS0 : S ≠ 0 := fun q => by rw [q] at d; exact d (by decide)
    obtain ⟨T, t1, t2⟩ := q_fr.up fs hf S e hm (q_fr.ne fs hf S e hm hS0)
    rw [q_g _ _ _ (by omega), t1, nI_1]
    exact ⟨q_in hS (by decide), ih (j + 1) T _ t2 (by omega) (by omega)⟩
/-- what holds of the reference between two calls -/
def q_RI (x : nM) (ty : Nat) : Prop := x.1 1 = nI ty ∧ ty ≤ 180 ∧ ((x.1 33 = 0 ∧ x.1 34 ≠ 1 ∧ x.1 29 = 0) ∨ ∃ Γ nb md, q_code Γ nb md (x.2 30) (x.2 31) (x.2 32) ∧ x.1 29 = nI md ∧ q_MS Γ nb md x)
theorem q_MS.cg {Γ : q_G} {nb md : Nat} {x y : nM} (h : q_MS Γ nb md x) (h1 : ∀ k, 34 ≤ k → k < 39 → y.1 k = x.1 k) (h2 : y.2 40 = x.2 40) : q_MS Γ nb md y := by
  intro q
  rw [h1 34 (by omega) (by omega)] at q
  obtain ⟨B, e, fs, i, tp, k1, k2, k3, k4, k5, k6, k7, k8, k9, k10, k11⟩ := h q
  refine ⟨B, e, fs, i, tp, by rw [h2]; exact k1, k2, k3, k4, ?_, ?_, ?_, k8, ?_, k10, by rw [h2]; exact k11⟩
  · rw [h1 36 (by omega) (by omega)]; exact k5
  · rw [h1 38 (by omega) (by omega)]; exact k6
  · rw [h1 35 (by omega) (by omega)]; exact k7
  · rw [h1 37 (by omega) (by omega)]; exact k9
theorem q_RI.cg {x y : nM} {ty ty' : Nat} (h : q_RI x ty) (ht : y.1 1 = nI ty') (ht' : ty' ≤ 180) (h0 : ∀ k, k = 29 ∨ (32 < k ∧ k < 40) → y.1 k = x.1 k) (h2 : ∀ k, 29 < k → y.2 k = x.2 k) : q_RI y ty' := by
  refine ⟨ht, ht', ?_⟩
  rcases h.2.2 with ⟨a, b, c⟩ | ⟨Γ, nb, md, a, b, c⟩
  · exact Or.inl ⟨by rw [h0 33 (by omega)]; exact a, by rw [h0 34 (by omega)]; exact b, by rw [h0 29 (by omega)]; exact c⟩
  · exact Or.inr ⟨Γ, nb, md, by rw [h2 30 (by decide), h2 31 (by decide), h2 32 (by decide)]; exact a, by rw [h0 29 (by omega)]; exact b, c.cg (fun k _ _ => h0 k (by omega)) (h2 40 (by decide))⟩
theorem q_RI.f0 {x : nM} {ty : Nat} (h : q_RI x ty) (v : Int32) : q_RI (nm_f x 0 v) ty :=
  h.cg h.1 h.2.1 (fun k hk => by rw [q_f1, if_neg (by omega)]) (fun _ _ => rfl)
theorem R_compile {x : nM} {ty : Nat} (h : q_RI x ty) : o_compile x ∧ q_RI (m_compile x).1 0 := by
  obtain ⟨k1, k2⟩ := C_compile h.1 h.2.1
  refine ⟨k1, ?_⟩
  obtain ⟨c1, c2, c3⟩ := k2
  rcases c3 with ⟨c3, c4⟩ | c3
  · exact h.cg c1 (by omega) c3 c4
  · obtain ⟨Γ, nb, md, d1, d2, d3, d4, -⟩ := c3
    exact ⟨c1, by omega, Or.inr ⟨Γ, nb, md, d1, d2, fun q => by rw [d4.1] at q; exact absurd q (by decide)⟩⟩
theorem R_start {x : nM} {ty : Nat} (h : q_RI x ty) : o_start x ∧ q_RI (m_start x).1 ty := by
  unfold o_start m_start
  obtain ⟨f1, f2, ⟨f4, f5, f6, f7, f8, f9⟩, f10, f11⟩ := F_forget (nm_f x 0 0)
  refine ⟨⟨fun _ => trivial, fun _ => ⟨f1, trivial⟩⟩, ?_⟩
  by_cases c : x.1 33 = 0
  · rw [if_pos c]; exact h.f0 0
  · rw [if_neg c]
    show q_RI (nm_f (nm_f (m_forget (nm_f x 0 0)) 34 1) 38 1) ty
    have f2' : ∀ k, 0 < k → k < 34 → (m_forget (nm_f x 0 0)).1 k = x.1 k := fun k hk hk' => by rw [f2 k (by omega), q_f1, if_neg (by omega)]
    generalize m_forget (nm_f x 0 0) = y at *
    refine ⟨(f2' 1 (by omega) (by omega)).trans h.1, h.2.1, ?_⟩
    rcases h.2.2 with ⟨a, _⟩ | ⟨Γ, nb, md, a, b, _⟩
    · exact absurd a c
    · refine Or.inr ⟨Γ, nb, md, ?_, (f2' 29 (by omega) (by omega)).trans b, fun _ => ⟨0, 0, [], 0, 0, ⟨rfl, rfl⟩, ?_, ?_, by omega, f6, rfl, f5, a.2.1, f7, by omega, ?_⟩⟩
      · show q_code Γ nb md (y.2 30) (y.2 31) (y.2 32)
        rw [f10 30 (by decide) (by decide), f10 31 (by decide) (by decide), f10 32 (by decide) (by decide)]
        exact a
      · intro g hg
        rw [List.mem_singleton.mp hg]; exact a.1
      · intro g hg; exact absurd hg List.not_mem_nil
      · obtain ⟨a1, a2, a3, a4, a5, a6, -⟩ := a
        have := (a6 0 a1).2.2.2.1
        rw [a4] at this
        rw [this]; exact ⟨rfl, Or.inl ⟨rfl, rfl⟩⟩
theorem R_22 {ty : Nat} (v1 : Int32) : ∀ (n j : Nat) (x : nM), q_RI x ty → (x.1 0 = 0 → v1 ≤ 200) → j ≤ 200 → 200 - j < n → p_run_22 n x v1 (nI j) ∧ q_RI (k_run_22 n x v1 (nI j)).1 ty := by
  intro n
  induction n with
  | zero => intro j x _ _ _ h; omega
  | succ n ih =>
    intro j x h hv hj hn
    rw [p_run_22, k_run_22]
    by_cases c0 : x.1 0 = 0
    · rw [if_pos c0]
      by_cases c1 : v1 ≤ nI j
      · rw [if_pos c1]
        exact ⟨⟨fun _ => ⟨fun _ => trivial, fun q => absurd c1 q⟩, fun q => absurd c0 q⟩, h⟩
      · rw [if_neg c1]
        by_cases c2 : x.1 34 = 1
        · rw [if_pos c2]
          have hj' : j < 200 := by
            rcases Nat.lt_or_ge j 200 with q | q
            · exact q
            · have hj : j = 200 := by omega
              rw [hj] at c1; exact absurd (hv c0) c1
          obtain ⟨t1, t2, t3⟩ := h
          rcases t3 with ⟨_, b, _⟩ | ⟨Γ, nb, md, a, b, c⟩
          · exact absurd c2 b
          · obtain ⟨B, e, fs, i, tp, m⟩ := c c2
            obtain ⟨s1, s2, s3⟩ := M_step a m
            have hR : q_RI (m_step x) ty := ⟨(s2.1 1 (by omega)).trans t1, t2, Or.inr ⟨Γ, nb, md, by rw [s2.2 30 (by omega), s2.2 31 (by omega), s2.2 32 (by omega)]; exact a, (s2.1 29 (by omega)).trans b, s3⟩⟩
            obtain ⟨k1, k2⟩ := ih (j + 1) (m_step x) hR (by rw [s2.1 0 (by omega)]; exact hv) (by omega) (by omega)
            rw [nI_1]
            exact ⟨⟨fun _ => ⟨fun q => absurd q c1, fun _ => ⟨fun _ => ⟨s1, k1⟩, fun q => absurd c2 q⟩⟩, fun q => absurd c0 q⟩, k2⟩
        · rw [if_neg c2]
          exact ⟨⟨fun _ => ⟨fun q => absurd q c1, fun _ => ⟨fun q => absurd q c2, fun _ => trivial⟩⟩, fun q => absurd c0 q⟩, h⟩
    · rw [if_neg c0]
      exact ⟨⟨fun q => absurd q c0, fun _ => trivial⟩, h⟩
theorem R_17 {x : nM} {ty : Nat} (h : q_RI x ty) (v1 w : Int32) (hv : w = 0 → v1 ≤ 200) : p_run_17 x v1 w ∧ q_RI (k_run_17 x v1 w).1 ty := by
  unfold p_run_17 k_run_17
  have := R_22 v1 300 0 (nm_f x 0 w) (h.f0 w) (fun q => hv (by rw [q_f1, if_pos rfl] at q; exact q)) (by omega) (by omega)
  rw [show nI 0 = (0 : Int32) from rfl] at this
  exact this
theorem R_run {x : nM} {ty : Nat} (h : q_RI x ty) (n : Int32) : o_run x n ∧ q_RI (m_run x n).1 ty := by
  unfold o_run m_run p_run_12 k_run_12
  have h1 := R_17 h n 1 (fun q => absurd q (by decide))
  refine ⟨⟨fun _ => h1.1, fun _ => ⟨fun q => (R_17 h n 0 (fun _ => q)).1, fun _ => h1.1⟩⟩, ?_⟩
  by_cases c : n < 0
  · rw [if_pos c]; exact h1.2
  · rw [if_neg c]
    by_cases d : n ≤ 200
    · rw [if_pos d]; exact (R_17 h n 0 (fun _ => d)).2
    · rw [if_neg d]; exact h1.2
theorem q_in' {a : Int32} {n : Nat} (h0 : ¬ a < 0) (h : ¬ nI n ≤ a) (hn : n ≤ 400) : vp_in a n := by
  obtain ⟨j, j1, j2⟩ := nI_of h0
  rw [j2] at h ⊢
  refine q_in ?_ hn
  rcases Nat.lt_or_ge j n with q | q
  · exact q
  · exact absurd (nI_le q j1) h
theorem R_about {x : nM} {ty : Nat} (h : q_RI x ty) (a : Int32) : o_about x a ∧ q_RI (m_about x a).1 ty := by
  unfold o_about m_about
  refine ⟨⟨fun _ => trivial, fun _ => ⟨fun _ => trivial, fun _ => ⟨fun _ => trivial, fun _ => ⟨fun _ => trivial, fun _ => ⟨fun _ => trivial, fun _ => ⟨fun _ => trivial, fun _ => trivial⟩⟩⟩⟩⟩⟩, ?_⟩
  have h0 := h.f0 0
  repeat' split
  all_goals exact h0
theorem R_error {x : nM} {ty : Nat} (h : q_RI x ty) (a : Int32) : o_error x a ∧ q_RI (m_error x a).1 ty := by
  unfold o_error m_error
  refine ⟨⟨fun _ => trivial, fun _ => ⟨fun _ => trivial, fun _ => trivial⟩⟩, ?_⟩
  have h0 := h.f0 0
  repeat' split
  all_goals exact h0
theorem R_code {x : nM} {ty : Nat} (h : q_RI x ty) (a b : Int32) : o_code x a b ∧ q_RI (m_code x a b).1 ty := by
  unfold o_code m_code k_code_27
  have h0 := h.f0 0
  constructor
  · refine ⟨fun _ => trivial, fun _ => ⟨fun _ => trivial, fun c => ⟨fun d => ?_, fun _ => trivial⟩⟩⟩
    have hin : vp_in a 400 := by
      refine q_in' c (fun q => ?_) (by omega)
      obtain ⟨j, j1, j2⟩ := nI_of c
      rcases h.2.2 with ⟨_, _, e⟩ | ⟨Γ, nb, md, e1, e2, _⟩
      · rw [e] at d; exact c d
      · rw [e2] at d
        have hmd : md ≤ 363 := e1.2.2.1
        rw [j2] at d q
        have := (nI_ltI j1 (by omega)).mp d
        have := (nI_leI (by omega) j1).mp q
        omega
    exact ⟨fun _ => ⟨hin, trivial⟩, fun _ => ⟨fun _ => ⟨hin, trivial⟩, fun _ => ⟨fun _ => ⟨hin, trivial⟩, fun _ => trivial⟩⟩⟩
  · repeat' split
    all_goals exact h0
theorem R_written {x : nM} {ty : Nat} (h : q_RI x ty) (a : Int32) : o_written x a ∧ q_RI (m_written x a).1 ty := by
  unfold o_written m_written k_written_24
  have h0 := h.f0 0
  refine ⟨⟨fun _ => trivial, fun c => ⟨fun _ => trivial, fun d => ⟨q_in' c d (by omega), trivial⟩⟩⟩, ?_⟩
  repeat' split
  all_goals exact h0
theorem R_cell {x : nM} {ty : Nat} (h : q_RI x ty) (a : Int32) : o_cell x a ∧ q_RI (m_cell x a).1 ty := by
  have h0 := h.f0 0
  have hk : ∀ w, q_RI (k_cell_47 (nm_f x 0 0) a w).1 ty := fun w => by
    unfold k_cell_47
    split
    all_goals exact h0
  unfold o_cell m_cell p_cell_46 p_cell_42 p_cell_47 k_cell_46 k_cell_42
  constructor
  · refine ⟨fun _ => ⟨fun _ => trivial, fun q => absurd rfl q⟩, fun c => ⟨fun _ => ⟨fun _ => trivial, fun q => absurd rfl q⟩, fun d => ?_⟩⟩
    have hin : vp_in a 200 := q_in' c d (by omega)
    exact ⟨fun _ => ⟨fun _ => trivial, fun _ => ⟨hin, trivial⟩⟩, fun _ => ⟨fun _ => ⟨fun _ => trivial, fun q => absurd rfl q⟩, fun _ => ⟨fun _ => ⟨fun _ => trivial, fun q => absurd rfl q⟩, fun _ => ⟨fun _ => trivial, fun _ => ⟨hin, trivial⟩⟩⟩⟩⟩
  · repeat' split
    all_goals exact hk _
theorem R_k58 {x : nM} {ty : Nat} (h : q_RI x ty) (a b c d : Int32) : q_RI (k_variable_58 x a b c d).1 ty := by
  unfold k_variable_58 k_variable_89
  repeat' split
  all_goals exact h
theorem R_k27 {ty : Nat} : ∀ (n : Nat) (x : nM) (a b c d : Int32), q_RI x ty → q_RI (k_variable_27 n x a b c d).1 ty := by
  intro n
  induction n with
  | zero => intro x a b c d h; exact h
  | succ n ih =>
    intro x a b c d h
    rw [k_variable_27]
    repeat' split
    · exact R_k58 h _ _ _ _
    · exact R_k58 h _ _ _ _
    · exact R_k58 h _ _ _ _
    · exact ih _ _ _ _ _ h
theorem R_variable {x : nM} {ty : Nat} (h : q_RI x ty) (a b : Int32) : o_variable x a b ∧ q_RI (m_variable x a b).1 ty := by
  have h0 := h.f0 0
  constructor
  · unfold o_variable
    refine ⟨fun c => ⟨fun _ => ?_, fun _ => trivial⟩, fun _ => trivial⟩
    rcases h0.2.2 with ⟨_, e, _⟩ | ⟨Γ, nb, md, e1, e2, e3⟩
    · exact absurd c e
    · obtain ⟨B, e, fs, i, tp, m⟩ := e3 c
      have hf := m.fr
      obtain ⟨m1, m2, m3, m4, m5, m6, m7, m8, m9, m10, -⟩ := m
      have m5 : x.1 36 = nI B := m5
      have := M_v27 m1 (fun g hg => (hf g hg).1) m9 m10 a b 300 0 B e List.mem_cons_self (by omega) (by omega)
      rw [m5]
      rw [show nI 0 = (0 : Int32) from rfl] at this
      exact this
  · unfold m_variable k_variable_17
    by_cases c : x.1 34 = 1
    · rw [if_pos c]
      by_cases d : 0 ≤ a
      · rw [if_pos d]; exact R_k27 300 _ _ _ _ _ h0
      · rw [if_neg d]; exact h0
    · rw [if_neg c]; exact h0
