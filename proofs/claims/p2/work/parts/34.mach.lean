/-! the reference's machine: its frames, the newest first -/
def q_fr (Γ : q_G) (md : Nat) (M : Nat → Int32) : List (Nat × Nat) → Prop
  | [] => False
  | f :: [] => f.1 = 0 ∧ f.2 = 0
  | f :: g :: rest => f.2 ≠ 0 ∧ f.1 = g.1 + g_c Γ g.2 + g_n Γ f.2 ∧ M (f.1 + 1) = nI g.1 ∧ (∃ r, M (f.1 + 2) = nI r ∧ r < md ∧ g_a Γ r = (g.2, some [])) ∧ (∃ S, M f.1 = nI S ∧ (S, g_p Γ f.2) ∈ g :: rest) ∧ q_fr Γ md M (g :: rest)
/-- a static link leads to a frame of the block around -/
theorem q_fr.up {Γ : q_G} {md : Nat} {M : Nat → Int32} : ∀ (fs : List (Nat × Nat)), q_fr Γ md M fs → ∀ S e, (S, e) ∈ fs → e ≠ 0 → ∃ T, M S = nI T ∧ (T, g_p Γ e) ∈ fs := by
  intro fs
  induction fs with
  | nil => intro h; exact absurd h id
  | cons f rest ih =>
    intro h S e hm he
    cases rest with
    | nil =>
      have hf : (S, e) = f := by simpa using hm
      rw [← hf] at h
      exact absurd h.2 he
    | cons g rest =>
      obtain ⟨h1, h2, h3, h4, ⟨T, h5, h6⟩, h7⟩ := h
      rcases List.mem_cons.mp hm with q | q
      · rw [← q] at h5 h6
        exact ⟨T, h5, List.mem_cons_of_mem _ h6⟩
      · obtain ⟨T, k1, k2⟩ := ih h7 S e q he
        exact ⟨T, k1, List.mem_cons_of_mem _ k2⟩
/-- no frame lies above the newest -/
theorem q_fr.le {Γ : q_G} {md : Nat} {M : Nat → Int32} : ∀ (fs : List (Nat × Nat)) (f : Nat × Nat), q_fr Γ md M (f :: fs) → ∀ g ∈ f :: fs, g.1 ≤ f.1 := by
  intro fs
  induction fs with
  | nil => intro f _ g hg; rw [List.mem_singleton.mp hg]; exact Nat.le_refl _
  | cons f' rest ih =>
    intro f h g hg
    obtain ⟨h1, h2, h3, h4, h5, h7⟩ := h
    rcases List.mem_cons.mp hg with q | q
    · rw [q]; exact Nat.le_refl _
    · have := ih f' h7 g q; omega
/-- so many links away -/
theorem q_lk {Γ : q_G} {nb md : Nat} {x : nM} {fs : List (Nat × Nat)} (hf : q_fr Γ md (x.2 40) fs) (hl : ∀ e, e < nb → ((e = 0 ∧ g_l Γ e = 0) ∨ (g_p Γ e < e ∧ g_l Γ e = g_l Γ (g_p Γ e) + 1))) (h2 : ∀ g ∈ fs, g.1 < 200 ∧ g.2 < nb) :
    ∀ (n i l S e : Nat), (S, e) ∈ fs → i ≤ l → l - i < n → l < 1000 → l - i ≤ g_l Γ e → p_linked_7 n x (nI l) (nI S) (nI i) ∧ ∃ T, k_linked_7 n x (nI l) (nI S) (nI i) = nI T ∧ (T, q_an (g_p Γ) (l - i) e) ∈ fs := by
  intro n
  induction n with
  | zero => intro i l S e _ _ h; omega
  | succ n ih =>
    intro i l S e hm hi hn h1000 hle
    rw [k_linked_7, p_linked_7]
    by_cases c : nI l ≤ nI i
    · have e0 : l = i := by
        have := (nI_leI (show l < 2 ^ 31 by omega) (show i < 2 ^ 31 by omega)).mp c
        omega
      rw [if_pos c]
      exact ⟨⟨fun _ => trivial, fun q => absurd c q⟩, S, rfl, by rw [e0, Nat.sub_self]; exact hm⟩
    · have hlt : i < l := by
        rcases Nat.lt_or_ge i l with q | q
        · exact q
        · exact absurd (nI_le q (by omega)) c
      obtain ⟨hS, he⟩ := h2 _ hm
      have e0 : e ≠ 0 := by
        intro q
        rcases hl e he with ⟨_, q2⟩ | ⟨q1, _⟩
        · have hle : l - i ≤ g_l Γ e := hle; omega
        · have q1 : g_p Γ e < e := q1; omega
      obtain ⟨T, t1, t2⟩ := q_fr.up fs hf S e hm e0
      have hl' : l - (i + 1) ≤ g_l Γ (g_p Γ e) := by
        rcases hl e he with ⟨q, _⟩ | ⟨_, q⟩
        · exact absurd q e0
        · omega
      rw [if_neg c, q_g x 40 S (by have hS : S < 200 := hS; omega), t1, nI_1]
      obtain ⟨k1, U, k2, k3⟩ := ih (i + 1) l T (g_p Γ e) t2 (by omega) (by omega) h1000 hl'
      refine ⟨⟨fun q => absurd q c, fun _ => ⟨q_in (show S < 200 from hS) (by decide), k1⟩⟩, U, k2, ?_⟩
      rw [show l - i = l - (i + 1) + 1 by omega]
      exact k3
/-- an older frame's cells lie below the newest frame -/
theorem q_fr.below {Γ : q_G} {md : Nat} {M : Nat → Int32} : ∀ (fs : List (Nat × Nat)) (f : Nat × Nat), q_fr Γ md M (f :: fs) → ∀ g ∈ fs, g.1 + g_c Γ g.2 ≤ f.1 := by
  intro fs
  induction fs with
  | nil => intro f _ g hg; exact absurd hg List.not_mem_nil
  | cons f' rest ih =>
    intro f h g hg
    obtain ⟨h1, h2, h3, h4, h5, h7⟩ := h
    rcases List.mem_cons.mp hg with q | q
    · rw [q]; omega
    · have := ih f' h7 g q; omega
/-- its parameters lie below it, and not below 0 -/
theorem q_fr.par {Γ : q_G} {md : Nat} {M : Nat → Int32} (h0 : g_n Γ 0 = 0) : ∀ (fs : List (Nat × Nat)), q_fr Γ md M fs → ∀ g ∈ fs, g_n Γ g.2 ≤ g.1 := by
  intro fs
  induction fs with
  | nil => intro _ g hg; exact absurd hg List.not_mem_nil
  | cons f rest ih =>
    intro h g hg
    cases rest with
    | nil =>
      rw [List.mem_singleton.mp hg, h.2, h0]; exact Nat.zero_le _
    | cons f' rest =>
      obtain ⟨h1, h2, h3, h4, h5, h7⟩ := h
      rcases List.mem_cons.mp hg with q | q
      · rw [q]; omega
      · exact ih h7 g q
/-- a variable's place, from the base of its frame: below the newest frame's end -/
theorem q_pl.in {Γ : q_G} {md B e : Nat} {M : Nat → Int32} {fs : List (Nat × Nat)} (h : q_fr Γ md M ((B, e) :: fs)) (h0 : g_n Γ 0 = 0) (h3 : ∀ g ∈ (B, e) :: fs, g_n Γ g.2 ≤ 3) {S b : Nat} (hm : (S, b) ∈ (B, e) :: fs) {A : Int32} (hA : q_pl Γ b A) (hB : B + g_c Γ e ≤ 200) : ∃ p, nI S + A = nI p ∧ p < B + g_c Γ e ∧ p < 200 := by
  have hle : S + g_c Γ b ≤ B + g_c Γ e := by
    rcases List.mem_cons.mp hm with q | q
    · cases q; exact Nat.le_refl _
    · have := q_fr.below fs _ h _ q
      have this : S + g_c Γ b ≤ B := this
      omega
  have hSB : S ≤ B := q_fr.le fs _ h _ hm
  have hp : g_n Γ b ≤ S := q_fr.par h0 _ h _ hm
  rcases hA with ⟨a, a1, a2, a3⟩ | ⟨k, k1, k2⟩
  · exact ⟨S + a, by rw [a1]; exact nI_add S a, by omega, by omega⟩
  · refine ⟨S + k - g_n Γ b, ?_, by omega, by omega⟩
    rw [k2, ← pk_sub (show g_n Γ b ≤ S + k by omega), ← nI_add]
    rw [Int32.sub_eq_add_neg, Int32.sub_eq_add_neg, Int32.add_assoc]
