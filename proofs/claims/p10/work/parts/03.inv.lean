/-! one step by the table, and the run -/
/-- no row of the natives' table stands for this method -/
def rf_ov (k : Class) (idx : Nat) : Bool := !(overriddenIn.contains k.name || (start1.e0.platform.finalization && k.name == "java/lang/Object")) || rowless k idx
def rf_Pl (s : State) (m : MethodId) : Prop := ∃ k, s.vm.classes[m.cls]? = some k ∧ rf_ov k m.idx = true
def rf_pl (s : State) (m : MethodId) : Bool := match s.vm.classes[m.cls]? with
  | some k => rf_ov k m.idx
  | none => false
theorem rf_pl_of {s : State} {m : MethodId} (h : rf_pl s m = true) : rf_Pl s m := by
  unfold rf_pl at h
  split at h
  · rename_i k hk
    exact ⟨k, hk, h⟩
  · cases h
theorem rf_Pl_ov {s : State} {f : JFrame} (h : rf_Pl s f.method) : overridden start1.p0.tables start1.e0 s f = none := by
  obtain ⟨k, hk, ho⟩ := h
  unfold overridden
  split
  · rfl
  · rw [hk]
    simp only
    split
    · rfl
    · rename_i hn
      unfold rf_ov at ho
      rw [Bool.or_eq_true] at ho
      rcases ho with ho | ho
      · exact absurd (by rw [ho]; rfl) hn
      · unfold rowless at ho
        split
        · rename_i q hq
          rw [hq] at ho
          exact Option.isNone_iff_eq_none.mp ho
        · rfl
theorem rf_Pl_step {s : State} {m : MethodId} (h : rf_Pl s m) : rf_Pl (stepThread start1.p0.tables start1.e0 s).1 m := by
  obtain ⟨k, hk, ho⟩ := h
  obtain ⟨k', hk', hm⟩ := (stepThread_hm (e := start1.e0) start1.p0.tables (s := s) (cH := m.cls) (msH := k) ⟨k, hk, .refl k⟩).out
  refine ⟨k', hk', ?_⟩
  unfold rf_ov rowless at ho ⊢
  rw [hm.2.2.1, hm.2.1]
  exact ho
def rf_dcd (b : ByteArray) (x : Nat × Instr × Nat) : Bool := decide (decode b x.1 = .ok x.2)
def rf_chk (s : State) (x : Nat × List (List (Nat × Instr × Nat))) : Bool := match s.code? ⟨x.1 / 64, x.1 % 64⟩ with
  | some cd => rf_pl s ⟨x.1 / 64, x.1 % 64⟩ && x.2.all fun b => b.all (rf_dcd cd.code)
  | none => false
def rf_I (s : State) (x : Nat × List (List (Nat × Instr × Nat))) : Prop := ∃ cd, s.code? ⟨x.1 / 64, x.1 % 64⟩ = some cd ∧ rf_Pl s ⟨x.1 / 64, x.1 % 64⟩ ∧ ∀ b ∈ x.2, ∀ (p : Nat) (r : Instr × Nat), (p, r) ∈ b → decode cd.code p = .ok r
def rf_Inv (s : State) : Prop := ∀ x ∈ rf_M, rf_I s x
theorem rf_chk_of {s : State} {x : Nat × List (List (Nat × Instr × Nat))} (h : rf_chk s x = true) : rf_I s x := by
  unfold rf_chk at h
  split at h
  · rename_i cd hcd
    rw [Bool.and_eq_true] at h
    obtain ⟨h1, h2⟩ := h
    refine ⟨cd, hcd, rf_pl_of h1, fun b hb p r hy => ?_⟩
    have h5 : rf_dcd cd.code (p, r) = true := List.all_eq_true.mp (List.all_eq_true.mp h2 b hb) (p, r) hy
    unfold rf_dcd at h5
    exact of_decide_eq_true h5
  · cases h
theorem rf_I_step {s : State} {x : Nat × List (List (Nat × Instr × Nat))} (h : rf_I s x) : rf_I (stepThread start1.p0.tables start1.e0 s).1 x := by
  obtain ⟨cd, h1, h2, h4⟩ := h
  exact ⟨cd, stepThread_code? _ _ h1, rf_Pl_step h2, h4⟩
theorem rf_Inv_step {s : State} (h : rf_Inv s) : rf_Inv (stepThread start1.p0.tables start1.e0 s).1 := fun x hx => rf_I_step (h x hx)
noncomputable def rf_find (pc : Nat) (l : List (Nat × Instr × Nat)) : Option (Instr × Nat) :=
  List.rec (motive := fun _ => Option (Instr × Nat)) none (fun x _ ih => match Nat.beq x.1 pc with
    | true => some x.2
    | false => ih) l
theorem rf_find_of {pc : Nat} {r : Instr × Nat} : ∀ {l : List (Nat × Instr × Nat)}, rf_find pc l = some r → (pc, r) ∈ l := by
  intro l
  induction l with
  | nil => intro h; cases h
  | cons x l ih =>
    intro h
    have h' : (match Nat.beq x.1 pc with
      | true => some x.2
      | false => rf_find pc l) = some r := h
    split at h'
    · rename_i hb
      have hq := Nat.eq_of_beq_eq_true hb
      cases h'
      obtain ⟨a, b⟩ := x
      cases hq
      exact List.mem_cons_self
    · exact List.mem_cons_of_mem _ (ih h')
noncomputable def rf_nth (n : Nat) : List (List (Nat × Instr × Nat)) → List (Nat × Instr × Nat) :=
  Nat.rec (motive := fun _ => List (List (Nat × Instr × Nat)) → List (Nat × Instr × Nat)) (fun L => match L with
    | [] => []
    | b :: _ => b) (fun _ ih L => match L with
    | [] => []
    | _ :: r => ih r) n
theorem rf_nth_of {x : Nat × Instr × Nat} : ∀ {n : Nat} {L : List (List (Nat × Instr × Nat))}, x ∈ rf_nth n L → ∃ b ∈ L, x ∈ b := by
  intro n
  induction n with
  | zero =>
    intro L h
    match L, h with
    | [], h => cases h
    | b :: r, h => exact ⟨b, List.mem_cons_self, h⟩
  | succ n ih =>
    intro L h
    match L, h with
    | [], h => cases h
    | b :: r, h =>
      obtain ⟨c, hc, hx⟩ := ih (L := r) h
      exact ⟨c, List.mem_cons_of_mem _ hc, hx⟩
noncomputable def rf_meth (key : Nat) (M : List (Nat × List (List (Nat × Instr × Nat)))) : List (List (Nat × Instr × Nat)) :=
  List.rec (motive := fun _ => List (List (Nat × Instr × Nat))) [] (fun x _ ih => match Nat.beq x.1 key with
    | true => x.2
    | false => ih) M
theorem rf_meth_of {key : Nat} {b : List (Nat × Instr × Nat)} : ∀ {M : List (Nat × List (List (Nat × Instr × Nat)))}, b ∈ rf_meth key M → ∃ x ∈ M, x.1 = key ∧ b ∈ x.2 := by
  intro M
  induction M with
  | nil => intro h; cases h
  | cons x M ih =>
    intro h
    have h' : b ∈ (match Nat.beq x.1 key with
      | true => x.2
      | false => rf_meth key M) := h
    split at h'
    · rename_i hb
      exact ⟨x, List.mem_cons_self, Nat.eq_of_beq_eq_true hb, h'⟩
    · obtain ⟨y, hy, hz⟩ := ih h'
      exact ⟨y, List.mem_cons_of_mem _ hy, hz⟩
noncomputable def rf_dc (c i pc : Nat) : Option (Instr × Nat) := match Nat.blt i 64 with
  | true => rf_find pc (rf_nth (pc / 16) (rf_meth (c * 64 + i) rf_M))
  | false => none
theorem rf_dc_of {s : State} {c i pc : Nat} {r : Instr × Nat} (hI : rf_Inv s) (h : rf_dc c i pc = some r) : ∃ cd, s.code? ⟨c, i⟩ = some cd ∧ rf_Pl s ⟨c, i⟩ ∧ decode cd.code pc = .ok r := by
  unfold rf_dc at h
  split at h
  · rename_i hi
    have hi' : i < 64 := Nat.le_of_ble_eq_true hi
    obtain ⟨b, hb, hx⟩ := rf_nth_of (rf_find_of h)
    obtain ⟨x, hxM, hk, hbx⟩ := rf_meth_of hb
    obtain ⟨cd, h1, h2, h4⟩ := hI x hxM
    rw [hk, show (c * 64 + i) / 64 = c by omega, show (c * 64 + i) % 64 = i by omega] at h1 h2
    exact ⟨cd, h1, h2, h4 b hbx pc r hx⟩
  · cases h
noncomputable def rf_step (s : State) : State := match s.frames with
  | .java f :: _ => match rf_dc f.method.cls f.method.idx f.pc with
    | some (i, len) => (afterInstr start1.e0 len ((start1.p0.tables.exec i).run start1.e0 s)).1
    | none => (stepThread start1.p0.tables start1.e0 s).1
  | _ => (stepThread start1.p0.tables start1.e0 s).1
theorem rf_step_eq {s : State} (hI : rf_Inv s) : rf_step s = (stepThread start1.p0.tables start1.e0 s).1 := by
  unfold rf_step
  split
  · rename_i f r hf
    split
    · rename_i i len hd
      obtain ⟨cd, h1, h2, h3⟩ := rf_dc_of hI hd
      have ho : overridden start1.p0.tables start1.e0 s f = none := rf_Pl_ov h2
      unfold stepThread
      simp only [hf, ho]
      have h1' : s.code? f.method = some cd := h1
      rw [h1']
      simp only [Option.map_some, h3]
    · rfl
  · rfl
