/-! what the statics hold that compile reads: four tokens, and what a new exception needs -/
abbrev ns_d : String := "LNestPascal$Token;"
abbrev ns_Th : String := "java/lang/Throwable"
abbrev ns_sD : String := "[Ljava/lang/StackTraceElement;"
abbrev ns_lD : String := "Ljava/util/List;"
/-- a class's cell of statics has a place for this one -/
def ns_La (C n d : String) (A : Nat → Prop) (U : State) (H : Heap) : Prop := ∃ (c : ClassId) (k : Class) (i : Nat) (f : Field) (a : Nat) (cell : Cell), U.vm.findClass C = some c ∧ U.fieldFound? C n d = some (c, k, i, f) ∧ f.isStatic = true ∧ k.statics = some a ∧ H[a]? = some cell ∧ cell.vm.isStatics = true ∧ cell.cls = c ∧ f.slot < cell.slots.size ∧ k.staticTypes[f.slot]? = some f.type ∧ ¬ A a
theorem ns_La.moved {C n d : String} {A : Nat → Prop} {u U : State} {H : Heap} (hv : u.vm.Alike U.vm) (h : ns_La C n d A u H) : ns_La C n d A U H := by
  obtain ⟨c, k, i, f, a, cell, h1, h2, h3, h4, h5, h6, h7, h8, h9, h10⟩ := h
  obtain ⟨k', hi', he⟩ := State.fieldFound?_setVm hv h2
  exact ⟨c, k', i, f, a, cell, by rw [hv.findClass]; exact h1, hi', h3, by rw [he]; exact h4, h5, h6, h7, h8, by rw [he]; exact h9, h10⟩
theorem ns_La.kept {C n d : String} {A : Nat → Prop} {U : State} {H H1 : Heap} (h : ns_La C n d A U H) (hq : ∀ a : Nat, a < H.size → ¬ A a → H1[a]? = H[a]?) : ns_La C n d A U H1 := by
  obtain ⟨c, k, i, f, a, cell, h1, h2, h3, h4, h5, h6⟩ := h
  exact ⟨c, k, i, f, a, cell, h1, h2, h3, h4, by rw [hq a (Array.getElem?_eq_some_iff.mp h5).1 h6.2.2.2.2]; exact h5, h6⟩
theorem ns_La.narrow {C n d : String} {A B : Nat → Prop} {U : State} {H : Heap} (h : ns_La C n d A U H) (hAB : ∀ q, B q → A q) : ns_La C n d B U H := by
  obtain ⟨c, k, i, f, a, cell, h1, h2, h3, h4, h5, h6, h7, h8, h9, h10⟩ := h
  exact ⟨c, k, i, f, a, cell, h1, h2, h3, h4, h5, h6, h7, h8, h9, fun z => h10 (hAB a z)⟩
theorem ns_La.use {C n d : String} {A : Nat → Prop} {s : State} {args : Array Value} (h : ns_La C n d A s s.heap) : (Cond.laysStatic C n d).before args s = true := by
  obtain ⟨c, k, i, f, a, cell, h1, h2, h3, h4, h5, h6, h7, h8, h9, -⟩ := h
  exact Cond.laysStatic_of h1 h2 h3 h4 h5 h6 h7 h8 h9
theorem ns_La.of {C n d : String} {A : Nat → Prop} {s : State} {args : Array Value} (h : (Cond.laysStatic C n d).before args s = true) (hA : ∀ a : Nat, a < s.heap.size → ¬ A a) : ns_La C n d A s s.heap := by
  obtain ⟨c, k, i, f, a, cell, h1, h2, h3, h4, h5, h6, h7, h8, h9⟩ := Cond.laysStatic_spec h
  exact ⟨c, k, i, f, a, cell, h1, h2, h3, h4, h5, h6, h7, h8, h9, hA a (Array.getElem?_eq_some_iff.mp h5).1⟩
def ns_E (tk : Nat → Nat) (A : Nat → Prop) (U : State) (H : Heap) : Prop :=
  va_Z R_To "TEXT_END" ns_d (.ref (tk 0)) A U H ∧ va_Z R_To "VAR" ns_d (.ref (tk 1)) A U H ∧ va_Z R_To "PROC" ns_d (.ref (tk 2)) A U H ∧ va_Z R_To "BEGIN" ns_d (.ref (tk 3)) A U H ∧ va_O R_To (tk 0) A U H ∧
  (tk 0 ≠ tk 1 ∧ tk 0 ≠ tk 2 ∧ tk 0 ≠ tk 3) ∧ (ns_La ns_Th "UNASSIGNED_STACK" ns_sD A U H ∧ ns_La ns_Th "SUPPRESSED_SENTINEL" ns_lD A U H) ∧ va_Zq ns_Th "UNASSIGNED_STACK" ns_sD A U H ∧ va_Zq ns_Th "SUPPRESSED_SENTINEL" ns_lD A U H ∧ va_Nw (.castable nt_IAE nt_IAE) U ∧ (va_Nw (.declares ⟨"java/lang/RuntimeException", "<init>", "()V"⟩) U ∧ va_Nw (.declares ⟨"java/lang/Exception", "<init>", "()V"⟩) U ∧ va_Nw (.declares ⟨"java/lang/Throwable", "<init>", "()V"⟩) U) ∧ (∀ c, U.vm.findClass R_To = some c → U.vm.assignable c c = true)
theorem ns_E.warm {tk : Nat → Nat} {A : Nat → Prop} {u U : State} {H : Heap} (hW : u.WarmedH U.vm) (h : ns_E tk A u H) : ns_E tk A U H := by
  obtain ⟨h1, h2, h3, h4, h5, h6, ⟨f1, f2⟩, h7, h8, h9, ⟨g1, g2, g3⟩, h10⟩ := h
  have hv := hW.alike
  exact ⟨h1.moved hv, h2.moved hv, h3.moved hv, h4.moved hv, h5.moved hv, h6, ⟨f1.moved hv, f2.moved hv⟩, h7.moved hv, h8.moved hv, va_Nw.warmC hW h9, ⟨va_Nw.warmD hW g1, va_Nw.warmD hW g2, va_Nw.warmD hW g3⟩, fun c hc => by rw [hv.assignable]; exact h10 c (by rw [← hv.findClass]; exact hc)⟩
theorem ns_E.same {tk : Nat → Nat} {A : Nat → Prop} {u U : State} {H : Heap} (hv : u.vm = U.vm) (h : ns_E tk A u H) : ns_E tk A U H := by
  obtain ⟨h1, h2, h3, h4, h5, h6, ⟨f1, f2⟩, h7, h8, h9, ⟨g1, g2, g3⟩, h10⟩ := h
  have hv' : u.vm.Alike U.vm := by rw [hv]; exact Vm.Alike.refl U.vm
  exact ⟨h1.moved hv', h2.moved hv', h3.moved hv', h4.moved hv', h5.moved hv', h6, ⟨f1.moved hv', f2.moved hv'⟩, h7.moved hv', h8.moved hv', va_Nw.same rfl hv h9, ⟨va_Nw.same rfl hv g1, va_Nw.same rfl hv g2, va_Nw.same rfl hv g3⟩, fun c hc => by rw [← hv]; exact h10 c (by rw [hv]; exact hc)⟩
theorem ns_E.kept {tk : Nat → Nat} {A : Nat → Prop} {U : State} {H H1 : Heap} (h : ns_E tk A U H) (hq : ∀ a : Nat, a < H.size → ¬ A a → H1[a]? = H[a]?) : ns_E tk A U H1 := by
  obtain ⟨h1, h2, h3, h4, h5, h6, ⟨f1, f2⟩, h7, h8, h9, ⟨g1, g2, g3⟩, h10⟩ := h
  exact ⟨h1.kept hq, h2.kept hq, h3.kept hq, h4.kept hq, h5.kept hq, h6, ⟨f1.kept hq, f2.kept hq⟩, h7.kept hq, h8.kept hq, h9, ⟨g1, g2, g3⟩, h10⟩
theorem ns_E.narrow {tk : Nat → Nat} {A B : Nat → Prop} {U : State} {H : Heap} (h : ns_E tk A U H) (hAB : ∀ q, B q → A q) : ns_E tk B U H := by
  obtain ⟨h1, h2, h3, h4, h5, h6, ⟨f1, f2⟩, h7, h8, h9, ⟨g1, g2, g3⟩, h10⟩ := h
  exact ⟨h1.narrow hAB, h2.narrow hAB, h3.narrow hAB, h4.narrow hAB, h5.narrow hAB, h6, ⟨f1.narrow hAB, f2.narrow hAB⟩, h7.narrow hAB, h8.narrow hAB, h9, ⟨g1, g2, g3⟩, h10⟩
abbrev ns_P (G : nn_G) (tk : Nat → Nat) (av : List Value) (ws : va_W) (sz : Nat) : Array Value → State → Prop := va_Pc av (fun U => nn_B G ws sz U ∧ ns_E tk (va_A ws sz) U U.heap)
theorem ns_blind {G : nn_G} {tk : Nat → Nat} {av : List Value} {ws : va_W} {sz : Nat} : FrameBlind (ns_P G tk av ws sz) := fun a U g mk q => by
  obtain ⟨q0, ⟨q1, qP, qK, qD, qN⟩, qE⟩ := q
  exact ⟨q0, ⟨q1, qP, va_K.moved (u := U) (U := U.calling g mk a) (Vm.Alike.refl U.vm) qK, qD, nn_N.same (u := U) (U := U.calling g mk a) rfl qN⟩, ns_E.same (u := U) (U := U.calling g mk a) rfl qE⟩
theorem ns_preS {G : nn_G} {tk : Nat → Nat} {s : State} {H : Heap} {A : Nat → Prop} {locs : List Loc} {As : List Value} {wc : va_W} (hP : va_P G.1 nn_cls wc H) (hD : va_D A wc) (hK : va_K G.1 nn_cls (nn_T G) s) (hN : nn_N s) (hE : ns_E tk A s s.heap) (hS : va_S A s.heap H locs) (hF : ∀ q, va_A wc H.size q → A q) : PreS s H (ns_P G tk As wc H.size) As :=
  ⟨ns_blind, fun U hU hW => ⟨rfl, ⟨by rw [hU], by rw [hU]; exact hP, va_K.moved hW.alike hK, hD.weaken (fun _ _ _ _ => trivial), nn_N.warm hW hN⟩, by rw [hU]; exact ((hE.kept hS.2.1).narrow hF).warm hW⟩⟩
theorem ns_preV {G : nn_G} {tk : Nat → Nat} {s : State} {H : Heap} {C : String} {b : Addr} {A : Nat → Prop} {locs : List Loc} {As : List Value} {wc : va_W} (hr : ∃ cellB : Cell, H[b]? = some cellB ∧ cellB.vm.isStatics = false ∧ s.vm.findClass C = some cellB.cls) (hP : va_P G.1 nn_cls wc H) (hD : va_D A wc) (hK : va_K G.1 nn_cls (nn_T G) s) (hN : nn_N s) (hE : ns_E tk A s s.heap) (hS : va_S A s.heap H locs) (hF : ∀ q, va_A wc H.size q → A q) : PreV s H C b (ns_P G tk (.ref b :: As) wc H.size) As :=
  ⟨ns_blind, hr, (ns_preS hP hD hK hN hE hS hF).2⟩
theorem ns_isRef {C n d : String} {A : Nat → Prop} {args : Array Value} {s : State} (h : va_Zq C n d A s s.heap) : (Cond.isRef (.static C n d)).before args s = true := by
  have key : ∀ v : Value, va_Z C n d v A s s.heap → (Term.static C n d).eval args s none [] s = some v := by
    intro v hv
    obtain ⟨cf, kf, fi, f, a, cell, h1, h2, h3, h4, h5, h6, h7, -⟩ := hv
    simp [Term.eval, State.fieldNamed?, h1, h2, h4, h5, h6, h7]
  rcases h with h | ⟨t, h⟩
  · simp [Cond.before, Cond.holds, Cond.value, key _ h]
  · simp [Cond.before, Cond.holds, Cond.value, key _ h]
/-- the cells that a method may write are no statics -/
theorem ns_st {D : va_G} {cl : List vw_C} {ws : va_W} {s : State} {A : Nat → Prop} {locs : List Loc} (hP : va_P D cl ws s.heap) (hAe : va_A ws s.heap.size = A) (h : ∀ q ∈ locs, A q.base) : ∀ q ∈ locs, ∀ cell, s.heap[q.base]? = some cell → cell.vm.isStatics = false := by
  intro q hq cell hcell
  have hA := h q hq
  rw [← hAe] at hA
  rcases hA with ⟨k, e, hk⟩ | hge
  · have hat := hP k _ hk
    cases e with
    | inl x =>
      have h1 : s.heap[q.base]? = some (vp_cell x.1 x.2) := hat
      cases hcell.symm.trans h1
      obtain ⟨cA, n, f | f | f | f | f⟩ := x <;> rfl
    | inr o =>
      obtain ⟨r, -, c2, g1, g2, g3, -⟩ := hat
      have h1 : s.heap[q.base]? = some c2 := g1
      cases hcell.symm.trans h1
      rw [g3]; rfl
  · have hlt := (Array.getElem?_eq_some_iff.mp hcell).1
    omega
theorem ns_any {tk : Nat → Nat} {A : Nat → Prop} {s : State} {H : Heap} {locs : List Loc} (hE : ns_E tk A s s.heap) (hS : va_S A s.heap H locs) : va_Any "NestPascal$Token" s H (tk 0) := by
  obtain ⟨-, -, -, -, h5, -, -, -, -, -, -, h10⟩ := hE.kept hS.2.1
  obtain ⟨cell, g1, g2, g3, -⟩ := h5
  obtain ⟨kC, hkC, -⟩ := Vm.findClass_spec g3
  exact ⟨cell, g1, g2, ⟨kC, hkC⟩, fun comp hc => by
    have e1 : cell.cls = comp := Option.some.inj (g3.symm.trans hc)
    rw [← e1]; exact h10 _ g3⟩
/-- what throwing a new IllegalArgumentException asks of the tables -/
def ns_ex : List Cond := [.castable nt_IAE nt_IAE, .isRef (.static ns_Th "UNASSIGNED_STACK" ns_sD), .isRef (.static ns_Th "SUPPRESSED_SENTINEL" ns_lD), .declares ⟨"java/lang/RuntimeException", "<init>", "()V"⟩, .declares ⟨"java/lang/Exception", "<init>", "()V"⟩, .declares ⟨"java/lang/Throwable", "<init>", "()V"⟩, .laysStatic ns_Th "UNASSIGNED_STACK" ns_sD, .laysStatic ns_Th "SUPPRESSED_SENTINEL" ns_lD]
theorem ns_exs {args : Array Value} {s : State} {A : Nat → Prop} {tk : Nat → Nat} (hE : ns_E tk A s s.heap) : ∀ a ∈ ns_ex, a.before args s = true := by
  obtain ⟨-, -, -, -, -, -, ⟨f1, f2⟩, h7, h8, h9, ⟨g1, g2, g3⟩, -⟩ := hE
  intro a ha
  simp only [ns_ex, List.mem_cons, List.not_mem_nil, or_false] at ha
  rcases ha with rfl | rfl | rfl | rfl | rfl | rfl | rfl | rfl
  · exact va_Nw.use rfl h9
  · exact ns_isRef h7
  · exact ns_isRef h8
  · exact va_Nw.use rfl g1
  · exact va_Nw.use rfl g2
  · exact va_Nw.use rfl g3
  · exact f1.use
  · exact f2.use
abbrev ns_names : List String := ["java/lang/RuntimeException", "java/lang/Exception"]
theorem ns_l1 : ∀ a ∈ Bundle.ownAtoms0 R_Cm 300 nt_IAE ns_names, a ∈ nn_gw ∨ a ∈ ns_ex := by decide +kernel
theorem ns_l2 : ∀ a ∈ Bundle.ownAtoms0 R_NP 86 nt_IAE ns_names, a ∈ nn_gw ∨ a ∈ ns_ex := by decide +kernel
theorem ns_own1 {args : Array Value} {s : State} {A : Nat → Prop} {tk : Nat → Nat} (hg : ∀ w ∈ nn_gw, w.before args s = true) (hE : ns_E tk A s s.heap) : ∀ a ∈ Bundle.ownAtoms0 R_Cm 300 nt_IAE ns_names, a.before args s = true := fun a ha => (ns_l1 a ha).elim (hg a) (ns_exs hE a)
theorem ns_own2 {args : Array Value} {s : State} {A : Nat → Prop} {tk : Nat → Nat} (hg : ∀ w ∈ nn_gw, w.before args s = true) (hE : ns_E tk A s s.heap) : ∀ a ∈ Bundle.ownAtoms0 R_NP 86 nt_IAE ns_names, a.before args s = true := fun a ha => (ns_l2 a ha).elim (hg a) (ns_exs hE a)
