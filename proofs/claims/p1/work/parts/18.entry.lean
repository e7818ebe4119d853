/-! THE CLAIM OUT OF ONE WALK OF THE LAW'S BODY. Your part is whole_start (and what it stands on); all else here is the same for every law, but numbers. -/
def R_law : String := "NestPascalLaw"
def lw_P (b : Addr) (xs : List Int32) (args : Array Value) (s : State) : Prop := args = #[.ref b] ∧ s.IntsAt b xs ∧ xs.length ≤ 3 ∧ (Jvm.Cond.and given_1 narrow_1).before args s = true
def lw_Q (_ : Array Value) (s : State) (o : Outcome) (t : State) : Prop := o = .returned (some (.int 1)) ∧ Framed s o t [] 600002 7302232
def lw_Z (below : List Frame) (a : Array Value) (s : State) : State → Prop := fun t => ∃ o, t.status = .running ∧ Ended t below o ∧ lw_Q a s o t
/-- the law's own end, with 1 on the stack, nothing written that was there before, its room as the claim has it -/
theorem lw_ret {p : Program} {l : Launch} {e : Env} {s : State} {m : MethodId} {below : List Frame} {meth : Method} {c : Code} {b : Nat} (hx : p.tables.exec = Jvm.exec) (hb : c.code = code) (hr : meth.sig.returnType = ret) (hlocks : meth.locks = false) {pc : Nat} {H : Heap} {ls : Array Slot} (hdg : decode code pc = .ok (.ireturn, 1)) : W p l e room_1 s m #[Value.ref b] below meth c H [] 600002 7302232 (lw_Z below #[Value.ref b] s) (F0 m pc ls [.int 1]) := by
  intro T hT X
  obtain ⟨fs, hret, hrun, hended, hW, hframe⟩ := X.leave (v := some (.int 1)) (hlocks := hlocks) (fun h => by rw [hr] at h; cases h)
  have hmeth' : T.vm.method? m = some meth := X.method'
  refine ⟨T.setFrames fs, ?_, .returned (some (.int 1)), hrun, hended, rfl, ⟨_, rfl⟩, hW, hframe⟩
  jvm_step X.here [X.here.top, hx, hb, hdg, hmeth', hr, ret, narrow_b1]
  (try refine ⟨rfl, ?_⟩); (try refine ⟨rfl, ?_⟩)
  first | (intro acts; rw [hret _ acts rfl rfl rfl]) | rw [hret _ _ rfl rfl rfl]
  exact Steps.refl _
/-- what holds at the law's entry: the machine, the code, the tables' words (any of lw_tbl by 'hts w (by decide +kernel)'), the script of L ints xs at the cell b, what the Statement gives of the start (any of its parts by flat_of_before) -/
def lw_At (p : Program) (s : State) (m : MethodId) (meth : Method) (c : Code) (b L : Nat) (xs : Nat → Int32) : Prop :=
  p.tables.exec = Jvm.exec ∧ c.code = code ∧ meth.sig.returnType = ret ∧ c.maxLocals = 7 ∧ s.vm.findClass R_law = some m.cls ∧ (∀ w ∈ lw_tbl, w.before #[Value.ref b] s = true) ∧ va_X b L xs s s.heap ∧ b < s.heap.size ∧ meth.locks = false ∧ (Jvm.Cond.and given_1 narrow_1).before #[Value.ref b] s = true
/-- the classes, the array classes, the nest: what the tables say of them at the entry -/
theorem lw_K {b : Nat} {s : State} (hg : ∀ w ∈ nn_gw, w.before #[Value.ref b] s = true) (ht : ∀ w ∈ lw_tbl, w.before #[Value.ref b] s = true) : ∃ G : nn_G, va_K G.1 nn_cls (nn_T G) s := by
  obtain ⟨c0, i0, k0⟩ := u_known (C := R_NP) (T := T_NP) (N := 5) (n := 5) hg in_NP (hg (.instantiable R_NP 5) (nn_at 110 (by decide +kernel) (by decide +kernel)))
  obtain ⟨c1, i1, k1⟩ := u_known (C := R_Co) (T := T_Co) (N := 4) (n := 4) hg in_Co (hg (.instantiable R_Co 4) (nn_at 201 (by decide +kernel) (by decide +kernel)))
  obtain ⟨c2, i2, k2⟩ := u_known (C := R_Cm) (T := T_Cm) (N := 6) (n := 6) hg in_Cm (hg (.instantiable R_Cm 6) (nn_at 118 (by decide +kernel) (by decide +kernel)))
  obtain ⟨c3, i3, k3⟩ := u_known (C := R_Ma) (T := T_Ma) (N := 8) (n := 8) hg in_Ma (hg (.instantiable R_Ma 8) (nn_at 241 (by decide +kernel) (by decide +kernel)))
  obtain ⟨c4, i4, k4⟩ := u_known (C := R_Nm) (T := T_Nm) (N := 5) (n := 5) hg in_Nm (hg (.instantiable R_Nm 5) (nn_at 157 (by decide +kernel) (by decide +kernel)))
  obtain ⟨c5, i5, k5⟩ := u_known (C := R_Ns) (T := T_Ns) (N := 4) (n := 4) hg in_Ns (hg (.instantiable R_Ns 4) (nn_at 150 (by decide +kernel) (by decide +kernel)))
  obtain ⟨c6, i6, k6⟩ := u_known (C := R_Ts) (T := T_Ts) (N := 5) (n := 5) hg in_Ts (hg (.instantiable R_Ts 5) (nn_at 124 (by decide +kernel) (by decide +kernel)))
  obtain ⟨c7, i7, k7⟩ := u_known (C := R_Mo) (T := T_Mo) (N := 42) (n := 42) hg in_Mo (hg (.instantiable R_Mo 42) (nn_at 885 (by decide +kernel) (by decide +kernel)))
  obtain ⟨aI, kaI, caI, pI, qI, rI⟩ := Cond.arrayClass_spec (ht (.arrayClass .int) (List.mem_of_getElem? (i := 148) (by decide +kernel)))
  obtain ⟨aC, kaC, caC, pC, qC, rC⟩ := Cond.arrayClass_spec (ht (.arrayClass .char) (List.mem_of_getElem? (i := 147) (by decide +kernel)))
  obtain ⟨aJ, kaJ, caJ, pJ, qJ, rJ⟩ := Cond.arrayClass_spec (ht (.arrayClass .long) (List.mem_of_getElem? (i := 1234) (by decide +kernel)))
  obtain ⟨caT, aT, kaT, pT, -, qT, rT, tT⟩ := Cond.arrayOver_spec (ht (.arrayOver (.object "NestPascal$Token")) (List.mem_of_getElem? (i := 130) (by decide +kernel)))
  obtain ⟨caN, aN, kaN, pN, -, qN, rN, tN⟩ := Cond.arrayOver_spec (ht (.arrayOver (.object "NestPascal$Name")) (List.mem_of_getElem? (i := 156) (by decide +kernel)))
  refine ⟨((fun c => match c with | 0 => c0 | 1 => c1 | 2 => c2 | 3 => c3 | 4 => c4 | 5 => c5 | 6 => c6 | _ => c7, fun c => match c with | 0 => i0 | 1 => i1 | 2 => i2 | 3 => i3 | 4 => i4 | 5 => i5 | 6 => i6 | _ => i7), fun c => match c with | 0 => aI | 1 => aC | 2 => aJ | 3 => aT | _ => aN), ?_, ?_⟩
  · intro c q h
    match c, h with
    | 0, h => cases h; exact k0
    | 1, h => cases h; exact k1
    | 2, h => cases h; exact k2
    | 3, h => cases h; exact k3
    | 4, h => cases h; exact k4
    | 5, h => cases h; exact k5
    | 6, h => cases h; exact k6
    | 7, h => cases h; exact k7
    | n + 8, h => simp at h
  · intro k q h
    match k, h with
    | 0, h => cases h; exact ⟨fun n z => ⟨fun k h => (by cases h), kaI, qI, caI, rI⟩, pI⟩
    | 1, h => cases h; exact ⟨fun n z => ⟨fun k h => (by cases h), kaC, qC, caC, rC⟩, pC⟩
    | 2, h => cases h; exact ⟨fun n z => ⟨fun k h => (by cases h), kaJ, qJ, caJ, rJ⟩, pJ⟩
    | 3, h => cases h; exact ⟨fun n z => ⟨fun k h => (by cases h), kaT, qT, caT, rT⟩, kaT, caT, qT, rT, pT, tT⟩
    | 4, h => cases h; exact ⟨fun n z => ⟨fun k h => (by cases h), kaN, qN, caN, rN⟩, kaN, caN, qN, rN, pN, tN⟩
    | n + 5, h => simp at h
theorem lw_N {b : Nat} {s : State} (ht : ∀ w ∈ lw_tbl, w.before #[Value.ref b] s = true) : nn_N s := by
  intro w hw
  simp only [nn_nest, List.mem_cons, List.not_mem_nil, or_false] at hw
  rcases hw with rfl | rfl | rfl | rfl | rfl | rfl | rfl | rfl
  · exact va_Nw.of rfl (ht _ (List.mem_of_getElem? (i := 119) (by decide +kernel)))
  · exact va_Nw.of rfl (ht _ (List.mem_of_getElem? (i := 125) (by decide +kernel)))
  · exact va_Nw.of rfl (ht _ (List.mem_of_getElem? (i := 158) (by decide +kernel)))
  · exact va_Nw.of rfl (ht _ (List.mem_of_getElem? (i := 202) (by decide +kernel)))
  · exact va_Nw.of rfl (ht _ (List.mem_of_getElem? (i := 239) (by decide +kernel)))
  · exact va_Nw.of rfl (ht _ (List.mem_of_getElem? (i := 242) (by decide +kernel)))
  · exact va_AO.of (ht _ (List.mem_of_getElem? (i := 130) (by decide +kernel)))
  · exact va_AO.of (ht _ (List.mem_of_getElem? (i := 156) (by decide +kernel)))
theorem lw_ne {s : State} {args : Array Value} {n1 n2 : String} {t1 t2 : Nat} {z1 z2 : Int32} (h1 : (Term.static R_To n1 ns_d).eval args s none [] s = some (.ref t1)) (h2 : (Term.static R_To n2 ns_d).eval args s none [] s = some (.ref t2))
    (o1 : (Cond.eq (.field (.static R_To n1 ns_d) "java/lang/Enum" "ordinal" "I") (.int z1)).before args s = true) (o2 : (Cond.eq (.field (.static R_To n2 ns_d) "java/lang/Enum" "ordinal" "I") (.int z2)).before args s = true) (hz : z1 ≠ z2) : t1 ≠ t2 := by
  intro e
  have a1 := va_eqt o1
  have a2 := va_eqt o2
  rw [va_fe h1] at a1
  rw [va_fe h2] at a2
  rw [e, a2] at a1
  exact hz (Value.int.inj (Option.some.inj a1)).symm
theorem lw_E {b : Nat} {s : State} (ht : ∀ w ∈ lw_tbl, w.before #[Value.ref b] s = true) (hv : (Jvm.Cond.and given_1 narrow_1).before #[Value.ref b] s = true) : ∃ tk : Nat → Nat, ns_E tk (fun q => s.heap.size ≤ q) s s.heap := by
  have hs := flat_of_before _ hv
  have hA : ∀ a : Nat, a < s.heap.size → ¬ s.heap.size ≤ a := fun a h => by omega
  have hini : (Cond.initialized R_To).before #[Value.ref b] s = true := ht _ (List.mem_of_getElem? (i := 96) (by decide +kernel))
  have hiniT : (Cond.initialized ns_Th).before #[Value.ref b] s = true := ht _ (List.mem_of_getElem? (i := 102) (by decide +kernel))
  obtain ⟨t0, cc0, cell0, kk0, e0, f0, g0, -, st0, cl0, -⟩ := Cond.exactly_spec (hs (.exactly (.static R_To "TEXT_END" ns_d) R_To) (by decide +kernel))
  have l0 : (Cond.laysStatic R_To "TEXT_END" ns_d).before #[Value.ref b] s = true := ht _ (List.mem_of_getElem? (i := 501) (by decide +kernel))
  have o0 := hs (.eq (.field (.static R_To "TEXT_END" ns_d) "java/lang/Enum" "ordinal" "I") (.int 29)) (by decide +kernel)
  obtain ⟨t1, cc1, cell1, kk1, e1, f1, g1, -, st1, cl1, -⟩ := Cond.exactly_spec (hs (.exactly (.static R_To "VAR" ns_d) R_To) (by decide +kernel))
  have l1 : (Cond.laysStatic R_To "VAR" ns_d).before #[Value.ref b] s = true := ht _ (List.mem_of_getElem? (i := 511) (by decide +kernel))
  have o1 := hs (.eq (.field (.static R_To "VAR" ns_d) "java/lang/Enum" "ordinal" "I") (.int 0)) (by decide +kernel)
  obtain ⟨t2, cc2, cell2, kk2, e2, f2, g2, -, st2, cl2, -⟩ := Cond.exactly_spec (hs (.exactly (.static R_To "PROC" ns_d) R_To) (by decide +kernel))
  have l2 : (Cond.laysStatic R_To "PROC" ns_d).before #[Value.ref b] s = true := ht _ (List.mem_of_getElem? (i := 635) (by decide +kernel))
  have o2 := hs (.eq (.field (.static R_To "PROC" ns_d) "java/lang/Enum" "ordinal" "I") (.int 1)) (by decide +kernel)
  obtain ⟨t3, cc3, cell3, kk3, e3, f3, g3, -, st3, cl3, -⟩ := Cond.exactly_spec (hs (.exactly (.static R_To "BEGIN" ns_d) R_To) (by decide +kernel))
  have l3 : (Cond.laysStatic R_To "BEGIN" ns_d).before #[Value.ref b] s = true := ht _ (List.mem_of_getElem? (i := 672) (by decide +kernel))
  have o3 := hs (.eq (.field (.static R_To "BEGIN" ns_d) "java/lang/Enum" "ordinal" "I") (.int 3)) (by decide +kernel)
  have lU : (Cond.laysStatic ns_Th "UNASSIGNED_STACK" ns_sD).before #[Value.ref b] s = true := ht _ (List.mem_of_getElem? (i := 576) (by decide +kernel))
  have lS : (Cond.laysStatic ns_Th "SUPPRESSED_SENTINEL" ns_lD).before #[Value.ref b] s = true := ht _ (List.mem_of_getElem? (i := 578) (by decide +kernel))
  have rU := hs (.isRef (.static ns_Th "UNASSIGNED_STACK" ns_sD)) (by decide +kernel)
  have rS := hs (.isRef (.static ns_Th "SUPPRESSED_SENTINEL" ns_lD)) (by decide +kernel)
  obtain ⟨cT, kT, fT, hkT, hoT, -⟩ := Cond.instantiable_spec (ht (.instantiable R_To 5) (List.mem_of_getElem? (i := 437) (by decide +kernel)))
  refine ⟨fun i => match i with | 0 => t0 | 1 => t1 | 2 => t2 | _ => t3, va_Zref l0 hini e0 hA, va_Zref l1 hini e1 hA, va_Zref l2 hini e2 hA, va_Zref l3 hini e3 hA, ⟨cell0, g0, st0, by rw [cl0]; exact f0, hA t0 (Array.getElem?_eq_some_iff.mp g0).1⟩, ⟨lw_ne e0 e1 o0 o1 (by decide), lw_ne e0 e2 o0 o2 (by decide), lw_ne e0 e3 o0 o3 (by decide)⟩, ⟨ns_La.of lU hA, ns_La.of lS hA⟩, va_Zqof lU hiniT rU hA, va_Zqof lS hiniT rS hA, va_Nw.of rfl (ht _ (List.mem_of_getElem? (i := 551) (by decide +kernel))), ⟨va_Nw.of rfl (ht _ (List.mem_of_getElem? (i := 552) (by decide +kernel))), va_Nw.of rfl (ht _ (List.mem_of_getElem? (i := 554) (by decide +kernel))), va_Nw.of rfl (ht _ (List.mem_of_getElem? (i := 556) (by decide +kernel)))⟩, fun c hc => ?_⟩
  have ec : cT = c := Option.some.inj (fT.symm.trans hc)
  subst ec
  exact va_assign ⟨fT, kT, hkT, hoT⟩
