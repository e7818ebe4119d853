/-! THE CLAIM OUT OF ONE WALK OF THE LAW'S BODY. Your part is whole_start (and what it stands on); all else here is the same for every law, but numbers. -/
def R_law : String := "NestPascalLaw"
def lw_P (b : Addr) (xs : List Int32) (args : Array Value) (s : State) : Prop := args = #[.ref b] ∧ s.IntsAt b xs ∧ xs.length ≤ 1536 ∧ (Jvm.Cond.and given_1 narrow_1).before args s = true
def lw_Q (_ : Array Value) (s : State) (o : Outcome) (t : State) : Prop := o = .returned (some (.int 1)) ∧ Framed s o t [] 601024 7293034
def lw_Z (below : List Frame) (a : Array Value) (s : State) : State → Prop := fun t => ∃ o, t.status = .running ∧ Ended t below o ∧ lw_Q a s o t
/-- the law's own end, with 1 on the stack, nothing written that was there before, its room as the claim has it -/
theorem lw_ret {p : Program} {l : Launch} {e : Env} {s : State} {m : MethodId} {below : List Frame} {meth : Method} {c : Code} {b : Nat} (hx : p.tables.exec = Jvm.exec) (hb : c.code = code) (hr : meth.sig.returnType = ret) (hlocks : meth.locks = false) {pc : Nat} {H : Heap} {ls : Array Slot} (hdg : decode code pc = .ok (.ireturn, 1)) : W p l e room_1 s m #[Value.ref b] below meth c H [] 601024 7293034 (lw_Z below #[Value.ref b] s) (F0 m pc ls [.int 1]) := by
  intro T hT X
  obtain ⟨fs, hret, hrun, hended, hW, hframe⟩ := X.leave (v := some (.int 1)) (hlocks := hlocks) (fun h => by rw [hr] at h; cases h)
  have hmeth' : T.vm.method? m = some meth := X.method'
  refine ⟨T.setFrames fs, ?_, .returned (some (.int 1)), hrun, hended, rfl, ⟨_, rfl⟩, hW, hframe⟩
  jvm_step X.here [X.here.top, hx, hb, hdg, hmeth', hr, ret, narrow_b1]
  (try refine ⟨rfl, ?_⟩); (try refine ⟨rfl, ?_⟩)
  first | (intro acts; rw [hret _ acts rfl rfl rfl]) | rw [hret _ _ rfl rfl rfl]
  exact Steps.refl _
/-- what holds at the law's entry: the machine, the code, the tables' words (any of lw_tbl by 'hts w (by decide +kernel)'), the script of L ints xs at the cell b, what the Statement gives of the start (any of its parts by flat_of_before) -/
def lw_At (p : Program) (s : State) (m : MethodId) (meth : Method) (c : Code) (b L : Nat) (xs : Nat → Int32) : Prop :=
  p.tables.exec = Jvm.exec ∧ c.code = code ∧ meth.sig.returnType = ret ∧ c.maxLocals = 7 ∧ s.vm.findClass R_law = some m.cls ∧ (∀ w ∈ lw_tbl, w.before #[Value.ref b] s = true) ∧ va_X b L xs s s.heap ∧ b < s.heap.size ∧ meth.locks = false ∧ (Jvm.Cond.and given_1 narrow_1).before #[Value.ref b] s = true
/-- the classes, the array classes, the nest: what the tables say of them at the entry -/
theorem lw_K {b : Nat} {s : State} (hg : ∀ w ∈ nn_gw, w.before #[Value.ref b] s = true) (ht : ∀ w ∈ lw_tbl, w.before #[Value.ref b] s = true) : ∃ G : nn_G, va_K G.1 nn_cls (nn_T G) s := by
  obtain ⟨c0, i0, k0⟩ := u_known (C := R_NP) (T := T_NP) (N := 5) (n := 5) hg in_NP (hg (.instantiable R_NP 5) (nn_at 110 (by decide +kernel) (by decide +kernel)))
  obtain ⟨c1, i1, k1⟩ := u_known (C := R_Co) (T := T_Co) (N := 4) (n := 4) hg in_Co (hg (.instantiable R_Co 4) (nn_at 201 (by decide +kernel) (by decide +kernel)))
  obtain ⟨c2, i2, k2⟩ := u_known (C := R_Cm) (T := T_Cm) (N := 6) (n := 6) hg in_Cm (hg (.instantiable R_Cm 6) (nn_at 118 (by decide +kernel) (by decide +kernel)))
  obtain ⟨c3, i3, k3⟩ := u_known (C := R_Ma) (T := T_Ma) (N := 8) (n := 8) hg in_Ma (hg (.instantiable R_Ma 8) (nn_at 241 (by decide +kernel) (by decide +kernel)))
  obtain ⟨c4, i4, k4⟩ := u_known (C := R_Nm) (T := T_Nm) (N := 5) (n := 5) hg in_Nm (hg (.instantiable R_Nm 5) (nn_at 157 (by decide +kernel) (by decide +kernel)))
  obtain ⟨c5, i5, k5⟩ := u_known (C := R_Ns) (T := T_Ns) (N := 4) (n := 4) hg in_Ns (hg (.instantiable R_Ns 4) (nn_at 150 (by decide +kernel) (by decide +kernel)))
  obtain ⟨c6, i6, k6⟩ := u_known (C := R_Ts) (T := T_Ts) (N := 5) (n := 5) hg in_Ts (hg (.instantiable R_Ts 5) (nn_at 124 (by decide +kernel) (by decide +kernel)))
  obtain ⟨c7, i7, k7⟩ := u_known (C := R_Mo) (T := T_Mo) (N := 42) (n := 42) hg in_Mo (hg (.instantiable R_Mo 42) (nn_at 885 (by decide +kernel) (by decide +kernel)))
  obtain ⟨aI, kaI, caI, pI, qI, rI⟩ := Cond.arrayClass_spec (ht (.arrayClass .int) (List.mem_of_getElem? (i := 148) (by decide +kernel)))
  obtain ⟨aC, kaC, caC, pC, qC, rC⟩ := Cond.arrayClass_spec (ht (.arrayClass .char) (List.mem_of_getElem? (i := 147) (by decide +kernel)))
  obtain ⟨aJ, kaJ, caJ, pJ, qJ, rJ⟩ := Cond.arrayClass_spec (ht (.arrayClass .long) (List.mem_of_getElem? (i := 1230) (by decide +kernel)))
  obtain ⟨caT, aT, kaT, pT, -, qT, rT, tT⟩ := Cond.arrayOver_spec (ht (.arrayOver (.object "NestPascal$Token")) (List.mem_of_getElem? (i := 130) (by decide +kernel)))
  obtain ⟨caN, aN, kaN, pN, -, qN, rN, tN⟩ := Cond.arrayOver_spec (ht (.arrayOver (.object "NestPascal$Name")) (List.mem_of_getElem? (i := 156) (by decide +kernel)))
  refine ⟨((fun c => match c with | 0 => c0 | 1 => c1 | 2 => c2 | 3 => c3 | 4 => c4 | 5 => c5 | 6 => c6 | _ => c7, fun c => match c with | 0 => i0 | 1 => i1 | 2 => i2 | 3 => i3 | 4 => i4 | 5 => i5 | 6 => i6 | _ => i7), fun c => match c with | 0 => aI | 1 => aC | 2 => aJ | 3 => aT | _ => aN), ?_, ?_⟩
  · intro c q h
    match c, h with
    | 0, h => cases h; exact k0
    | 1, h => cases h; exact k1
    | 2, h => cases h; exact k2
    | 3, h => cases h; exact k3
    | 4, h => cases h; exact k4
    | 5, h => cases h; exact k5
    | 6, h => cases h; exact k6
    | 7, h => cases h; exact k7
    | n + 8, h => simp at h
  · intro k q h
    match k, h with
    | 0, h => cases h; exact ⟨fun n z => ⟨fun k h => (by cases h), kaI, qI, caI, rI⟩, pI⟩
    | 1, h => cases h; exact ⟨fun n z => ⟨fun k h => (by cases h), kaC, qC, caC, rC⟩, pC⟩
    | 2, h => cases h; exact ⟨fun n z => ⟨fun k h => (by cases h), kaJ, qJ, caJ, rJ⟩, pJ⟩
    | 3, h => cases h; exact ⟨fun n z => ⟨fun k h => (by cases h), kaT, qT, caT, rT⟩, kaT, caT, qT, rT, pT, tT⟩
    | 4, h => cases h; exact ⟨fun n z => ⟨fun k h => (by cases h), kaN, qN, caN, rN⟩, kaN, caN, qN, rN, pN, tN⟩
    | n + 5, h => simp at h
theorem lw_N {b : Nat} {s : State} (ht : ∀ w ∈ lw_tbl, w.before #[Value.ref b] s = true) : nn_N s := by
  intro w hw
  simp only [nn_nest, List.mem_cons, List.not_mem_nil, or_false] at hw
  rcases hw with rfl | rfl | rfl | rfl | rfl | rfl | rfl | rfl
  · exact va_Nw.of rfl (ht _ (List.mem_of_getElem? (i := 119) (by decide +kernel)))
  · exact va_Nw.of rfl (ht _ (List.mem_of_getElem? (i := 125) (by decide +kernel)))
  · exact va_Nw.of rfl (ht _ (List.mem_of_getElem? (i := 158) (by decide +kernel)))
  · exact va_Nw.of rfl (ht _ (List.mem_of_getElem? (i := 202) (by decide +kernel)))
  · exact va_Nw.of rfl (ht _ (List.mem_of_getElem? (i := 239) (by decide +kernel)))
  · exact va_Nw.of rfl (ht _ (List.mem_of_getElem? (i := 242) (by decide +kernel)))
  · exact va_AO.of (ht _ (List.mem_of_getElem? (i := 130) (by decide +kernel)))
  · exact va_AO.of (ht _ (List.mem_of_getElem? (i := 156) (by decide +kernel)))
/-! the tokens, their texts, the row of all of them, the map of the switches, out of the premises -/
def le_hs (b : Nat) (s : State) : Prop := ∀ w ∈ flatC (Jvm.Cond.and given_1 narrow_1), w.before #[Value.ref b] s = true
theorem le_eqr {args : Array Value} {s : State} {t u : Term} {a : Nat} (h : (Cond.eq t u).before args s = true) (hu : u.eval args s none [] s = some (.ref a)) : t.eval args s none [] s = some (.ref a) := by
  cases hv : t.eval args s none [] s with
  | none => simp [Cond.before, Cond.holds, Cond.value, hv] at h
  | some w =>
    simp only [Cond.before, Cond.holds, Cond.value, hv, hu] at h
    cases w <;> simp_all
def le_Q (b i : Nat) (q : Nat × Nat × Nat × Nat) (A : Nat → Prop) (s : State) : Prop :=
  (Term.static R_To (nz_nm.getD i "") ns_d).eval #[Value.ref b] s none [] s = some (.ref q.1) ∧ va_Z R_To (nz_nm.getD i "") ns_d (.ref q.1) A s s.heap ∧ va_O R_To q.1 A s s.heap ∧ va_OF "java/lang/Enum" "ordinal" "I" (.int (nI i)) q.1 A s s.heap ∧ (∃ z : Int32, va_OF R_To "operator" "I" (.int z) q.1 A s s.heap) ∧ va_OF R_To "spelling" "Ljava/lang/String;" (.ref q.2.1) q.1 A s s.heap ∧
  va_O nz_str q.2.1 A s s.heap ∧ va_OF nz_str "coder" "B" (.int 0) q.2.1 A s s.heap ∧ va_OF nz_str "value" "[B" (.ref q.2.2.1) q.2.1 A s s.heap ∧ q.2.2.2 < 100 ∧ ∃ f : Nat → Int32, va_T .byte q.2.2.1 q.2.2.2 (fun j => .int (f j)) A s s.heap
theorem le_T {b i sx len : Nat} {s : State} {A : Nat → Prop} {nm : String} {op : Int32} {bs : List Int32} (hnm : nz_nm.getD i "" = nm) (hl : (Cond.laysStatic R_To nm ns_d).before #[Value.ref b] s = true) (hini : (Cond.initialized R_To).before #[Value.ref b] s = true)
    (hex : (Cond.exactly (.static R_To nm ns_d) R_To).before #[Value.ref b] s = true) (hor : (Cond.eq (.field (.static R_To nm ns_d) "java/lang/Enum" "ordinal" "I") (.int (nI i))).before #[Value.ref b] s = true) (hop : (Cond.eq (.field (.static R_To nm ns_d) R_To "operator" "I") (.int op)).before #[Value.ref b] s = true)
    (hsp : (Cond.eq (.field (.static R_To nm ns_d) R_To "spelling" "Ljava/lang/String;") (.string R_To sx)).before #[Value.ref b] s = true) (hsx : (Cond.exactly (.string R_To sx) nz_str).before #[Value.ref b] s = true) (hco : (Cond.eq (.field (.string R_To sx) nz_str "coder" "B") (.int 0)).before #[Value.ref b] s = true)
    (har : (Cond.arrayOf (.field (.string R_To sx) nz_str "value" "[B") .byte).before #[Value.ref b] s = true) (hle : (Cond.eq (.length (.field (.string R_To sx) nz_str "value" "[B")) (.int (Int32.ofNat len))).before #[Value.ref b] s = true) (hbl : bs.length = len) (hlen : len < 100) (hA : ∀ a : Nat, a < s.heap.size → ¬ A a)
    (hel : ∀ j : Nat, j < len → (Cond.eq (.elem (.field (.string R_To sx) nz_str "value" "[B") (.int (Int32.ofNat j))) (.int (bs.getD j 0))).before #[Value.ref b] s = true) : ∃ q, le_Q b i q A s := by
  obtain ⟨a, c, cA, kA, q1, q2, q3, q4, q5, q6, -⟩ := Cond.exactly_spec hex
  obtain ⟨k, c2, cK, kK, p1, p2, p3, p4, p5, p6, -⟩ := Cond.exactly_spec hsx
  obtain ⟨t, ht, hT⟩ := va_Tof (f := fun j => .int (bs.getD j 0)) (A := A) (show len < 2 ^ 31 by omega) har (va_eqt hle) (fun j hj => va_eqt (hel j hj)) hA
  refine ⟨(a, k, t, len), ?_⟩
  unfold le_Q
  rw [hnm]
  exact ⟨q1, va_Zref hl hini q1 hA, va_Oof hex q1 hA, vk_OFof q1 (va_eqt hor) hA, ⟨op, vk_OFof q1 (va_eqt hop) hA⟩, vk_OFof q1 (le_eqr hsp p1) hA, va_Oof hsx p1 hA, vk_OFof p1 (va_eqt hco) hA, vk_OFof p1 ht hA, hlen, _, hT⟩
def le_tk (aq : Nat → Nat × Nat × Nat × Nat) (tA tS : Nat) : Nat → Nat := fun k => if k < 31 then (aq k).1 else if k < 62 then (aq (k - 31)).2.1 else if k < 93 then (aq (k - 62)).2.2.1 else if k = 100 then tA else if k = 101 then tS else (aq (k - 141)).2.2.2
theorem le_tk0 {aq : Nat → Nat × Nat × Nat × Nat} {tA tS i : Nat} (h : i < 31) : le_tk aq tA tS i = (aq i).1 := if_pos h
theorem le_tk1 {aq : Nat → Nat × Nat × Nat × Nat} {tA tS i : Nat} (h : i < 31) : le_tk aq tA tS (31 + i) = (aq i).2.1 := by
  unfold le_tk
  rw [if_neg (by omega), if_pos (by omega), show 31 + i - 31 = i by omega]
theorem le_tk2 {aq : Nat → Nat × Nat × Nat × Nat} {tA tS i : Nat} (h : i < 31) : le_tk aq tA tS (62 + i) = (aq i).2.2.1 := by
  unfold le_tk
  rw [if_neg (by omega), if_neg (by omega), if_pos (by omega), show 62 + i - 62 = i by omega]
theorem le_tk3 {aq : Nat → Nat × Nat × Nat × Nat} {tA tS i : Nat} (h : i < 31) : le_tk aq tA tS (141 + i) = (aq i).2.2.2 := by
  unfold le_tk
  rw [if_neg (by omega), if_neg (by omega), if_neg (by omega), if_neg (by omega), if_neg (by omega), show 141 + i - 141 = i by omega]
theorem le_0 {b : Nat} {s : State} {A : Nat → Prop} (ht : ∀ w ∈ lw_tbl, w.before #[Value.ref b] s = true) (hs : le_hs b s) (hini : (Cond.initialized R_To).before #[Value.ref b] s = true) (hA : ∀ a : Nat, a < s.heap.size → ¬ A a) : ∃ q, le_Q b 0 q A s := by
  refine le_T (i := 0) (nm := "VAR") (sx := 144) (op := 0) (len := 3) (bs := [118, 97, 114]) rfl (ht _ (List.mem_of_getElem? (i := 511) (by decide +kernel))) hini ?_ ?_ ?_ ?_ ?_ ?_ ?_ ?_ rfl (by decide) hA ?_
  · exact hs (.exactly (.static R_To "VAR" ns_d) R_To) (by decide +kernel)
  · exact hs (.eq (.field (.static R_To "VAR" ns_d) "java/lang/Enum" "ordinal" "I") (.int 0)) (by decide +kernel)
  · exact hs (.eq (.field (.static R_To "VAR" ns_d) R_To "operator" "I") (.int 0)) (by decide +kernel)
  · exact hs (.eq (.field (.static R_To "VAR" ns_d) R_To "spelling" "Ljava/lang/String;") (.string R_To 144)) (by decide +kernel)
  · exact hs (.exactly (.string R_To 144) nz_str) (by decide +kernel)
  · exact hs (.eq (.field (.string R_To 144) nz_str "coder" "B") (.int 0)) (by decide +kernel)
  · exact hs (.arrayOf (.field (.string R_To 144) nz_str "value" "[B") .byte) (by decide +kernel)
  · exact hs (.eq (.length (.field (.string R_To 144) nz_str "value" "[B")) (.int 3)) (by decide +kernel)
  · intro j hj
    match j, hj with
    | 0, _ => exact hs (.eq (.elem (.field (.string R_To 144) nz_str "value" "[B") (.int 0)) (.int 118)) (by decide +kernel)
    | 1, _ => exact hs (.eq (.elem (.field (.string R_To 144) nz_str "value" "[B") (.int 1)) (.int 97)) (by decide +kernel)
    | 2, _ => exact hs (.eq (.elem (.field (.string R_To 144) nz_str "value" "[B") (.int 2)) (.int 114)) (by decide +kernel)
    | n + 3, h => exact absurd h (by omega)
theorem le_1 {b : Nat} {s : State} {A : Nat → Prop} (ht : ∀ w ∈ lw_tbl, w.before #[Value.ref b] s = true) (hs : le_hs b s) (hini : (Cond.initialized R_To).before #[Value.ref b] s = true) (hA : ∀ a : Nat, a < s.heap.size → ¬ A a) : ∃ q, le_Q b 1 q A s := by
  refine le_T (i := 1) (nm := "PROC") (sx := 150) (op := 0) (len := 4) (bs := [112, 114, 111, 99]) rfl (ht _ (List.mem_of_getElem? (i := 635) (by decide +kernel))) hini ?_ ?_ ?_ ?_ ?_ ?_ ?_ ?_ rfl (by decide) hA ?_
  · exact hs (.exactly (.static R_To "PROC" ns_d) R_To) (by decide +kernel)
  · exact hs (.eq (.field (.static R_To "PROC" ns_d) "java/lang/Enum" "ordinal" "I") (.int 1)) (by decide +kernel)
  · exact hs (.eq (.field (.static R_To "PROC" ns_d) R_To "operator" "I") (.int 0)) (by decide +kernel)
  · exact hs (.eq (.field (.static R_To "PROC" ns_d) R_To "spelling" "Ljava/lang/String;") (.string R_To 150)) (by decide +kernel)
  · exact hs (.exactly (.string R_To 150) nz_str) (by decide +kernel)
  · exact hs (.eq (.field (.string R_To 150) nz_str "coder" "B") (.int 0)) (by decide +kernel)
  · exact hs (.arrayOf (.field (.string R_To 150) nz_str "value" "[B") .byte) (by decide +kernel)
  · exact hs (.eq (.length (.field (.string R_To 150) nz_str "value" "[B")) (.int 4)) (by decide +kernel)
  · intro j hj
    match j, hj with
    | 0, _ => exact hs (.eq (.elem (.field (.string R_To 150) nz_str "value" "[B") (.int 0)) (.int 112)) (by decide +kernel)
    | 1, _ => exact hs (.eq (.elem (.field (.string R_To 150) nz_str "value" "[B") (.int 1)) (.int 114)) (by decide +kernel)
    | 2, _ => exact hs (.eq (.elem (.field (.string R_To 150) nz_str "value" "[B") (.int 2)) (.int 111)) (by decide +kernel)
    | 3, _ => exact hs (.eq (.elem (.field (.string R_To 150) nz_str "value" "[B") (.int 3)) (.int 99)) (by decide +kernel)
    | n + 4, h => exact absurd h (by omega)
theorem le_2 {b : Nat} {s : State} {A : Nat → Prop} (ht : ∀ w ∈ lw_tbl, w.before #[Value.ref b] s = true) (hs : le_hs b s) (hini : (Cond.initialized R_To).before #[Value.ref b] s = true) (hA : ∀ a : Nat, a < s.heap.size → ¬ A a) : ∃ q, le_Q b 2 q A s := by
  refine le_T (i := 2) (nm := "ARRAY") (sx := 153) (op := 0) (len := 5) (bs := [97, 114, 114, 97, 121]) rfl (ht _ (List.mem_of_getElem? (i := 626) (by decide +kernel))) hini ?_ ?_ ?_ ?_ ?_ ?_ ?_ ?_ rfl (by decide) hA ?_
  · exact hs (.exactly (.static R_To "ARRAY" ns_d) R_To) (by decide +kernel)
  · exact hs (.eq (.field (.static R_To "ARRAY" ns_d) "java/lang/Enum" "ordinal" "I") (.int 2)) (by decide +kernel)
  · exact hs (.eq (.field (.static R_To "ARRAY" ns_d) R_To "operator" "I") (.int 0)) (by decide +kernel)
  · exact hs (.eq (.field (.static R_To "ARRAY" ns_d) R_To "spelling" "Ljava/lang/String;") (.string R_To 153)) (by decide +kernel)
  · exact hs (.exactly (.string R_To 153) nz_str) (by decide +kernel)
  · exact hs (.eq (.field (.string R_To 153) nz_str "coder" "B") (.int 0)) (by decide +kernel)
  · exact hs (.arrayOf (.field (.string R_To 153) nz_str "value" "[B") .byte) (by decide +kernel)
  · exact hs (.eq (.length (.field (.string R_To 153) nz_str "value" "[B")) (.int 5)) (by decide +kernel)
  · intro j hj
    match j, hj with
    | 0, _ => exact hs (.eq (.elem (.field (.string R_To 153) nz_str "value" "[B") (.int 0)) (.int 97)) (by decide +kernel)
    | 1, _ => exact hs (.eq (.elem (.field (.string R_To 153) nz_str "value" "[B") (.int 1)) (.int 114)) (by decide +kernel)
    | 2, _ => exact hs (.eq (.elem (.field (.string R_To 153) nz_str "value" "[B") (.int 2)) (.int 114)) (by decide +kernel)
    | 3, _ => exact hs (.eq (.elem (.field (.string R_To 153) nz_str "value" "[B") (.int 3)) (.int 97)) (by decide +kernel)
    | 4, _ => exact hs (.eq (.elem (.field (.string R_To 153) nz_str "value" "[B") (.int 4)) (.int 121)) (by decide +kernel)
    | n + 5, h => exact absurd h (by omega)
theorem le_3 {b : Nat} {s : State} {A : Nat → Prop} (ht : ∀ w ∈ lw_tbl, w.before #[Value.ref b] s = true) (hs : le_hs b s) (hini : (Cond.initialized R_To).before #[Value.ref b] s = true) (hA : ∀ a : Nat, a < s.heap.size → ¬ A a) : ∃ q, le_Q b 3 q A s := by
  refine le_T (i := 3) (nm := "BEGIN") (sx := 156) (op := 0) (len := 5) (bs := [98, 101, 103, 105, 110]) rfl (ht _ (List.mem_of_getElem? (i := 672) (by decide +kernel))) hini ?_ ?_ ?_ ?_ ?_ ?_ ?_ ?_ rfl (by decide) hA ?_
  · exact hs (.exactly (.static R_To "BEGIN" ns_d) R_To) (by decide +kernel)
  · exact hs (.eq (.field (.static R_To "BEGIN" ns_d) "java/lang/Enum" "ordinal" "I") (.int 3)) (by decide +kernel)
  · exact hs (.eq (.field (.static R_To "BEGIN" ns_d) R_To "operator" "I") (.int 0)) (by decide +kernel)
  · exact hs (.eq (.field (.static R_To "BEGIN" ns_d) R_To "spelling" "Ljava/lang/String;") (.string R_To 156)) (by decide +kernel)
  · exact hs (.exactly (.string R_To 156) nz_str) (by decide +kernel)
  · exact hs (.eq (.field (.string R_To 156) nz_str "coder" "B") (.int 0)) (by decide +kernel)
  · exact hs (.arrayOf (.field (.string R_To 156) nz_str "value" "[B") .byte) (by decide +kernel)
  · exact hs (.eq (.length (.field (.string R_To 156) nz_str "value" "[B")) (.int 5)) (by decide +kernel)
  · intro j hj
    match j, hj with
    | 0, _ => exact hs (.eq (.elem (.field (.string R_To 156) nz_str "value" "[B") (.int 0)) (.int 98)) (by decide +kernel)
    | 1, _ => exact hs (.eq (.elem (.field (.string R_To 156) nz_str "value" "[B") (.int 1)) (.int 101)) (by decide +kernel)
    | 2, _ => exact hs (.eq (.elem (.field (.string R_To 156) nz_str "value" "[B") (.int 2)) (.int 103)) (by decide +kernel)
    | 3, _ => exact hs (.eq (.elem (.field (.string R_To 156) nz_str "value" "[B") (.int 3)) (.int 105)) (by decide +kernel)
    | 4, _ => exact hs (.eq (.elem (.field (.string R_To 156) nz_str "value" "[B") (.int 4)) (.int 110)) (by decide +kernel)
    | n + 5, h => exact absurd h (by omega)
theorem le_4 {b : Nat} {s : State} {A : Nat → Prop} (ht : ∀ w ∈ lw_tbl, w.before #[Value.ref b] s = true) (hs : le_hs b s) (hini : (Cond.initialized R_To).before #[Value.ref b] s = true) (hA : ∀ a : Nat, a < s.heap.size → ¬ A a) : ∃ q, le_Q b 4 q A s := by
  refine le_T (i := 4) (nm := "END") (sx := 159) (op := 0) (len := 3) (bs := [101, 110, 100]) rfl (ht _ (List.mem_of_getElem? (i := 771) (by decide +kernel))) hini ?_ ?_ ?_ ?_ ?_ ?_ ?_ ?_ rfl (by decide) hA ?_
  · exact hs (.exactly (.static R_To "END" ns_d) R_To) (by decide +kernel)
  · exact hs (.eq (.field (.static R_To "END" ns_d) "java/lang/Enum" "ordinal" "I") (.int 4)) (by decide +kernel)
  · exact hs (.eq (.field (.static R_To "END" ns_d) R_To "operator" "I") (.int 0)) (by decide +kernel)
  · exact hs (.eq (.field (.static R_To "END" ns_d) R_To "spelling" "Ljava/lang/String;") (.string R_To 159)) (by decide +kernel)
  · exact hs (.exactly (.string R_To 159) nz_str) (by decide +kernel)
  · exact hs (.eq (.field (.string R_To 159) nz_str "coder" "B") (.int 0)) (by decide +kernel)
  · exact hs (.arrayOf (.field (.string R_To 159) nz_str "value" "[B") .byte) (by decide +kernel)
  · exact hs (.eq (.length (.field (.string R_To 159) nz_str "value" "[B")) (.int 3)) (by decide +kernel)
  · intro j hj
    match j, hj with
    | 0, _ => exact hs (.eq (.elem (.field (.string R_To 159) nz_str "value" "[B") (.int 0)) (.int 101)) (by decide +kernel)
    | 1, _ => exact hs (.eq (.elem (.field (.string R_To 159) nz_str "value" "[B") (.int 1)) (.int 110)) (by decide +kernel)
    | 2, _ => exact hs (.eq (.elem (.field (.string R_To 159) nz_str "value" "[B") (.int 2)) (.int 100)) (by decide +kernel)
    | n + 3, h => exact absurd h (by omega)
theorem le_5 {b : Nat} {s : State} {A : Nat → Prop} (ht : ∀ w ∈ lw_tbl, w.before #[Value.ref b] s = true) (hs : le_hs b s) (hini : (Cond.initialized R_To).before #[Value.ref b] s = true) (hA : ∀ a : Nat, a < s.heap.size → ¬ A a) : ∃ q, le_Q b 5 q A s := by
  refine le_T (i := 5) (nm := "IF") (sx := 162) (op := 0) (len := 2) (bs := [105, 102]) rfl (ht _ (List.mem_of_getElem? (i := 1239) (by decide +kernel))) hini ?_ ?_ ?_ ?_ ?_ ?_ ?_ ?_ rfl (by decide) hA ?_
  · exact hs (.exactly (.static R_To "IF" ns_d) R_To) (by decide +kernel)
  · exact hs (.eq (.field (.static R_To "IF" ns_d) "java/lang/Enum" "ordinal" "I") (.int 5)) (by decide +kernel)
  · exact hs (.eq (.field (.static R_To "IF" ns_d) R_To "operator" "I") (.int 0)) (by decide +kernel)
  · exact hs (.eq (.field (.static R_To "IF" ns_d) R_To "spelling" "Ljava/lang/String;") (.string R_To 162)) (by decide +kernel)
  · exact hs (.exactly (.string R_To 162) nz_str) (by decide +kernel)
  · exact hs (.eq (.field (.string R_To 162) nz_str "coder" "B") (.int 0)) (by decide +kernel)
  · exact hs (.arrayOf (.field (.string R_To 162) nz_str "value" "[B") .byte) (by decide +kernel)
  · exact hs (.eq (.length (.field (.string R_To 162) nz_str "value" "[B")) (.int 2)) (by decide +kernel)
  · intro j hj
    match j, hj with
    | 0, _ => exact hs (.eq (.elem (.field (.string R_To 162) nz_str "value" "[B") (.int 0)) (.int 105)) (by decide +kernel)
    | 1, _ => exact hs (.eq (.elem (.field (.string R_To 162) nz_str "value" "[B") (.int 1)) (.int 102)) (by decide +kernel)
    | n + 2, h => exact absurd h (by omega)
theorem le_6 {b : Nat} {s : State} {A : Nat → Prop} (ht : ∀ w ∈ lw_tbl, w.before #[Value.ref b] s = true) (hs : le_hs b s) (hini : (Cond.initialized R_To).before #[Value.ref b] s = true) (hA : ∀ a : Nat, a < s.heap.size → ¬ A a) : ∃ q, le_Q b 6 q A s := by
  refine le_T (i := 6) (nm := "THEN") (sx := 165) (op := 0) (len := 4) (bs := [116, 104, 101, 110]) rfl (ht _ (List.mem_of_getElem? (i := 795) (by decide +kernel))) hini ?_ ?_ ?_ ?_ ?_ ?_ ?_ ?_ rfl (by decide) hA ?_
  · exact hs (.exactly (.static R_To "THEN" ns_d) R_To) (by decide +kernel)
  · exact hs (.eq (.field (.static R_To "THEN" ns_d) "java/lang/Enum" "ordinal" "I") (.int 6)) (by decide +kernel)
  · exact hs (.eq (.field (.static R_To "THEN" ns_d) R_To "operator" "I") (.int 0)) (by decide +kernel)
  · exact hs (.eq (.field (.static R_To "THEN" ns_d) R_To "spelling" "Ljava/lang/String;") (.string R_To 165)) (by decide +kernel)
  · exact hs (.exactly (.string R_To 165) nz_str) (by decide +kernel)
  · exact hs (.eq (.field (.string R_To 165) nz_str "coder" "B") (.int 0)) (by decide +kernel)
  · exact hs (.arrayOf (.field (.string R_To 165) nz_str "value" "[B") .byte) (by decide +kernel)
  · exact hs (.eq (.length (.field (.string R_To 165) nz_str "value" "[B")) (.int 4)) (by decide +kernel)
  · intro j hj
    match j, hj with
    | 0, _ => exact hs (.eq (.elem (.field (.string R_To 165) nz_str "value" "[B") (.int 0)) (.int 116)) (by decide +kernel)
    | 1, _ => exact hs (.eq (.elem (.field (.string R_To 165) nz_str "value" "[B") (.int 1)) (.int 104)) (by decide +kernel)
    | 2, _ => exact hs (.eq (.elem (.field (.string R_To 165) nz_str "value" "[B") (.int 2)) (.int 101)) (by decide +kernel)
    | 3, _ => exact hs (.eq (.elem (.field (.string R_To 165) nz_str "value" "[B") (.int 3)) (.int 110)) (by decide +kernel)
    | n + 4, h => exact absurd h (by omega)
theorem le_7 {b : Nat} {s : State} {A : Nat → Prop} (ht : ∀ w ∈ lw_tbl, w.before #[Value.ref b] s = true) (hs : le_hs b s) (hini : (Cond.initialized R_To).before #[Value.ref b] s = true) (hA : ∀ a : Nat, a < s.heap.size → ¬ A a) : ∃ q, le_Q b 7 q A s := by
  refine le_T (i := 7) (nm := "ELSE") (sx := 168) (op := 0) (len := 4) (bs := [101, 108, 115, 101]) rfl (ht _ (List.mem_of_getElem? (i := 773) (by decide +kernel))) hini ?_ ?_ ?_ ?_ ?_ ?_ ?_ ?_ rfl (by decide) hA ?_
  · exact hs (.exactly (.static R_To "ELSE" ns_d) R_To) (by decide +kernel)
  · exact hs (.eq (.field (.static R_To "ELSE" ns_d) "java/lang/Enum" "ordinal" "I") (.int 7)) (by decide +kernel)
  · exact hs (.eq (.field (.static R_To "ELSE" ns_d) R_To "operator" "I") (.int 0)) (by decide +kernel)
  · exact hs (.eq (.field (.static R_To "ELSE" ns_d) R_To "spelling" "Ljava/lang/String;") (.string R_To 168)) (by decide +kernel)
  · exact hs (.exactly (.string R_To 168) nz_str) (by decide +kernel)
  · exact hs (.eq (.field (.string R_To 168) nz_str "coder" "B") (.int 0)) (by decide +kernel)
  · exact hs (.arrayOf (.field (.string R_To 168) nz_str "value" "[B") .byte) (by decide +kernel)
  · exact hs (.eq (.length (.field (.string R_To 168) nz_str "value" "[B")) (.int 4)) (by decide +kernel)
  · intro j hj
    match j, hj with
    | 0, _ => exact hs (.eq (.elem (.field (.string R_To 168) nz_str "value" "[B") (.int 0)) (.int 101)) (by decide +kernel)
    | 1, _ => exact hs (.eq (.elem (.field (.string R_To 168) nz_str "value" "[B") (.int 1)) (.int 108)) (by decide +kernel)
    | 2, _ => exact hs (.eq (.elem (.field (.string R_To 168) nz_str "value" "[B") (.int 2)) (.int 115)) (by decide +kernel)
    | 3, _ => exact hs (.eq (.elem (.field (.string R_To 168) nz_str "value" "[B") (.int 3)) (.int 101)) (by decide +kernel)
    | n + 4, h => exact absurd h (by omega)
theorem le_8 {b : Nat} {s : State} {A : Nat → Prop} (ht : ∀ w ∈ lw_tbl, w.before #[Value.ref b] s = true) (hs : le_hs b s) (hini : (Cond.initialized R_To).before #[Value.ref b] s = true) (hA : ∀ a : Nat, a < s.heap.size → ¬ A a) : ∃ q, le_Q b 8 q A s := by
  refine le_T (i := 8) (nm := "WHILE") (sx := 171) (op := 0) (len := 5) (bs := [119, 104, 105, 108, 101]) rfl (ht _ (List.mem_of_getElem? (i := 1240) (by decide +kernel))) hini ?_ ?_ ?_ ?_ ?_ ?_ ?_ ?_ rfl (by decide) hA ?_
  · exact hs (.exactly (.static R_To "WHILE" ns_d) R_To) (by decide +kernel)
  · exact hs (.eq (.field (.static R_To "WHILE" ns_d) "java/lang/Enum" "ordinal" "I") (.int 8)) (by decide +kernel)
  · exact hs (.eq (.field (.static R_To "WHILE" ns_d) R_To "operator" "I") (.int 0)) (by decide +kernel)
  · exact hs (.eq (.field (.static R_To "WHILE" ns_d) R_To "spelling" "Ljava/lang/String;") (.string R_To 171)) (by decide +kernel)
  · exact hs (.exactly (.string R_To 171) nz_str) (by decide +kernel)
  · exact hs (.eq (.field (.string R_To 171) nz_str "coder" "B") (.int 0)) (by decide +kernel)
  · exact hs (.arrayOf (.field (.string R_To 171) nz_str "value" "[B") .byte) (by decide +kernel)
  · exact hs (.eq (.length (.field (.string R_To 171) nz_str "value" "[B")) (.int 5)) (by decide +kernel)
  · intro j hj
    match j, hj with
    | 0, _ => exact hs (.eq (.elem (.field (.string R_To 171) nz_str "value" "[B") (.int 0)) (.int 119)) (by decide +kernel)
    | 1, _ => exact hs (.eq (.elem (.field (.string R_To 171) nz_str "value" "[B") (.int 1)) (.int 104)) (by decide +kernel)
    | 2, _ => exact hs (.eq (.elem (.field (.string R_To 171) nz_str "value" "[B") (.int 2)) (.int 105)) (by decide +kernel)
    | 3, _ => exact hs (.eq (.elem (.field (.string R_To 171) nz_str "value" "[B") (.int 3)) (.int 108)) (by decide +kernel)
    | 4, _ => exact hs (.eq (.elem (.field (.string R_To 171) nz_str "value" "[B") (.int 4)) (.int 101)) (by decide +kernel)
    | n + 5, h => exact absurd h (by omega)
theorem le_9 {b : Nat} {s : State} {A : Nat → Prop} (ht : ∀ w ∈ lw_tbl, w.before #[Value.ref b] s = true) (hs : le_hs b s) (hini : (Cond.initialized R_To).before #[Value.ref b] s = true) (hA : ∀ a : Nat, a < s.heap.size → ¬ A a) : ∃ q, le_Q b 9 q A s := by
  refine le_T (i := 9) (nm := "DO") (sx := 174) (op := 0) (len := 2) (bs := [100, 111]) rfl (ht _ (List.mem_of_getElem? (i := 801) (by decide +kernel))) hini ?_ ?_ ?_ ?_ ?_ ?_ ?_ ?_ rfl (by decide) hA ?_
  · exact hs (.exactly (.static R_To "DO" ns_d) R_To) (by decide +kernel)
  · exact hs (.eq (.field (.static R_To "DO" ns_d) "java/lang/Enum" "ordinal" "I") (.int 9)) (by decide +kernel)
  · exact hs (.eq (.field (.static R_To "DO" ns_d) R_To "operator" "I") (.int 0)) (by decide +kernel)
  · exact hs (.eq (.field (.static R_To "DO" ns_d) R_To "spelling" "Ljava/lang/String;") (.string R_To 174)) (by decide +kernel)
  · exact hs (.exactly (.string R_To 174) nz_str) (by decide +kernel)
  · exact hs (.eq (.field (.string R_To 174) nz_str "coder" "B") (.int 0)) (by decide +kernel)
  · exact hs (.arrayOf (.field (.string R_To 174) nz_str "value" "[B") .byte) (by decide +kernel)
  · exact hs (.eq (.length (.field (.string R_To 174) nz_str "value" "[B")) (.int 2)) (by decide +kernel)
  · intro j hj
    match j, hj with
    | 0, _ => exact hs (.eq (.elem (.field (.string R_To 174) nz_str "value" "[B") (.int 0)) (.int 100)) (by decide +kernel)
    | 1, _ => exact hs (.eq (.elem (.field (.string R_To 174) nz_str "value" "[B") (.int 1)) (.int 111)) (by decide +kernel)
    | n + 2, h => exact absurd h (by omega)
theorem le_10 {b : Nat} {s : State} {A : Nat → Prop} (ht : ∀ w ∈ lw_tbl, w.before #[Value.ref b] s = true) (hs : le_hs b s) (hini : (Cond.initialized R_To).before #[Value.ref b] s = true) (hA : ∀ a : Nat, a < s.heap.size → ¬ A a) : ∃ q, le_Q b 10 q A s := by
  refine le_T (i := 10) (nm := "WRITE") (sx := 177) (op := 0) (len := 5) (bs := [119, 114, 105, 116, 101]) rfl (ht _ (List.mem_of_getElem? (i := 1241) (by decide +kernel))) hini ?_ ?_ ?_ ?_ ?_ ?_ ?_ ?_ rfl (by decide) hA ?_
  · exact hs (.exactly (.static R_To "WRITE" ns_d) R_To) (by decide +kernel)
  · exact hs (.eq (.field (.static R_To "WRITE" ns_d) "java/lang/Enum" "ordinal" "I") (.int 10)) (by decide +kernel)
  · exact hs (.eq (.field (.static R_To "WRITE" ns_d) R_To "operator" "I") (.int 0)) (by decide +kernel)
  · exact hs (.eq (.field (.static R_To "WRITE" ns_d) R_To "spelling" "Ljava/lang/String;") (.string R_To 177)) (by decide +kernel)
  · exact hs (.exactly (.string R_To 177) nz_str) (by decide +kernel)
  · exact hs (.eq (.field (.string R_To 177) nz_str "coder" "B") (.int 0)) (by decide +kernel)
  · exact hs (.arrayOf (.field (.string R_To 177) nz_str "value" "[B") .byte) (by decide +kernel)
  · exact hs (.eq (.length (.field (.string R_To 177) nz_str "value" "[B")) (.int 5)) (by decide +kernel)
  · intro j hj
    match j, hj with
    | 0, _ => exact hs (.eq (.elem (.field (.string R_To 177) nz_str "value" "[B") (.int 0)) (.int 119)) (by decide +kernel)
    | 1, _ => exact hs (.eq (.elem (.field (.string R_To 177) nz_str "value" "[B") (.int 1)) (.int 114)) (by decide +kernel)
    | 2, _ => exact hs (.eq (.elem (.field (.string R_To 177) nz_str "value" "[B") (.int 2)) (.int 105)) (by decide +kernel)
    | 3, _ => exact hs (.eq (.elem (.field (.string R_To 177) nz_str "value" "[B") (.int 3)) (.int 116)) (by decide +kernel)
    | 4, _ => exact hs (.eq (.elem (.field (.string R_To 177) nz_str "value" "[B") (.int 4)) (.int 101)) (by decide +kernel)
    | n + 5, h => exact absurd h (by omega)
theorem le_11 {b : Nat} {s : State} {A : Nat → Prop} (ht : ∀ w ∈ lw_tbl, w.before #[Value.ref b] s = true) (hs : le_hs b s) (hini : (Cond.initialized R_To).before #[Value.ref b] s = true) (hA : ∀ a : Nat, a < s.heap.size → ¬ A a) : ∃ q, le_Q b 11 q A s := by
  refine le_T (i := 11) (nm := "PLUS") (sx := 180) (op := 2) (len := 1) (bs := [43]) rfl (ht _ (List.mem_of_getElem? (i := 1242) (by decide +kernel))) hini ?_ ?_ ?_ ?_ ?_ ?_ ?_ ?_ rfl (by decide) hA ?_
  · exact hs (.exactly (.static R_To "PLUS" ns_d) R_To) (by decide +kernel)
  · exact hs (.eq (.field (.static R_To "PLUS" ns_d) "java/lang/Enum" "ordinal" "I") (.int 11)) (by decide +kernel)
  · exact hs (.eq (.field (.static R_To "PLUS" ns_d) R_To "operator" "I") (.int 2)) (by decide +kernel)
  · exact hs (.eq (.field (.static R_To "PLUS" ns_d) R_To "spelling" "Ljava/lang/String;") (.string R_To 180)) (by decide +kernel)
  · exact hs (.exactly (.string R_To 180) nz_str) (by decide +kernel)
  · exact hs (.eq (.field (.string R_To 180) nz_str "coder" "B") (.int 0)) (by decide +kernel)
  · exact hs (.arrayOf (.field (.string R_To 180) nz_str "value" "[B") .byte) (by decide +kernel)
  · exact hs (.eq (.length (.field (.string R_To 180) nz_str "value" "[B")) (.int 1)) (by decide +kernel)
  · intro j hj
    match j, hj with
    | 0, _ => exact hs (.eq (.elem (.field (.string R_To 180) nz_str "value" "[B") (.int 0)) (.int 43)) (by decide +kernel)
    | n + 1, h => exact absurd h (by omega)
theorem le_12 {b : Nat} {s : State} {A : Nat → Prop} (ht : ∀ w ∈ lw_tbl, w.before #[Value.ref b] s = true) (hs : le_hs b s) (hini : (Cond.initialized R_To).before #[Value.ref b] s = true) (hA : ∀ a : Nat, a < s.heap.size → ¬ A a) : ∃ q, le_Q b 12 q A s := by
  refine le_T (i := 12) (nm := "MINUS") (sx := 183) (op := 3) (len := 1) (bs := [45]) rfl (ht _ (List.mem_of_getElem? (i := 727) (by decide +kernel))) hini ?_ ?_ ?_ ?_ ?_ ?_ ?_ ?_ rfl (by decide) hA ?_
  · exact hs (.exactly (.static R_To "MINUS" ns_d) R_To) (by decide +kernel)
  · exact hs (.eq (.field (.static R_To "MINUS" ns_d) "java/lang/Enum" "ordinal" "I") (.int 12)) (by decide +kernel)
  · exact hs (.eq (.field (.static R_To "MINUS" ns_d) R_To "operator" "I") (.int 3)) (by decide +kernel)
  · exact hs (.eq (.field (.static R_To "MINUS" ns_d) R_To "spelling" "Ljava/lang/String;") (.string R_To 183)) (by decide +kernel)
  · exact hs (.exactly (.string R_To 183) nz_str) (by decide +kernel)
  · exact hs (.eq (.field (.string R_To 183) nz_str "coder" "B") (.int 0)) (by decide +kernel)
  · exact hs (.arrayOf (.field (.string R_To 183) nz_str "value" "[B") .byte) (by decide +kernel)
  · exact hs (.eq (.length (.field (.string R_To 183) nz_str "value" "[B")) (.int 1)) (by decide +kernel)
  · intro j hj
    match j, hj with
    | 0, _ => exact hs (.eq (.elem (.field (.string R_To 183) nz_str "value" "[B") (.int 0)) (.int 45)) (by decide +kernel)
    | n + 1, h => exact absurd h (by omega)
theorem le_13 {b : Nat} {s : State} {A : Nat → Prop} (ht : ∀ w ∈ lw_tbl, w.before #[Value.ref b] s = true) (hs : le_hs b s) (hini : (Cond.initialized R_To).before #[Value.ref b] s = true) (hA : ∀ a : Nat, a < s.heap.size → ¬ A a) : ∃ q, le_Q b 13 q A s := by
  refine le_T (i := 13) (nm := "TIMES") (sx := 186) (op := 4) (len := 1) (bs := [42]) rfl (ht _ (List.mem_of_getElem? (i := 1243) (by decide +kernel))) hini ?_ ?_ ?_ ?_ ?_ ?_ ?_ ?_ rfl (by decide) hA ?_
  · exact hs (.exactly (.static R_To "TIMES" ns_d) R_To) (by decide +kernel)
  · exact hs (.eq (.field (.static R_To "TIMES" ns_d) "java/lang/Enum" "ordinal" "I") (.int 13)) (by decide +kernel)
  · exact hs (.eq (.field (.static R_To "TIMES" ns_d) R_To "operator" "I") (.int 4)) (by decide +kernel)
  · exact hs (.eq (.field (.static R_To "TIMES" ns_d) R_To "spelling" "Ljava/lang/String;") (.string R_To 186)) (by decide +kernel)
  · exact hs (.exactly (.string R_To 186) nz_str) (by decide +kernel)
  · exact hs (.eq (.field (.string R_To 186) nz_str "coder" "B") (.int 0)) (by decide +kernel)
  · exact hs (.arrayOf (.field (.string R_To 186) nz_str "value" "[B") .byte) (by decide +kernel)
  · exact hs (.eq (.length (.field (.string R_To 186) nz_str "value" "[B")) (.int 1)) (by decide +kernel)
  · intro j hj
    match j, hj with
    | 0, _ => exact hs (.eq (.elem (.field (.string R_To 186) nz_str "value" "[B") (.int 0)) (.int 42)) (by decide +kernel)
    | n + 1, h => exact absurd h (by omega)
theorem le_14 {b : Nat} {s : State} {A : Nat → Prop} (ht : ∀ w ∈ lw_tbl, w.before #[Value.ref b] s = true) (hs : le_hs b s) (hini : (Cond.initialized R_To).before #[Value.ref b] s = true) (hA : ∀ a : Nat, a < s.heap.size → ¬ A a) : ∃ q, le_Q b 14 q A s := by
  refine le_T (i := 14) (nm := "OVER") (sx := 189) (op := 5) (len := 1) (bs := [47]) rfl (ht _ (List.mem_of_getElem? (i := 1244) (by decide +kernel))) hini ?_ ?_ ?_ ?_ ?_ ?_ ?_ ?_ rfl (by decide) hA ?_
  · exact hs (.exactly (.static R_To "OVER" ns_d) R_To) (by decide +kernel)
  · exact hs (.eq (.field (.static R_To "OVER" ns_d) "java/lang/Enum" "ordinal" "I") (.int 14)) (by decide +kernel)
  · exact hs (.eq (.field (.static R_To "OVER" ns_d) R_To "operator" "I") (.int 5)) (by decide +kernel)
  · exact hs (.eq (.field (.static R_To "OVER" ns_d) R_To "spelling" "Ljava/lang/String;") (.string R_To 189)) (by decide +kernel)
  · exact hs (.exactly (.string R_To 189) nz_str) (by decide +kernel)
  · exact hs (.eq (.field (.string R_To 189) nz_str "coder" "B") (.int 0)) (by decide +kernel)
  · exact hs (.arrayOf (.field (.string R_To 189) nz_str "value" "[B") .byte) (by decide +kernel)
  · exact hs (.eq (.length (.field (.string R_To 189) nz_str "value" "[B")) (.int 1)) (by decide +kernel)
  · intro j hj
    match j, hj with
    | 0, _ => exact hs (.eq (.elem (.field (.string R_To 189) nz_str "value" "[B") (.int 0)) (.int 47)) (by decide +kernel)
    | n + 1, h => exact absurd h (by omega)
theorem le_15 {b : Nat} {s : State} {A : Nat → Prop} (ht : ∀ w ∈ lw_tbl, w.before #[Value.ref b] s = true) (hs : le_hs b s) (hini : (Cond.initialized R_To).before #[Value.ref b] s = true) (hA : ∀ a : Nat, a < s.heap.size → ¬ A a) : ∃ q, le_Q b 15 q A s := by
  refine le_T (i := 15) (nm := "EQUAL") (sx := 192) (op := 6) (len := 1) (bs := [61]) rfl (ht _ (List.mem_of_getElem? (i := 1245) (by decide +kernel))) hini ?_ ?_ ?_ ?_ ?_ ?_ ?_ ?_ rfl (by decide) hA ?_
  · exact hs (.exactly (.static R_To "EQUAL" ns_d) R_To) (by decide +kernel)
  · exact hs (.eq (.field (.static R_To "EQUAL" ns_d) "java/lang/Enum" "ordinal" "I") (.int 15)) (by decide +kernel)
  · exact hs (.eq (.field (.static R_To "EQUAL" ns_d) R_To "operator" "I") (.int 6)) (by decide +kernel)
  · exact hs (.eq (.field (.static R_To "EQUAL" ns_d) R_To "spelling" "Ljava/lang/String;") (.string R_To 192)) (by decide +kernel)
  · exact hs (.exactly (.string R_To 192) nz_str) (by decide +kernel)
  · exact hs (.eq (.field (.string R_To 192) nz_str "coder" "B") (.int 0)) (by decide +kernel)
  · exact hs (.arrayOf (.field (.string R_To 192) nz_str "value" "[B") .byte) (by decide +kernel)
  · exact hs (.eq (.length (.field (.string R_To 192) nz_str "value" "[B")) (.int 1)) (by decide +kernel)
  · intro j hj
    match j, hj with
    | 0, _ => exact hs (.eq (.elem (.field (.string R_To 192) nz_str "value" "[B") (.int 0)) (.int 61)) (by decide +kernel)
    | n + 1, h => exact absurd h (by omega)
theorem le_16 {b : Nat} {s : State} {A : Nat → Prop} (ht : ∀ w ∈ lw_tbl, w.before #[Value.ref b] s = true) (hs : le_hs b s) (hini : (Cond.initialized R_To).before #[Value.ref b] s = true) (hA : ∀ a : Nat, a < s.heap.size → ¬ A a) : ∃ q, le_Q b 16 q A s := by
  refine le_T (i := 16) (nm := "UNEQUAL") (sx := 195) (op := 7) (len := 1) (bs := [35]) rfl (ht _ (List.mem_of_getElem? (i := 1246) (by decide +kernel))) hini ?_ ?_ ?_ ?_ ?_ ?_ ?_ ?_ rfl (by decide) hA ?_
  · exact hs (.exactly (.static R_To "UNEQUAL" ns_d) R_To) (by decide +kernel)
  · exact hs (.eq (.field (.static R_To "UNEQUAL" ns_d) "java/lang/Enum" "ordinal" "I") (.int 16)) (by decide +kernel)
  · exact hs (.eq (.field (.static R_To "UNEQUAL" ns_d) R_To "operator" "I") (.int 7)) (by decide +kernel)
  · exact hs (.eq (.field (.static R_To "UNEQUAL" ns_d) R_To "spelling" "Ljava/lang/String;") (.string R_To 195)) (by decide +kernel)
  · exact hs (.exactly (.string R_To 195) nz_str) (by decide +kernel)
  · exact hs (.eq (.field (.string R_To 195) nz_str "coder" "B") (.int 0)) (by decide +kernel)
  · exact hs (.arrayOf (.field (.string R_To 195) nz_str "value" "[B") .byte) (by decide +kernel)
  · exact hs (.eq (.length (.field (.string R_To 195) nz_str "value" "[B")) (.int 1)) (by decide +kernel)
  · intro j hj
    match j, hj with
    | 0, _ => exact hs (.eq (.elem (.field (.string R_To 195) nz_str "value" "[B") (.int 0)) (.int 35)) (by decide +kernel)
    | n + 1, h => exact absurd h (by omega)
theorem le_17 {b : Nat} {s : State} {A : Nat → Prop} (ht : ∀ w ∈ lw_tbl, w.before #[Value.ref b] s = true) (hs : le_hs b s) (hini : (Cond.initialized R_To).before #[Value.ref b] s = true) (hA : ∀ a : Nat, a < s.heap.size → ¬ A a) : ∃ q, le_Q b 17 q A s := by
  refine le_T (i := 17) (nm := "LESS") (sx := 198) (op := 8) (len := 1) (bs := [60]) rfl (ht _ (List.mem_of_getElem? (i := 1247) (by decide +kernel))) hini ?_ ?_ ?_ ?_ ?_ ?_ ?_ ?_ rfl (by decide) hA ?_
  · exact hs (.exactly (.static R_To "LESS" ns_d) R_To) (by decide +kernel)
  · exact hs (.eq (.field (.static R_To "LESS" ns_d) "java/lang/Enum" "ordinal" "I") (.int 17)) (by decide +kernel)
  · exact hs (.eq (.field (.static R_To "LESS" ns_d) R_To "operator" "I") (.int 8)) (by decide +kernel)
  · exact hs (.eq (.field (.static R_To "LESS" ns_d) R_To "spelling" "Ljava/lang/String;") (.string R_To 198)) (by decide +kernel)
  · exact hs (.exactly (.string R_To 198) nz_str) (by decide +kernel)
  · exact hs (.eq (.field (.string R_To 198) nz_str "coder" "B") (.int 0)) (by decide +kernel)
  · exact hs (.arrayOf (.field (.string R_To 198) nz_str "value" "[B") .byte) (by decide +kernel)
  · exact hs (.eq (.length (.field (.string R_To 198) nz_str "value" "[B")) (.int 1)) (by decide +kernel)
  · intro j hj
    match j, hj with
    | 0, _ => exact hs (.eq (.elem (.field (.string R_To 198) nz_str "value" "[B") (.int 0)) (.int 60)) (by decide +kernel)
    | n + 1, h => exact absurd h (by omega)
theorem le_18 {b : Nat} {s : State} {A : Nat → Prop} (ht : ∀ w ∈ lw_tbl, w.before #[Value.ref b] s = true) (hs : le_hs b s) (hini : (Cond.initialized R_To).before #[Value.ref b] s = true) (hA : ∀ a : Nat, a < s.heap.size → ¬ A a) : ∃ q, le_Q b 18 q A s := by
  refine le_T (i := 18) (nm := "GREATER") (sx := 201) (op := 9) (len := 1) (bs := [62]) rfl (ht _ (List.mem_of_getElem? (i := 1248) (by decide +kernel))) hini ?_ ?_ ?_ ?_ ?_ ?_ ?_ ?_ rfl (by decide) hA ?_
  · exact hs (.exactly (.static R_To "GREATER" ns_d) R_To) (by decide +kernel)
  · exact hs (.eq (.field (.static R_To "GREATER" ns_d) "java/lang/Enum" "ordinal" "I") (.int 18)) (by decide +kernel)
  · exact hs (.eq (.field (.static R_To "GREATER" ns_d) R_To "operator" "I") (.int 9)) (by decide +kernel)
  · exact hs (.eq (.field (.static R_To "GREATER" ns_d) R_To "spelling" "Ljava/lang/String;") (.string R_To 201)) (by decide +kernel)
  · exact hs (.exactly (.string R_To 201) nz_str) (by decide +kernel)
  · exact hs (.eq (.field (.string R_To 201) nz_str "coder" "B") (.int 0)) (by decide +kernel)
  · exact hs (.arrayOf (.field (.string R_To 201) nz_str "value" "[B") .byte) (by decide +kernel)
  · exact hs (.eq (.length (.field (.string R_To 201) nz_str "value" "[B")) (.int 1)) (by decide +kernel)
  · intro j hj
    match j, hj with
    | 0, _ => exact hs (.eq (.elem (.field (.string R_To 201) nz_str "value" "[B") (.int 0)) (.int 62)) (by decide +kernel)
    | n + 1, h => exact absurd h (by omega)
theorem le_19 {b : Nat} {s : State} {A : Nat → Prop} (ht : ∀ w ∈ lw_tbl, w.before #[Value.ref b] s = true) (hs : le_hs b s) (hini : (Cond.initialized R_To).before #[Value.ref b] s = true) (hA : ∀ a : Nat, a < s.heap.size → ¬ A a) : ∃ q, le_Q b 19 q A s := by
  refine le_T (i := 19) (nm := "ROUND_OPEN") (sx := 204) (op := 0) (len := 1) (bs := [40]) rfl (ht _ (List.mem_of_getElem? (i := 650) (by decide +kernel))) hini ?_ ?_ ?_ ?_ ?_ ?_ ?_ ?_ rfl (by decide) hA ?_
  · exact hs (.exactly (.static R_To "ROUND_OPEN" ns_d) R_To) (by decide +kernel)
  · exact hs (.eq (.field (.static R_To "ROUND_OPEN" ns_d) "java/lang/Enum" "ordinal" "I") (.int 19)) (by decide +kernel)
  · exact hs (.eq (.field (.static R_To "ROUND_OPEN" ns_d) R_To "operator" "I") (.int 0)) (by decide +kernel)
  · exact hs (.eq (.field (.static R_To "ROUND_OPEN" ns_d) R_To "spelling" "Ljava/lang/String;") (.string R_To 204)) (by decide +kernel)
  · exact hs (.exactly (.string R_To 204) nz_str) (by decide +kernel)
  · exact hs (.eq (.field (.string R_To 204) nz_str "coder" "B") (.int 0)) (by decide +kernel)
  · exact hs (.arrayOf (.field (.string R_To 204) nz_str "value" "[B") .byte) (by decide +kernel)
  · exact hs (.eq (.length (.field (.string R_To 204) nz_str "value" "[B")) (.int 1)) (by decide +kernel)
  · intro j hj
    match j, hj with
    | 0, _ => exact hs (.eq (.elem (.field (.string R_To 204) nz_str "value" "[B") (.int 0)) (.int 40)) (by decide +kernel)
    | n + 1, h => exact absurd h (by omega)
theorem le_20 {b : Nat} {s : State} {A : Nat → Prop} (ht : ∀ w ∈ lw_tbl, w.before #[Value.ref b] s = true) (hs : le_hs b s) (hini : (Cond.initialized R_To).before #[Value.ref b] s = true) (hA : ∀ a : Nat, a < s.heap.size → ¬ A a) : ∃ q, le_Q b 20 q A s := by
  refine le_T (i := 20) (nm := "ROUND_CLOSE") (sx := 207) (op := 0) (len := 1) (bs := [41]) rfl (ht _ (List.mem_of_getElem? (i := 658) (by decide +kernel))) hini ?_ ?_ ?_ ?_ ?_ ?_ ?_ ?_ rfl (by decide) hA ?_
  · exact hs (.exactly (.static R_To "ROUND_CLOSE" ns_d) R_To) (by decide +kernel)
  · exact hs (.eq (.field (.static R_To "ROUND_CLOSE" ns_d) "java/lang/Enum" "ordinal" "I") (.int 20)) (by decide +kernel)
  · exact hs (.eq (.field (.static R_To "ROUND_CLOSE" ns_d) R_To "operator" "I") (.int 0)) (by decide +kernel)
  · exact hs (.eq (.field (.static R_To "ROUND_CLOSE" ns_d) R_To "spelling" "Ljava/lang/String;") (.string R_To 207)) (by decide +kernel)
  · exact hs (.exactly (.string R_To 207) nz_str) (by decide +kernel)
  · exact hs (.eq (.field (.string R_To 207) nz_str "coder" "B") (.int 0)) (by decide +kernel)
  · exact hs (.arrayOf (.field (.string R_To 207) nz_str "value" "[B") .byte) (by decide +kernel)
  · exact hs (.eq (.length (.field (.string R_To 207) nz_str "value" "[B")) (.int 1)) (by decide +kernel)
  · intro j hj
    match j, hj with
    | 0, _ => exact hs (.eq (.elem (.field (.string R_To 207) nz_str "value" "[B") (.int 0)) (.int 41)) (by decide +kernel)
    | n + 1, h => exact absurd h (by omega)
theorem le_21 {b : Nat} {s : State} {A : Nat → Prop} (ht : ∀ w ∈ lw_tbl, w.before #[Value.ref b] s = true) (hs : le_hs b s) (hini : (Cond.initialized R_To).before #[Value.ref b] s = true) (hA : ∀ a : Nat, a < s.heap.size → ¬ A a) : ∃ q, le_Q b 21 q A s := by
  refine le_T (i := 21) (nm := "SQUARE_OPEN") (sx := 210) (op := 0) (len := 1) (bs := [91]) rfl (ht _ (List.mem_of_getElem? (i := 709) (by decide +kernel))) hini ?_ ?_ ?_ ?_ ?_ ?_ ?_ ?_ rfl (by decide) hA ?_
  · exact hs (.exactly (.static R_To "SQUARE_OPEN" ns_d) R_To) (by decide +kernel)
  · exact hs (.eq (.field (.static R_To "SQUARE_OPEN" ns_d) "java/lang/Enum" "ordinal" "I") (.int 21)) (by decide +kernel)
  · exact hs (.eq (.field (.static R_To "SQUARE_OPEN" ns_d) R_To "operator" "I") (.int 0)) (by decide +kernel)
  · exact hs (.eq (.field (.static R_To "SQUARE_OPEN" ns_d) R_To "spelling" "Ljava/lang/String;") (.string R_To 210)) (by decide +kernel)
  · exact hs (.exactly (.string R_To 210) nz_str) (by decide +kernel)
  · exact hs (.eq (.field (.string R_To 210) nz_str "coder" "B") (.int 0)) (by decide +kernel)
  · exact hs (.arrayOf (.field (.string R_To 210) nz_str "value" "[B") .byte) (by decide +kernel)
  · exact hs (.eq (.length (.field (.string R_To 210) nz_str "value" "[B")) (.int 1)) (by decide +kernel)
  · intro j hj
    match j, hj with
    | 0, _ => exact hs (.eq (.elem (.field (.string R_To 210) nz_str "value" "[B") (.int 0)) (.int 91)) (by decide +kernel)
    | n + 1, h => exact absurd h (by omega)
theorem le_22 {b : Nat} {s : State} {A : Nat → Prop} (ht : ∀ w ∈ lw_tbl, w.before #[Value.ref b] s = true) (hs : le_hs b s) (hini : (Cond.initialized R_To).before #[Value.ref b] s = true) (hA : ∀ a : Nat, a < s.heap.size → ¬ A a) : ∃ q, le_Q b 22 q A s := by
  refine le_T (i := 22) (nm := "SQUARE_CLOSE") (sx := 213) (op := 0) (len := 1) (bs := [93]) rfl (ht _ (List.mem_of_getElem? (i := 745) (by decide +kernel))) hini ?_ ?_ ?_ ?_ ?_ ?_ ?_ ?_ rfl (by decide) hA ?_
  · exact hs (.exactly (.static R_To "SQUARE_CLOSE" ns_d) R_To) (by decide +kernel)
  · exact hs (.eq (.field (.static R_To "SQUARE_CLOSE" ns_d) "java/lang/Enum" "ordinal" "I") (.int 22)) (by decide +kernel)
  · exact hs (.eq (.field (.static R_To "SQUARE_CLOSE" ns_d) R_To "operator" "I") (.int 0)) (by decide +kernel)
  · exact hs (.eq (.field (.static R_To "SQUARE_CLOSE" ns_d) R_To "spelling" "Ljava/lang/String;") (.string R_To 213)) (by decide +kernel)
  · exact hs (.exactly (.string R_To 213) nz_str) (by decide +kernel)
  · exact hs (.eq (.field (.string R_To 213) nz_str "coder" "B") (.int 0)) (by decide +kernel)
  · exact hs (.arrayOf (.field (.string R_To 213) nz_str "value" "[B") .byte) (by decide +kernel)
  · exact hs (.eq (.length (.field (.string R_To 213) nz_str "value" "[B")) (.int 1)) (by decide +kernel)
  · intro j hj
    match j, hj with
    | 0, _ => exact hs (.eq (.elem (.field (.string R_To 213) nz_str "value" "[B") (.int 0)) (.int 93)) (by decide +kernel)
    | n + 1, h => exact absurd h (by omega)
theorem le_23 {b : Nat} {s : State} {A : Nat → Prop} (ht : ∀ w ∈ lw_tbl, w.before #[Value.ref b] s = true) (hs : le_hs b s) (hini : (Cond.initialized R_To).before #[Value.ref b] s = true) (hA : ∀ a : Nat, a < s.heap.size → ¬ A a) : ∃ q, le_Q b 23 q A s := by
  refine le_T (i := 23) (nm := "COMMA") (sx := 216) (op := 0) (len := 1) (bs := [44]) rfl (ht _ (List.mem_of_getElem? (i := 656) (by decide +kernel))) hini ?_ ?_ ?_ ?_ ?_ ?_ ?_ ?_ rfl (by decide) hA ?_
  · exact hs (.exactly (.static R_To "COMMA" ns_d) R_To) (by decide +kernel)
  · exact hs (.eq (.field (.static R_To "COMMA" ns_d) "java/lang/Enum" "ordinal" "I") (.int 23)) (by decide +kernel)
  · exact hs (.eq (.field (.static R_To "COMMA" ns_d) R_To "operator" "I") (.int 0)) (by decide +kernel)
  · exact hs (.eq (.field (.static R_To "COMMA" ns_d) R_To "spelling" "Ljava/lang/String;") (.string R_To 216)) (by decide +kernel)
  · exact hs (.exactly (.string R_To 216) nz_str) (by decide +kernel)
  · exact hs (.eq (.field (.string R_To 216) nz_str "coder" "B") (.int 0)) (by decide +kernel)
  · exact hs (.arrayOf (.field (.string R_To 216) nz_str "value" "[B") .byte) (by decide +kernel)
  · exact hs (.eq (.length (.field (.string R_To 216) nz_str "value" "[B")) (.int 1)) (by decide +kernel)
  · intro j hj
    match j, hj with
    | 0, _ => exact hs (.eq (.elem (.field (.string R_To 216) nz_str "value" "[B") (.int 0)) (.int 44)) (by decide +kernel)
    | n + 1, h => exact absurd h (by omega)
theorem le_24 {b : Nat} {s : State} {A : Nat → Prop} (ht : ∀ w ∈ lw_tbl, w.before #[Value.ref b] s = true) (hs : le_hs b s) (hini : (Cond.initialized R_To).before #[Value.ref b] s = true) (hA : ∀ a : Nat, a < s.heap.size → ¬ A a) : ∃ q, le_Q b 24 q A s := by
  refine le_T (i := 24) (nm := "SEMICOLON") (sx := 219) (op := 0) (len := 1) (bs := [59]) rfl (ht _ (List.mem_of_getElem? (i := 633) (by decide +kernel))) hini ?_ ?_ ?_ ?_ ?_ ?_ ?_ ?_ rfl (by decide) hA ?_
  · exact hs (.exactly (.static R_To "SEMICOLON" ns_d) R_To) (by decide +kernel)
  · exact hs (.eq (.field (.static R_To "SEMICOLON" ns_d) "java/lang/Enum" "ordinal" "I") (.int 24)) (by decide +kernel)
  · exact hs (.eq (.field (.static R_To "SEMICOLON" ns_d) R_To "operator" "I") (.int 0)) (by decide +kernel)
  · exact hs (.eq (.field (.static R_To "SEMICOLON" ns_d) R_To "spelling" "Ljava/lang/String;") (.string R_To 219)) (by decide +kernel)
  · exact hs (.exactly (.string R_To 219) nz_str) (by decide +kernel)
  · exact hs (.eq (.field (.string R_To 219) nz_str "coder" "B") (.int 0)) (by decide +kernel)
  · exact hs (.arrayOf (.field (.string R_To 219) nz_str "value" "[B") .byte) (by decide +kernel)
  · exact hs (.eq (.length (.field (.string R_To 219) nz_str "value" "[B")) (.int 1)) (by decide +kernel)
  · intro j hj
    match j, hj with
    | 0, _ => exact hs (.eq (.elem (.field (.string R_To 219) nz_str "value" "[B") (.int 0)) (.int 59)) (by decide +kernel)
    | n + 1, h => exact absurd h (by omega)
theorem le_25 {b : Nat} {s : State} {A : Nat → Prop} (ht : ∀ w ∈ lw_tbl, w.before #[Value.ref b] s = true) (hs : le_hs b s) (hini : (Cond.initialized R_To).before #[Value.ref b] s = true) (hA : ∀ a : Nat, a < s.heap.size → ¬ A a) : ∃ q, le_Q b 25 q A s := by
  refine le_T (i := 25) (nm := "PERIOD") (sx := 222) (op := 0) (len := 1) (bs := [46]) rfl (ht _ (List.mem_of_getElem? (i := 803) (by decide +kernel))) hini ?_ ?_ ?_ ?_ ?_ ?_ ?_ ?_ rfl (by decide) hA ?_
  · exact hs (.exactly (.static R_To "PERIOD" ns_d) R_To) (by decide +kernel)
  · exact hs (.eq (.field (.static R_To "PERIOD" ns_d) "java/lang/Enum" "ordinal" "I") (.int 25)) (by decide +kernel)
  · exact hs (.eq (.field (.static R_To "PERIOD" ns_d) R_To "operator" "I") (.int 0)) (by decide +kernel)
  · exact hs (.eq (.field (.static R_To "PERIOD" ns_d) R_To "spelling" "Ljava/lang/String;") (.string R_To 222)) (by decide +kernel)
  · exact hs (.exactly (.string R_To 222) nz_str) (by decide +kernel)
  · exact hs (.eq (.field (.string R_To 222) nz_str "coder" "B") (.int 0)) (by decide +kernel)
  · exact hs (.arrayOf (.field (.string R_To 222) nz_str "value" "[B") .byte) (by decide +kernel)
  · exact hs (.eq (.length (.field (.string R_To 222) nz_str "value" "[B")) (.int 1)) (by decide +kernel)
  · intro j hj
    match j, hj with
    | 0, _ => exact hs (.eq (.elem (.field (.string R_To 222) nz_str "value" "[B") (.int 0)) (.int 46)) (by decide +kernel)
    | n + 1, h => exact absurd h (by omega)
theorem le_26 {b : Nat} {s : State} {A : Nat → Prop} (ht : ∀ w ∈ lw_tbl, w.before #[Value.ref b] s = true) (hs : le_hs b s) (hini : (Cond.initialized R_To).before #[Value.ref b] s = true) (hA : ∀ a : Nat, a < s.heap.size → ¬ A a) : ∃ q, le_Q b 26 q A s := by
  refine le_T (i := 26) (nm := "BECOMES") (sx := 225) (op := 0) (len := 2) (bs := [58, 61]) rfl (ht _ (List.mem_of_getElem? (i := 703) (by decide +kernel))) hini ?_ ?_ ?_ ?_ ?_ ?_ ?_ ?_ rfl (by decide) hA ?_
  · exact hs (.exactly (.static R_To "BECOMES" ns_d) R_To) (by decide +kernel)
  · exact hs (.eq (.field (.static R_To "BECOMES" ns_d) "java/lang/Enum" "ordinal" "I") (.int 26)) (by decide +kernel)
  · exact hs (.eq (.field (.static R_To "BECOMES" ns_d) R_To "operator" "I") (.int 0)) (by decide +kernel)
  · exact hs (.eq (.field (.static R_To "BECOMES" ns_d) R_To "spelling" "Ljava/lang/String;") (.string R_To 225)) (by decide +kernel)
  · exact hs (.exactly (.string R_To 225) nz_str) (by decide +kernel)
  · exact hs (.eq (.field (.string R_To 225) nz_str "coder" "B") (.int 0)) (by decide +kernel)
  · exact hs (.arrayOf (.field (.string R_To 225) nz_str "value" "[B") .byte) (by decide +kernel)
  · exact hs (.eq (.length (.field (.string R_To 225) nz_str "value" "[B")) (.int 2)) (by decide +kernel)
  · intro j hj
    match j, hj with
    | 0, _ => exact hs (.eq (.elem (.field (.string R_To 225) nz_str "value" "[B") (.int 0)) (.int 58)) (by decide +kernel)
    | 1, _ => exact hs (.eq (.elem (.field (.string R_To 225) nz_str "value" "[B") (.int 1)) (.int 61)) (by decide +kernel)
    | n + 2, h => exact absurd h (by omega)
theorem le_27 {b : Nat} {s : State} {A : Nat → Prop} (ht : ∀ w ∈ lw_tbl, w.before #[Value.ref b] s = true) (hs : le_hs b s) (hini : (Cond.initialized R_To).before #[Value.ref b] s = true) (hA : ∀ a : Nat, a < s.heap.size → ¬ A a) : ∃ q, le_Q b 27 q A s := by
  refine le_T (i := 27) (nm := "NAME") (sx := 228) (op := 0) (len := 0) (bs := []) rfl (ht _ (List.mem_of_getElem? (i := 489) (by decide +kernel))) hini ?_ ?_ ?_ ?_ ?_ ?_ ?_ ?_ rfl (by decide) hA ?_
  · exact hs (.exactly (.static R_To "NAME" ns_d) R_To) (by decide +kernel)
  · exact hs (.eq (.field (.static R_To "NAME" ns_d) "java/lang/Enum" "ordinal" "I") (.int 27)) (by decide +kernel)
  · exact hs (.eq (.field (.static R_To "NAME" ns_d) R_To "operator" "I") (.int 0)) (by decide +kernel)
  · exact hs (.eq (.field (.static R_To "NAME" ns_d) R_To "spelling" "Ljava/lang/String;") (.string R_To 228)) (by decide +kernel)
  · exact hs (.exactly (.string R_To 228) nz_str) (by decide +kernel)
  · exact hs (.eq (.field (.string R_To 228) nz_str "coder" "B") (.int 0)) (by decide +kernel)
  · exact hs (.arrayOf (.field (.string R_To 228) nz_str "value" "[B") .byte) (by decide +kernel)
  · exact hs (.eq (.length (.field (.string R_To 228) nz_str "value" "[B")) (.int 0)) (by decide +kernel)
  · intro j hj; exact absurd hj (Nat.not_lt_zero j)
theorem le_28 {b : Nat} {s : State} {A : Nat → Prop} (ht : ∀ w ∈ lw_tbl, w.before #[Value.ref b] s = true) (hs : le_hs b s) (hini : (Cond.initialized R_To).before #[Value.ref b] s = true) (hA : ∀ a : Nat, a < s.heap.size → ¬ A a) : ∃ q, le_Q b 28 q A s := by
  refine le_T (i := 28) (nm := "NUMBER") (sx := 228) (op := 0) (len := 0) (bs := []) rfl (ht _ (List.mem_of_getElem? (i := 426) (by decide +kernel))) hini ?_ ?_ ?_ ?_ ?_ ?_ ?_ ?_ rfl (by decide) hA ?_
  · exact hs (.exactly (.static R_To "NUMBER" ns_d) R_To) (by decide +kernel)
  · exact hs (.eq (.field (.static R_To "NUMBER" ns_d) "java/lang/Enum" "ordinal" "I") (.int 28)) (by decide +kernel)
  · exact hs (.eq (.field (.static R_To "NUMBER" ns_d) R_To "operator" "I") (.int 0)) (by decide +kernel)
  · exact hs (.eq (.field (.static R_To "NUMBER" ns_d) R_To "spelling" "Ljava/lang/String;") (.string R_To 228)) (by decide +kernel)
  · exact hs (.exactly (.string R_To 228) nz_str) (by decide +kernel)
  · exact hs (.eq (.field (.string R_To 228) nz_str "coder" "B") (.int 0)) (by decide +kernel)
  · exact hs (.arrayOf (.field (.string R_To 228) nz_str "value" "[B") .byte) (by decide +kernel)
  · exact hs (.eq (.length (.field (.string R_To 228) nz_str "value" "[B")) (.int 0)) (by decide +kernel)
  · intro j hj; exact absurd hj (Nat.not_lt_zero j)
theorem le_29 {b : Nat} {s : State} {A : Nat → Prop} (ht : ∀ w ∈ lw_tbl, w.before #[Value.ref b] s = true) (hs : le_hs b s) (hini : (Cond.initialized R_To).before #[Value.ref b] s = true) (hA : ∀ a : Nat, a < s.heap.size → ¬ A a) : ∃ q, le_Q b 29 q A s := by
  refine le_T (i := 29) (nm := "TEXT_END") (sx := 228) (op := 0) (len := 0) (bs := []) rfl (ht _ (List.mem_of_getElem? (i := 501) (by decide +kernel))) hini ?_ ?_ ?_ ?_ ?_ ?_ ?_ ?_ rfl (by decide) hA ?_
  · exact hs (.exactly (.static R_To "TEXT_END" ns_d) R_To) (by decide +kernel)
  · exact hs (.eq (.field (.static R_To "TEXT_END" ns_d) "java/lang/Enum" "ordinal" "I") (.int 29)) (by decide +kernel)
  · exact hs (.eq (.field (.static R_To "TEXT_END" ns_d) R_To "operator" "I") (.int 0)) (by decide +kernel)
  · exact hs (.eq (.field (.static R_To "TEXT_END" ns_d) R_To "spelling" "Ljava/lang/String;") (.string R_To 228)) (by decide +kernel)
  · exact hs (.exactly (.string R_To 228) nz_str) (by decide +kernel)
  · exact hs (.eq (.field (.string R_To 228) nz_str "coder" "B") (.int 0)) (by decide +kernel)
  · exact hs (.arrayOf (.field (.string R_To 228) nz_str "value" "[B") .byte) (by decide +kernel)
  · exact hs (.eq (.length (.field (.string R_To 228) nz_str "value" "[B")) (.int 0)) (by decide +kernel)
  · intro j hj; exact absurd hj (Nat.not_lt_zero j)
theorem le_30 {b : Nat} {s : State} {A : Nat → Prop} (ht : ∀ w ∈ lw_tbl, w.before #[Value.ref b] s = true) (hs : le_hs b s) (hini : (Cond.initialized R_To).before #[Value.ref b] s = true) (hA : ∀ a : Nat, a < s.heap.size → ¬ A a) : ∃ q, le_Q b 30 q A s := by
  refine le_T (i := 30) (nm := "NO_TOKEN") (sx := 228) (op := 0) (len := 0) (bs := []) rfl (ht _ (List.mem_of_getElem? (i := 428) (by decide +kernel))) hini ?_ ?_ ?_ ?_ ?_ ?_ ?_ ?_ rfl (by decide) hA ?_
  · exact hs (.exactly (.static R_To "NO_TOKEN" ns_d) R_To) (by decide +kernel)
  · exact hs (.eq (.field (.static R_To "NO_TOKEN" ns_d) "java/lang/Enum" "ordinal" "I") (.int 30)) (by decide +kernel)
  · exact hs (.eq (.field (.static R_To "NO_TOKEN" ns_d) R_To "operator" "I") (.int 0)) (by decide +kernel)
  · exact hs (.eq (.field (.static R_To "NO_TOKEN" ns_d) R_To "spelling" "Ljava/lang/String;") (.string R_To 228)) (by decide +kernel)
  · exact hs (.exactly (.string R_To 228) nz_str) (by decide +kernel)
  · exact hs (.eq (.field (.string R_To 228) nz_str "coder" "B") (.int 0)) (by decide +kernel)
  · exact hs (.arrayOf (.field (.string R_To 228) nz_str "value" "[B") .byte) (by decide +kernel)
  · exact hs (.eq (.length (.field (.string R_To 228) nz_str "value" "[B")) (.int 0)) (by decide +kernel)
  · intro j hj; exact absurd hj (Nat.not_lt_zero j)
theorem le_all {b : Nat} {s : State} {A : Nat → Prop} (ht : ∀ w ∈ lw_tbl, w.before #[Value.ref b] s = true) (hs : le_hs b s) (hini : (Cond.initialized R_To).before #[Value.ref b] s = true) (hA : ∀ a : Nat, a < s.heap.size → ¬ A a) : ∀ i, i < 31 → ∃ q, le_Q b i q A s := by
  intro i hi
  match i, hi with
  | 0, _ => exact le_0 ht hs hini hA
  | 1, _ => exact le_1 ht hs hini hA
  | 2, _ => exact le_2 ht hs hini hA
  | 3, _ => exact le_3 ht hs hini hA
  | 4, _ => exact le_4 ht hs hini hA
  | 5, _ => exact le_5 ht hs hini hA
  | 6, _ => exact le_6 ht hs hini hA
  | 7, _ => exact le_7 ht hs hini hA
  | 8, _ => exact le_8 ht hs hini hA
  | 9, _ => exact le_9 ht hs hini hA
  | 10, _ => exact le_10 ht hs hini hA
  | 11, _ => exact le_11 ht hs hini hA
  | 12, _ => exact le_12 ht hs hini hA
  | 13, _ => exact le_13 ht hs hini hA
  | 14, _ => exact le_14 ht hs hini hA
  | 15, _ => exact le_15 ht hs hini hA
  | 16, _ => exact le_16 ht hs hini hA
  | 17, _ => exact le_17 ht hs hini hA
  | 18, _ => exact le_18 ht hs hini hA
  | 19, _ => exact le_19 ht hs hini hA
  | 20, _ => exact le_20 ht hs hini hA
  | 21, _ => exact le_21 ht hs hini hA
  | 22, _ => exact le_22 ht hs hini hA
  | 23, _ => exact le_23 ht hs hini hA
  | 24, _ => exact le_24 ht hs hini hA
  | 25, _ => exact le_25 ht hs hini hA
  | 26, _ => exact le_26 ht hs hini hA
  | 27, _ => exact le_27 ht hs hini hA
  | 28, _ => exact le_28 ht hs hini hA
  | 29, _ => exact le_29 ht hs hini hA
  | 30, _ => exact le_30 ht hs hini hA
  | n + 31, h => exact absurd h (by omega)
theorem le_el {b : Nat} {s : State} (hs : le_hs b s) : ∀ j, j < 31 → (Cond.eq (.elem (.static R_To "ALL" "[LNestPascal$Token;") (.int (Int32.ofNat j))) (.static R_To (nz_nm.getD j "") ns_d)).before #[Value.ref b] s = true := by
  intro i hi
  match i, hi with
  | 0, _ => exact hs (.eq (.elem (.static R_To "ALL" "[LNestPascal$Token;") (.int 0)) (.static R_To "VAR" ns_d)) (by decide +kernel)
  | 1, _ => exact hs (.eq (.elem (.static R_To "ALL" "[LNestPascal$Token;") (.int 1)) (.static R_To "PROC" ns_d)) (by decide +kernel)
  | 2, _ => exact hs (.eq (.elem (.static R_To "ALL" "[LNestPascal$Token;") (.int 2)) (.static R_To "ARRAY" ns_d)) (by decide +kernel)
  | 3, _ => exact hs (.eq (.elem (.static R_To "ALL" "[LNestPascal$Token;") (.int 3)) (.static R_To "BEGIN" ns_d)) (by decide +kernel)
  | 4, _ => exact hs (.eq (.elem (.static R_To "ALL" "[LNestPascal$Token;") (.int 4)) (.static R_To "END" ns_d)) (by decide +kernel)
  | 5, _ => exact hs (.eq (.elem (.static R_To "ALL" "[LNestPascal$Token;") (.int 5)) (.static R_To "IF" ns_d)) (by decide +kernel)
  | 6, _ => exact hs (.eq (.elem (.static R_To "ALL" "[LNestPascal$Token;") (.int 6)) (.static R_To "THEN" ns_d)) (by decide +kernel)
  | 7, _ => exact hs (.eq (.elem (.static R_To "ALL" "[LNestPascal$Token;") (.int 7)) (.static R_To "ELSE" ns_d)) (by decide +kernel)
  | 8, _ => exact hs (.eq (.elem (.static R_To "ALL" "[LNestPascal$Token;") (.int 8)) (.static R_To "WHILE" ns_d)) (by decide +kernel)
  | 9, _ => exact hs (.eq (.elem (.static R_To "ALL" "[LNestPascal$Token;") (.int 9)) (.static R_To "DO" ns_d)) (by decide +kernel)
  | 10, _ => exact hs (.eq (.elem (.static R_To "ALL" "[LNestPascal$Token;") (.int 10)) (.static R_To "WRITE" ns_d)) (by decide +kernel)
  | 11, _ => exact hs (.eq (.elem (.static R_To "ALL" "[LNestPascal$Token;") (.int 11)) (.static R_To "PLUS" ns_d)) (by decide +kernel)
  | 12, _ => exact hs (.eq (.elem (.static R_To "ALL" "[LNestPascal$Token;") (.int 12)) (.static R_To "MINUS" ns_d)) (by decide +kernel)
  | 13, _ => exact hs (.eq (.elem (.static R_To "ALL" "[LNestPascal$Token;") (.int 13)) (.static R_To "TIMES" ns_d)) (by decide +kernel)
  | 14, _ => exact hs (.eq (.elem (.static R_To "ALL" "[LNestPascal$Token;") (.int 14)) (.static R_To "OVER" ns_d)) (by decide +kernel)
  | 15, _ => exact hs (.eq (.elem (.static R_To "ALL" "[LNestPascal$Token;") (.int 15)) (.static R_To "EQUAL" ns_d)) (by decide +kernel)
  | 16, _ => exact hs (.eq (.elem (.static R_To "ALL" "[LNestPascal$Token;") (.int 16)) (.static R_To "UNEQUAL" ns_d)) (by decide +kernel)
  | 17, _ => exact hs (.eq (.elem (.static R_To "ALL" "[LNestPascal$Token;") (.int 17)) (.static R_To "LESS" ns_d)) (by decide +kernel)
  | 18, _ => exact hs (.eq (.elem (.static R_To "ALL" "[LNestPascal$Token;") (.int 18)) (.static R_To "GREATER" ns_d)) (by decide +kernel)
  | 19, _ => exact hs (.eq (.elem (.static R_To "ALL" "[LNestPascal$Token;") (.int 19)) (.static R_To "ROUND_OPEN" ns_d)) (by decide +kernel)
  | 20, _ => exact hs (.eq (.elem (.static R_To "ALL" "[LNestPascal$Token;") (.int 20)) (.static R_To "ROUND_CLOSE" ns_d)) (by decide +kernel)
  | 21, _ => exact hs (.eq (.elem (.static R_To "ALL" "[LNestPascal$Token;") (.int 21)) (.static R_To "SQUARE_OPEN" ns_d)) (by decide +kernel)
  | 22, _ => exact hs (.eq (.elem (.static R_To "ALL" "[LNestPascal$Token;") (.int 22)) (.static R_To "SQUARE_CLOSE" ns_d)) (by decide +kernel)
  | 23, _ => exact hs (.eq (.elem (.static R_To "ALL" "[LNestPascal$Token;") (.int 23)) (.static R_To "COMMA" ns_d)) (by decide +kernel)
  | 24, _ => exact hs (.eq (.elem (.static R_To "ALL" "[LNestPascal$Token;") (.int 24)) (.static R_To "SEMICOLON" ns_d)) (by decide +kernel)
  | 25, _ => exact hs (.eq (.elem (.static R_To "ALL" "[LNestPascal$Token;") (.int 25)) (.static R_To "PERIOD" ns_d)) (by decide +kernel)
  | 26, _ => exact hs (.eq (.elem (.static R_To "ALL" "[LNestPascal$Token;") (.int 26)) (.static R_To "BECOMES" ns_d)) (by decide +kernel)
  | 27, _ => exact hs (.eq (.elem (.static R_To "ALL" "[LNestPascal$Token;") (.int 27)) (.static R_To "NAME" ns_d)) (by decide +kernel)
  | 28, _ => exact hs (.eq (.elem (.static R_To "ALL" "[LNestPascal$Token;") (.int 28)) (.static R_To "NUMBER" ns_d)) (by decide +kernel)
  | 29, _ => exact hs (.eq (.elem (.static R_To "ALL" "[LNestPascal$Token;") (.int 29)) (.static R_To "TEXT_END" ns_d)) (by decide +kernel)
  | 30, _ => exact hs (.eq (.elem (.static R_To "ALL" "[LNestPascal$Token;") (.int 30)) (.static R_To "NO_TOKEN" ns_d)) (by decide +kernel)
  | n + 31, h => exact absurd h (by omega)
theorem le_sw {b : Nat} {s : State} (hs : le_hs b s) : ∀ j, j < 31 → (Cond.eq (.elem (.static "NestPascal$1" nz_mp "[I") (.int (Int32.ofNat j))) (.int (([0, 0, 0, 2, 0, 3, 0, 0, 4, 0, 5, 0, 0, 0, 0, 0, 0, 0, 0, 7, 0, 0, 0, 0, 0, 0, 0, 1, 6, 0, 0] : List Int32).getD j 0))).before #[Value.ref b] s = true := by
  intro i hi
  match i, hi with
  | 0, _ => exact hs (.eq (.elem (.static "NestPascal$1" nz_mp "[I") (.int 0)) (.int 0)) (by decide +kernel)
  | 1, _ => exact hs (.eq (.elem (.static "NestPascal$1" nz_mp "[I") (.int 1)) (.int 0)) (by decide +kernel)
  | 2, _ => exact hs (.eq (.elem (.static "NestPascal$1" nz_mp "[I") (.int 2)) (.int 0)) (by decide +kernel)
  | 3, _ => exact hs (.eq (.elem (.static "NestPascal$1" nz_mp "[I") (.int 3)) (.int 2)) (by decide +kernel)
  | 4, _ => exact hs (.eq (.elem (.static "NestPascal$1" nz_mp "[I") (.int 4)) (.int 0)) (by decide +kernel)
  | 5, _ => exact hs (.eq (.elem (.static "NestPascal$1" nz_mp "[I") (.int 5)) (.int 3)) (by decide +kernel)
  | 6, _ => exact hs (.eq (.elem (.static "NestPascal$1" nz_mp "[I") (.int 6)) (.int 0)) (by decide +kernel)
  | 7, _ => exact hs (.eq (.elem (.static "NestPascal$1" nz_mp "[I") (.int 7)) (.int 0)) (by decide +kernel)
  | 8, _ => exact hs (.eq (.elem (.static "NestPascal$1" nz_mp "[I") (.int 8)) (.int 4)) (by decide +kernel)
  | 9, _ => exact hs (.eq (.elem (.static "NestPascal$1" nz_mp "[I") (.int 9)) (.int 0)) (by decide +kernel)
  | 10, _ => exact hs (.eq (.elem (.static "NestPascal$1" nz_mp "[I") (.int 10)) (.int 5)) (by decide +kernel)
  | 11, _ => exact hs (.eq (.elem (.static "NestPascal$1" nz_mp "[I") (.int 11)) (.int 0)) (by decide +kernel)
  | 12, _ => exact hs (.eq (.elem (.static "NestPascal$1" nz_mp "[I") (.int 12)) (.int 0)) (by decide +kernel)
  | 13, _ => exact hs (.eq (.elem (.static "NestPascal$1" nz_mp "[I") (.int 13)) (.int 0)) (by decide +kernel)
  | 14, _ => exact hs (.eq (.elem (.static "NestPascal$1" nz_mp "[I") (.int 14)) (.int 0)) (by decide +kernel)
  | 15, _ => exact hs (.eq (.elem (.static "NestPascal$1" nz_mp "[I") (.int 15)) (.int 0)) (by decide +kernel)
  | 16, _ => exact hs (.eq (.elem (.static "NestPascal$1" nz_mp "[I") (.int 16)) (.int 0)) (by decide +kernel)
  | 17, _ => exact hs (.eq (.elem (.static "NestPascal$1" nz_mp "[I") (.int 17)) (.int 0)) (by decide +kernel)
  | 18, _ => exact hs (.eq (.elem (.static "NestPascal$1" nz_mp "[I") (.int 18)) (.int 0)) (by decide +kernel)
  | 19, _ => exact hs (.eq (.elem (.static "NestPascal$1" nz_mp "[I") (.int 19)) (.int 7)) (by decide +kernel)
  | 20, _ => exact hs (.eq (.elem (.static "NestPascal$1" nz_mp "[I") (.int 20)) (.int 0)) (by decide +kernel)
  | 21, _ => exact hs (.eq (.elem (.static "NestPascal$1" nz_mp "[I") (.int 21)) (.int 0)) (by decide +kernel)
  | 22, _ => exact hs (.eq (.elem (.static "NestPascal$1" nz_mp "[I") (.int 22)) (.int 0)) (by decide +kernel)
  | 23, _ => exact hs (.eq (.elem (.static "NestPascal$1" nz_mp "[I") (.int 23)) (.int 0)) (by decide +kernel)
  | 24, _ => exact hs (.eq (.elem (.static "NestPascal$1" nz_mp "[I") (.int 24)) (.int 0)) (by decide +kernel)
  | 25, _ => exact hs (.eq (.elem (.static "NestPascal$1" nz_mp "[I") (.int 25)) (.int 0)) (by decide +kernel)
  | 26, _ => exact hs (.eq (.elem (.static "NestPascal$1" nz_mp "[I") (.int 26)) (.int 0)) (by decide +kernel)
  | 27, _ => exact hs (.eq (.elem (.static "NestPascal$1" nz_mp "[I") (.int 27)) (.int 1)) (by decide +kernel)
  | 28, _ => exact hs (.eq (.elem (.static "NestPascal$1" nz_mp "[I") (.int 28)) (.int 6)) (by decide +kernel)
  | 29, _ => exact hs (.eq (.elem (.static "NestPascal$1" nz_mp "[I") (.int 29)) (.int 0)) (by decide +kernel)
  | 30, _ => exact hs (.eq (.elem (.static "NestPascal$1" nz_mp "[I") (.int 30)) (.int 0)) (by decide +kernel)
  | n + 31, h => exact absurd h (by omega)
theorem lw_ne {s : State} {args : Array Value} {n1 n2 : String} {t1 t2 : Nat} {z1 z2 : Int32} (h1 : (Term.static R_To n1 ns_d).eval args s none [] s = some (.ref t1)) (h2 : (Term.static R_To n2 ns_d).eval args s none [] s = some (.ref t2))
    (o1 : (Cond.eq (.field (.static R_To n1 ns_d) "java/lang/Enum" "ordinal" "I") (.int z1)).before args s = true) (o2 : (Cond.eq (.field (.static R_To n2 ns_d) "java/lang/Enum" "ordinal" "I") (.int z2)).before args s = true) (hz : z1 ≠ z2) : t1 ≠ t2 := by
  intro e
  have a1 := va_eqt o1
  have a2 := va_eqt o2
  rw [va_fe h1] at a1
  rw [va_fe h2] at a2
  rw [e, a2] at a1
  exact hz (Value.int.inj (Option.some.inj a1)).symm
theorem lw_E {b : Nat} {s : State} (ht : ∀ w ∈ lw_tbl, w.before #[Value.ref b] s = true) (hv : (Jvm.Cond.and given_1 narrow_1).before #[Value.ref b] s = true) : ∃ tk : Nat → Nat, nz_E tk (fun q => s.heap.size ≤ q) s s.heap := by
  have hs : le_hs b s := flat_of_before _ hv
  have hA : ∀ a : Nat, a < s.heap.size → ¬ s.heap.size ≤ a := fun a h => by omega
  have hini : (Cond.initialized R_To).before #[Value.ref b] s = true := ht _ (List.mem_of_getElem? (i := 96) (by decide +kernel))
  have hiniT : (Cond.initialized ns_Th).before #[Value.ref b] s = true := ht _ (List.mem_of_getElem? (i := 102) (by decide +kernel))
  have hini1 : (Cond.initialized "NestPascal$1").before #[Value.ref b] s = true := ht _ (List.mem_of_getElem? (i := 106) (by decide +kernel))
  have hiniS : (Cond.initialized nz_str).before #[Value.ref b] s = true := ht _ (List.mem_of_getElem? (i := 97) (by decide +kernel))
  have hiniP : (Cond.initialized nz_pc).before #[Value.ref b] s = true := ht _ (List.mem_of_getElem? (i := 99) (by decide +kernel))
  have h31 : ∀ i : Nat, ∃ q : Nat × Nat × Nat × Nat, i < 31 → le_Q b i q (fun q => s.heap.size ≤ q) s := fun i => by
    by_cases hi : i < 31
    · obtain ⟨q, hq⟩ := le_all ht hs hini hA i hi; exact ⟨q, fun _ => hq⟩
    · exact ⟨(0, 0, 0, 0), fun h => absurd h hi⟩
  obtain ⟨aq, haq⟩ := Classical.axiomOfChoice h31
  have hlenA : (Term.length (.static R_To "ALL" "[LNestPascal$Token;")).eval #[Value.ref b] s none [] s = some (.int (Int32.ofNat 31)) := va_eqt (hs (.eq (.length (.static R_To "ALL" "[LNestPascal$Token;")) (.int 31)) (by decide +kernel))
  obtain ⟨tA, eA, hTA⟩ := va_Tof (tm := (.static R_To "ALL" "[LNestPascal$Token;")) (ty := .object "NestPascal$Token") (N := 31) (f := fun j => .ref (aq j).1) (A := fun q => s.heap.size ≤ q) (by decide) (hs (.arrayOf (.static R_To "ALL" "[LNestPascal$Token;") (.object "NestPascal$Token")) (by decide +kernel)) hlenA (fun j hj => le_eqr (le_el hs j hj) (haq j hj).1) hA
  have hlenS : (Term.length (.static "NestPascal$1" nz_mp "[I")).eval #[Value.ref b] s none [] s = some (.int (Int32.ofNat 31)) := va_eqt (hs (.eq (.length (.static "NestPascal$1" nz_mp "[I")) (.int 31)) (by decide +kernel))
  obtain ⟨tS, eS, hTS⟩ := va_Tof (tm := (.static "NestPascal$1" nz_mp "[I")) (ty := .int) (N := 31) (f := fun j => .int (([0, 0, 0, 2, 0, 3, 0, 0, 4, 0, 5, 0, 0, 0, 0, 0, 0, 0, 0, 7, 0, 0, 0, 0, 0, 0, 0, 1, 6, 0, 0] : List Int32).getD j 0)) (A := fun q => s.heap.size ≤ q) (by decide) (hs (.arrayOf (.static "NestPascal$1" nz_mp "[I") .int) (by decide +kernel)) hlenS (fun j hj => va_eqt (le_sw hs j hj)) hA
  have lU : (Cond.laysStatic ns_Th "UNASSIGNED_STACK" ns_sD).before #[Value.ref b] s = true := ht _ (List.mem_of_getElem? (i := 576) (by decide +kernel))
  have lS : (Cond.laysStatic ns_Th "SUPPRESSED_SENTINEL" ns_lD).before #[Value.ref b] s = true := ht _ (List.mem_of_getElem? (i := 578) (by decide +kernel))
  have rU := hs (.isRef (.static ns_Th "UNASSIGNED_STACK" ns_sD)) (by decide +kernel)
  have rS := hs (.isRef (.static ns_Th "SUPPRESSED_SENTINEL" ns_lD)) (by decide +kernel)
  have o0 := hs (.eq (.field (.static R_To "TEXT_END" ns_d) "java/lang/Enum" "ordinal" "I") (.int 29)) (by decide +kernel)
  have e0 : (Term.static R_To "TEXT_END" ns_d).eval #[Value.ref b] s none [] s = some (.ref (aq 29).1) := (haq 29 (by decide)).1
  have o1 := hs (.eq (.field (.static R_To "VAR" ns_d) "java/lang/Enum" "ordinal" "I") (.int 0)) (by decide +kernel)
  have e1 : (Term.static R_To "VAR" ns_d).eval #[Value.ref b] s none [] s = some (.ref (aq 0).1) := (haq 0 (by decide)).1
  have o2 := hs (.eq (.field (.static R_To "PROC" ns_d) "java/lang/Enum" "ordinal" "I") (.int 1)) (by decide +kernel)
  have e2 : (Term.static R_To "PROC" ns_d).eval #[Value.ref b] s none [] s = some (.ref (aq 1).1) := (haq 1 (by decide)).1
  have o3 := hs (.eq (.field (.static R_To "BEGIN" ns_d) "java/lang/Enum" "ordinal" "I") (.int 3)) (by decide +kernel)
  have e3 : (Term.static R_To "BEGIN" ns_d).eval #[Value.ref b] s none [] s = some (.ref (aq 3).1) := (haq 3 (by decide)).1
  obtain ⟨cT, kT, fT, hkT, hoT, -⟩ := Cond.instantiable_spec (ht (.instantiable R_To 5) (List.mem_of_getElem? (i := 437) (by decide +kernel)))
  refine ⟨le_tk aq tA tS, ⟨(haq 29 (by decide)).2.1, (haq 0 (by decide)).2.1, (haq 1 (by decide)).2.1, (haq 3 (by decide)).2.1, (haq 29 (by decide)).2.2.1, ⟨lw_ne e0 e1 o0 o1 (by decide), lw_ne e0 e2 o0 o2 (by decide), lw_ne e0 e3 o0 o3 (by decide)⟩, ⟨ns_La.of lU hA, ns_La.of lS hA⟩, va_Zqof lU hiniT rU hA, va_Zqof lS hiniT rS hA, va_Nw.of rfl (ht _ (List.mem_of_getElem? (i := 551) (by decide +kernel))), ⟨va_Nw.of rfl (ht _ (List.mem_of_getElem? (i := 552) (by decide +kernel))), va_Nw.of rfl (ht _ (List.mem_of_getElem? (i := 554) (by decide +kernel))), va_Nw.of rfl (ht _ (List.mem_of_getElem? (i := 556) (by decide +kernel)))⟩, fun c hc => ?_⟩, fun i hi => ?_, ⟨?_, ?_⟩, ⟨?_, ?_⟩, ?_, ?_, fun q hq => ?_⟩
  · have ec : cT = c := Option.some.inj (fT.symm.trans hc)
    subst ec
    exact va_assign ⟨fT, kT, hkT, hoT⟩
  · obtain ⟨g0, g1, g2, g3, g4, g5, g6, g7, g8, g9, f, g10⟩ := haq i hi
    have r0 : le_tk aq tA tS i = (aq i).1 := le_tk0 hi
    have r1 : le_tk aq tA tS (31 + i) = (aq i).2.1 := le_tk1 hi
    have r2 : le_tk aq tA tS (62 + i) = (aq i).2.2.1 := le_tk2 hi
    have r3 : le_tk aq tA tS (141 + i) = (aq i).2.2.2 := le_tk3 hi
    unfold nz_T
    rw [r0, r1, r2, r3]
    exact ⟨g1, g2, g3, g4, g5, g6, g7, g8, g9, f, g10⟩
  · exact va_Zref (ht _ (List.mem_of_getElem? (i := 433) (by decide +kernel))) hini eA hA
  · obtain ⟨cell, w1, w2, w3, w4, w5, w6, w7⟩ := hTA
    exact ⟨cell, w1, w2, w3, w4, w5, fun j hj => (w6 j hj).trans (by show some (Value.ref (aq j).1) = some (Value.ref (le_tk aq tA tS j)); rw [le_tk0 hj]), w7⟩
  · exact va_Zref (ht _ (List.mem_of_getElem? (i := 682) (by decide +kernel))) hini1 eS hA
  · exact ⟨_, hTS⟩
  · exact va_Zof (ht _ (List.mem_of_getElem? (i := 448) (by decide +kernel))) hiniS (va_eqt (hs (.eq (.static nz_str "COMPACT_STRINGS" "Z") (.int 1)) (by decide +kernel))) hA
  · exact va_Zqof (ht _ (List.mem_of_getElem? (i := 464) (by decide +kernel))) hiniP (hs (.isRef (.static nz_pc "SIOOBE_FORMATTER" nz_bf)) (by decide +kernel)) hA
  · simp only [nz_nl, List.mem_cons, List.not_mem_nil, or_false] at hq
    rcases hq with rfl | rfl | rfl | rfl | rfl | rfl | rfl | rfl | rfl
    · exact va_Nw.of rfl (ht _ (List.mem_of_getElem? (i := 163) (by decide +kernel)))
    · exact va_Nw.of rfl (ht _ (List.mem_of_getElem? (i := 165) (by decide +kernel)))
    · exact va_Nw.of rfl (ht _ (List.mem_of_getElem? (i := 166) (by decide +kernel)))
    · exact va_Nw.of rfl (ht _ (List.mem_of_getElem? (i := 168) (by decide +kernel)))
    · exact va_Nw.of rfl (ht _ (List.mem_of_getElem? (i := 169) (by decide +kernel)))
    · exact va_Nw.of rfl (ht _ (List.mem_of_getElem? (i := 171) (by decide +kernel)))
    · exact va_Nw.of rfl (ht _ (List.mem_of_getElem? (i := 172) (by decide +kernel)))
    · exact va_Nw.of rfl (ht _ (List.mem_of_getElem? (i := 174) (by decide +kernel)))
    · exact va_Nw.of rfl (ht _ (List.mem_of_getElem? (i := 175) (by decide +kernel)))
