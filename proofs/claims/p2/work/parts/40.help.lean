/-! contracts (by wip/p1/gen.py) -/
/-! a world in two parts, of which a call has one; a call that may throw, under the one entry of the caller's table -/
theorem nl_rg (Z : va_W) : (List.range Z.length).map (fun i => Z[i]?) = Z.map some := by
  apply List.ext_getElem?
  intro j
  rw [List.getElem?_map, List.getElem?_map]
  by_cases h : j < Z.length
  · rw [List.getElem?_range h, List.getElem?_eq_getElem h]
    show some (Z[j]?) = some (some Z[j])
    rw [List.getElem?_eq_getElem h]
  · rw [List.getElem?_eq_none (by rw [List.length_range]; omega), List.getElem?_eq_none (by omega)]
    rfl
theorem nl_sP {D : va_G} {cl : List vw_C} {X Z : va_W} {H : Heap} (h : va_P D cl (X ++ Z) H) : va_P D cl (Z ++ X) H := va_P.swap (a := []) (b := X) (c := Z) h
theorem nl_sD {A : Nat → Prop} {X Z : va_W} (h : va_D A (X ++ Z)) : va_D A (Z ++ X) := va_D.swap (a := []) (b := X) (c := Z) h
/-- the first part of a world by itself -/
theorem nl_fst {A : Nat → Prop} {D : va_G} {cl : List vw_C} {X Z : va_W} {H0 H : Heap} {locs : List Loc} (hP : va_P D cl (X ++ Z) H) (hD : va_D A (X ++ Z)) (hS : va_S A H0 H locs) (hA : ∀ q, H0.size ≤ q → A q) : va_P D cl X H ∧ va_D A X ∧ ∀ q, va_A X H.size q → A q := by
  have hg : ∀ (k : Nat) (q : Nat × va_E), X[k]? = some q → (X ++ Z)[k]? = some q := fun k q hk => by
    rw [List.getElem?_append_left (List.getElem?_eq_some_iff.mp hk).1]; exact hk
  refine ⟨hP.by id hg, hD.by id hg (fun i j _ _ e => e), fun q h => ?_⟩
  rcases h with ⟨k, e, h⟩ | h
  · exact hD.2 k _ (hg k _ h)
  · exact hA q (Nat.le_trans hS.1 h)
theorem nl_joinF {A0 : Nat → Prop} {D : va_G} {cl : List vw_C} {X X1 Z : va_W} {H H1 : Heap} (hP : va_P D cl (X ++ Z) H) (hD : va_D A0 (X ++ Z))
    (hk : ∀ q : Nat, q < H.size → ¬ va_A X H.size q → H1[q]? = H[q]?) (hF : ∀ q, va_A X H.size q → A0 q) (hP1 : va_P D cl X1 H1) (hD1 : va_D (va_A X H.size) X1) : va_P D cl (X1 ++ Z) H1 ∧ va_D A0 (X1 ++ Z) :=
  va_joinQ (X := X) (cx := X) (wr := []) (w1 := X1) (pl := Z) hP hD (List.range X.length) [] (nl_rg X) rfl rfl (fun _ h => absurd h List.not_mem_nil) hk hF hP1 hD1
/-- the last part of a world by itself -/
theorem nl_lst {A : Nat → Prop} {D : va_G} {cl : List vw_C} {X Z : va_W} {H0 H : Heap} {locs : List Loc} (hP : va_P D cl (X ++ Z) H) (hD : va_D A (X ++ Z)) (hS : va_S A H0 H locs) (hA : ∀ q, H0.size ≤ q → A q) : va_P D cl Z H ∧ va_D A Z ∧ ∀ q, va_A Z H.size q → A q := nl_fst (nl_sP hP) (nl_sD hD) hS hA
theorem nl_joinL {A0 : Nat → Prop} {D : va_G} {cl : List vw_C} {X Z Z1 : va_W} {H H1 : Heap} (hP : va_P D cl (X ++ Z) H) (hD : va_D A0 (X ++ Z))
    (hk : ∀ q : Nat, q < H.size → ¬ va_A Z H.size q → H1[q]? = H[q]?) (hF : ∀ q, va_A Z H.size q → A0 q) (hP1 : va_P D cl Z1 H1) (hD1 : va_D (va_A Z H.size) Z1) : va_P D cl (X ++ Z1) H1 ∧ va_D A0 (X ++ Z1) := by
  obtain ⟨h1, h2⟩ := nl_joinF (nl_sP hP) (nl_sD hD) hk hF hP1 hD1
  exact ⟨nl_sP h1, nl_sD h2⟩
theorem nl_tab {p : Program} {l : Launch} {x : MethodName} {S : Spec} {bc : ByteArray} {n : Nat} {rt : Option FieldType} {e : Env} {s : State} {m : MethodId} {args : Array Value} {below : List Frame} {meth : Method} {c : Code} {s₁ : State} {h1 h2 h3 h4 : Nat}
    (B : BodyLoose p l x S bc n rt e s m args below meth c s₁) (h : (Cond.codeWith x bc n rt [(h1, h2, h3, h4)]).before args s = true) : ∃ x0 : ExceptionTableEntry, c.exceptionTable.toList = [x0] ∧ x0.startPc = h1 ∧ x0.endPc = h2 ∧ x0.handlerPc = h3 ∧ x0.catchType = h4 := by
  obtain ⟨m', meth', c', hn', hm', hc', -, -, ht, -⟩ := Cond.codeWith_spec h
  cases B.named.symm.trans hn'
  cases B.method.symm.trans hm'
  cases (Stand.of_body B).code.symm.trans hc'
  match hl : c.exceptionTable.toList, ht with
  | [x0], ht =>
    simp only [List.map_cons, List.map_nil, List.cons.injEq, Prod.mk.injEq, and_true] at ht
    exact ⟨x0, rfl, ht.1, ht.2.1, ht.2.2.1, ht.2.2.2⟩
abbrev w_La_compile : List Cond := .codeWith y_La_compile b_La_compile 3 (some .int) [(0, 8, 11, 13)] :: nn_gw
abbrev w_La_run : List Cond := .codeWith y_La_run b_La_run 4 (some .int) [(0, 9, 12, 13)] :: nn_gw
section NL3
variable {p : Program} {l : Launch} {e : Env} {R : Room} {s : State} {m : MethodId} {args : Array Value} {below : List Frame} {meth : Method} {c : Code} {H : Heap} {locs : List Loc} {cells slots : Nat}
/-- a static call of a method that has handlers -/
theorem nl_runSW {y : MethodName} {bytes cc : ByteArray} {maxL nL mc ms n index : Nat} {ret : Option FieldType} {hh : List (Nat × Nat × Nat × Nat)} {rm : Room} {Pc : Array Value → State → Prop} {Qc : Array Value → State → Outcome → State → Prop} {free : Addr → Prop} {c1 : Cond} {own : String} {As rest : List Value} {g : JFrame}
    (S : CallFix p m c cc nL s args (c1 :: nn_gw) own) (hM : Met l y (Cond.codeWith y bytes maxL ret hh :: nn_gw) rm Pc Qc mc ms free) (hrc : rm.cells = mc) (hrs : rm.slots = ms) (hR : rm.frames + 1 ≤ R.frames ∧ 8 + (maxL + 11) + rm.locals ≤ R.locals)
    (hcm : Cond.codeWith y bytes maxL ret hh ∈ nn_gw) (hlm : Cond.methodLink own index y ∈ nn_gw) (hsm : Cond.static y ∈ nn_gw) (him : Cond.initialized y.cls ∈ nn_gw)
    (hd : y.cls ≠ "java/lang/invoke/MethodHandle" ∧ y.cls ≠ "java/lang/invoke/VarHandle" ∧ (parseMethodDescriptor y.desc).map (fun d => d.parameters.length) = some n) (hp : PreS s H Pc As)
    (hg : g.method = m) (hn : As.length = n) (hsize : g.locals.size = nL) (hstack : g.stack = As.reverse ++ rest) (hW : 2 * g.monitorRoom + (rest.map fun v => v.category).sum ≤ 8) (hdg : decode cc g.pc = .ok (.invokestatic index, 3)) (hf : cells + mc ≤ R.cells ∧ slots + ms ≤ R.slots) :
    va_Run p l e R s m args below meth c H locs cells slots mc ms g rest (Qc As.toArray) free := by
  obtain ⟨hx, hb, hml, ho, hts⟩ := S
  have hgw : ∀ w ∈ nn_gw, w.before args s = true := fun w h => hts w (List.mem_cons_of_mem _ h)
  have hcode := hgw _ hcm
  have hini := hgw _ him
  have hws : ∀ w ∈ (Cond.codeWith y bytes maxL ret hh :: nn_gw), ∀ (a' : Array Value) (U : State), s.WarmedH U.vm → w.before a' U = true := pay_in hts (nn_gd hcm)
  have hK : Back l R p e below s args y 3 8 (PreOf R mc ms Pc) (PostOf Qc mc ms free) := va_backW (hh := hh) hM hp.1 hrc hrs hR.1 hR.2 hws List.mem_cons_self (fun a' U hW => word_at hW (Or.inl (by first | rfl | simp [Cond.onTables, Cond.keeps, Cond.steady])) hini)
  intro T hT X
  obtain ⟨mk, methM, cM, hnamed, hmethM, -, -, -, -, -, -, hsigM⟩ := Cond.codeWith_spec hcode
  have hstatic : methM.isStatic = true := Cond.static_spec hnamed hmethM (hgw _ hsm)
  obtain ⟨kP, hkP, -⟩ := className_of_methodNamed hnamed
  have hinitP : kP.init = .initialized := Cond.initialized_spec (findClass_of_methodNamed hnamed) hkP hini
  have hlenM : As.length = methM.sig.parameters.length := by
    have h2 := hd.2.2
    rw [hsigM] at h2
    exact hn.trans (Option.some.inj h2).symm
  obtain ⟨vm₁, X₁, hstep₁⟩ := X.invokestatic hx ho (hgw _ hlm) hnamed hmethM hstatic hkP hinitP ⟨hd.1, hd.2.1⟩ (g := g) hg (argsL := As) (rest := rest) hlenM hstack (by rw [hb]; exact hdg)
  obtain ⟨v, B, X', hpost, hsteps⟩ := hK m meth c ⟨T.setVm vm₁, locs, cells, slots⟩ { g with stack := rest } (.invokestatic index) mk As.toArray X₁ hg (hsize.trans hml.symm) (by rw [hb]; exact hdg) hW (X₁.named hnamed) ⟨hf.1, hf.2, hp.2 (T.setVm vm₁) hT X₁.warmed⟩
  obtain ⟨U', l2, c2, s2⟩ := B
  obtain ⟨g', mk', t, L, e1, e2, hq, h1, hL, h2, h3⟩ := hpost
  dsimp only [Pt.U, Pt.locs, Pt.cells, Pt.slots] at X' e1 e2 h1 h2 h3 hsteps
  subst h1; subst h2; subst h3
  exact ⟨v, (T.setVm vm₁).calling g' mk' As.toArray, t, U', L, hT, X', hL, e1, e2, hq, fun tg h => hstep₁ _ fun acts => by rw [doInvoke_state]; exact hsteps.trans h⟩
variable {mc ms : Nat} {free : Addr → Prop} {rest : List Value} {Qx : Heap → Prop} {A1 : Nat → Prop} {Q : State → Prop}
variable {pc : Nat} {ls : Array Slot} {st0 : List Value} {a : Array Value} {A0 : Nat → Prop} {own : String}
theorem nx_catchi {S : Type} {post : Int32 → S → Prop} {B : S → State → Prop} {x0 : ExceptionTableEntry} (hr : nx_Run p l e R s m args below meth c H locs cells slots mc ms (F0 m pc ls st0) rest (va_Qi post B A1 a) Qx A1 free)
    (hS : va_S A0 s.heap H locs) (hA : ∀ q, q < H.size → A1 q → A0 q) (hf : ∀ q, free q → A0 q)
    (htab : c.exceptionTable.toList = [x0]) (hcov : covers x0 pc = true) (h0 : x0.catchType ≠ 0) (hown : s.vm.findClass own = some m.cls) (hlink : (Cond.classLink own x0.catchType nt_IAE).before args s = true) (hcast : (Cond.castable nt_IAE nt_IAE).before args s = true)
    (kx : ∀ (x : Nat) (H1 : Heap) (locs1 : List Loc), Qx H1 → H.size ≤ H1.size → (∀ q : Nat, q < H.size → ¬ A1 q → H1[q]? = H[q]?) → va_S A0 s.heap H1 locs1 → W p l e R s m args below meth c H1 locs1 (cells + mc) (slots + ms) Q (F0 m x0.handlerPc ls [.ref x]))
    (kk : ∀ (r : Int32) (u : S) (t : State) (H1 : Heap) (locs1 : List Loc), t.heap = H1 → s.vm.Alike t.vm → post r u → B u t → H.size ≤ H1.size → (∀ q : Nat, q < H.size → ¬ A1 q → H1[q]? = H[q]?) → va_S A0 s.heap H1 locs1 → W p l e R s m args below meth c H1 locs1 cells slots Q (F0 m (pc + 3) ls (.int r :: rest))) :
    W p l e R s m args below meth c H locs cells slots Q (F0 m pc ls st0) := by
  intro T hT X
  have hSn : ∀ (T' : State) (L : List Loc), H.size ≤ T'.heap.size → (∀ q : Nat, q < H.size → ¬ A1 q → T'.heap[q]? = H[q]?) → (∀ q ∈ L, free q.base) → va_S A0 s.heap T'.heap (locs ++ L) := fun T' L hz hk hL =>
    ⟨Nat.le_trans hS.1 hz, fun q h1 h2 => by rw [hk q (Nat.lt_of_lt_of_le h1 hS.1) (fun z => h2 (hA q (Nat.lt_of_lt_of_le h1 hS.1) z))]; exact hS.2.1 q h1 h2, fun q hq => by
      rcases List.mem_append.mp hq with h | h
      · exact hS.2.2 q h
      · exact hf _ (hL q h)⟩
  rcases hr T hT X with ⟨v, st₀, t, T', L, h0', X', hL, e1, e2, hQ, st⟩ | ⟨x, T', L, X', hL, hX, hQx, hz, hk, st⟩
  · obtain ⟨⟨r, u, hv, g1, g2⟩, hz, hk⟩ := hQ
    cases hv
    rw [h0', ← e1] at hz hk
    obtain ⟨t2, a1, b1⟩ := kk r u t T'.heap (locs ++ L) e1.symm (by rw [← e2]; exact X'.warmed.alike) g1 g2 hz hk (hSn T' L hz hk hL) T' rfl X'
    exact ⟨t2, st t2 a1, b1⟩
  · have hSS := hSn T' L hz hk hL
    obtain ⟨cell, h1, h2, h3⟩ := hX
    have hal := X'.warmed.alike
    have hcs : s.vm.findClass nt_IAE = some cell.cls := by rw [← hal.findClass]; exact h3
    have hpl : e.platform.magicAccessors = ({} : Platform).magicAccessors := by rw [X'.admits.platform]
    obtain ⟨c', hc', hcl⟩ := Cond.classLink_spec hown hlink e.platform hpl
    have e0 : cell.cls = c' := Option.some.inj (hcs.symm.trans hc')
    subst e0
    obtain ⟨dk, _, _, kt, hd, _, _, _, _, hkt, _, hopen⟩ := hcl.here
    have hcl₀ := X'.warmed.classLinks hcl
    have hW' : s.WarmedH (T'.vm.noted m.cls x0.catchType (.cls cell.cls)) := X'.warmed.noted hd hopen (State.rightAt_cls hcl)
    obtain ⟨c3, c4, w1, w2, w3⟩ := Cond.castable_spec hcast
    have e1 : cell.cls = c3 := Option.some.inj (hcs.symm.trans w1)
    have e2 : cell.cls = c4 := Option.some.inj (hcs.symm.trans w2)
    subst e1
    subst e2
    obtain ⟨kt', hkt', -⟩ := hal.2.2 _ _ hkt
    have hfit' : T'.vm.assignable cell.cls cell.cls = true := by rw [hal.assignable]; exact w3
    have X₂ := X'.noted hW'
    obtain ⟨t, a1, b1⟩ := kx x T'.heap (locs ++ L) hQx hz hk hSS (T'.setVm (T'.vm.noted m.cls x0.catchType (.cls cell.cls))) rfl X₂
    refine ⟨t, st t ?_, b1⟩
    refine nt_caught (g := { F0 m pc ls st0 with stack := rest }) X'.here (pc := x0.handlerPc) (vm' := T'.vm.noted m.cls x0.catchType (.cls cell.cls)) ?_ a1
    intro Q' E d acts
    exact nt_find (u := (T'.setTop { F0 m pc ls st0 with stack := rest }).pushFrame (.throwing x)) (f := { F0 m pc ls st0 with stack := rest }) (meth := meth) (code := c) X'.method' X'.code htab hcov h0 (cT := cell.cls) (cell := cell) hcl₀ h1 (fun k hk => by rw [hk] at h2; cases h2) ⟨kt', hkt'⟩ ⟨kt', hkt'⟩ hfit' Q' E d acts
end NL3


abbrev nc_l (a : Nat) (t : ClassId) (n : Nat) (f : Nat → Int64) : Nat × va_E := (a, .inl (t, n, .inr (.inl f)))
abbrev nK : Type := (Nat → Int32) × Nat × (Nat → Option Nat) × (Nat → Int32) × (Nat → Int32) × (Nat → Int32) × (Nat → Int32) × (Nat → Int32) × (Nat → Int32) × Nat × Nat × Nat × Nat × Nat × Nat × Int32 × Int32 × (Nat → Nat → Int32) × (Nat → Int32) × (Nat → Int32) × Int32 × Int32 × Int32 × Int32 × Int32 × Nat × (Nat → Int32) × (Nat → Int32) × (Nat → Int32) × Nat × (Nat → Int64)
/-- the class's cells (and the law's row of one long), by the values in them -/
abbrev nk_X (G : nn_G) (h9 h1 h0 x1 x2 y1 y2 y3 tx ou : Nat) (ad dn : Nat → Nat) (z : nK) : va_W := [nc_o h9 0 [.ref tx, .int (nI z.2.1), .ref (ad 0), .ref h1, .ref h0], nc_o h0 3 [.ref x1, .ref x2, .int z.2.2.2.2.2.2.2.2.2.2.2.2.2.2.2.2.2.2.2.2.1, .int z.2.2.2.2.2.2.2.2.2.2.2.2.2.2.2.2.2.2.2.2.2.1, .int z.2.2.2.2.2.2.2.2.2.2.2.2.2.2.2.2.2.2.2.2.2.2.1, .int z.2.2.2.2.2.2.2.2.2.2.2.2.2.2.2.2.2.2.2.2.2.2.2.1, .int z.2.2.2.2.2.2.2.2.2.2.2.2.2.2.2.2.2.2.2.2.2.2.2.2.1, .int (nI z.2.2.2.2.2.2.2.2.2.2.2.2.2.2.2.2.2.2.2.2.2.2.2.2.2.1)], nc_i x1 (G.2 0) 200 z.2.2.2.2.2.2.2.2.2.2.2.2.2.2.2.2.2.2.1, nc_i x2 (G.2 0) 8 z.2.2.2.2.2.2.2.2.2.2.2.2.2.2.2.2.2.2.2.1, nc_o h1 1 [.ref y1, .ref y2, .ref y3, .int (nI z.2.2.2.2.2.2.2.2.2.2.2.2.2.2.2.2.2.2.2.2.2.2.2.2.2.2.2.2.2.1)], nc_i y1 (G.2 0) 180 z.2.2.2.2.2.2.2.2.2.2.2.2.2.2.2.2.2.2.2.2.2.2.2.2.2.2.1, nc_i y2 (G.2 0) 180 z.2.2.2.2.2.2.2.2.2.2.2.2.2.2.2.2.2.2.2.2.2.2.2.2.2.2.2.1, nc_i y3 (G.2 0) 180 z.2.2.2.2.2.2.2.2.2.2.2.2.2.2.2.2.2.2.2.2.2.2.2.2.2.2.2.2.1, nc_i tx (G.2 1) 180 z.1, nc_o (ad 0) 2 [.ref (ad 1), .ref (ad 5), .ref (ad 8), .int (nI z.2.2.2.2.2.2.2.2.2.2.2.2.2.2.1), .int z.2.2.2.2.2.2.2.2.2.2.2.2.2.2.2.1, .int z.2.2.2.2.2.2.2.2.2.2.2.2.2.2.2.2.1], nc_o (ad 1) 6 [.ref (ad 2), .ref (ad 3), .ref (ad 4), .int (nI z.2.2.2.2.2.2.2.2.2.1), .int (nI z.2.2.2.2.2.2.2.2.2.2.1)], nc_q (ad 2) (G.2 3) 181 z.2.2.1, nc_i (ad 3) (G.2 0) 181 z.2.2.2.1, nc_i (ad 4) (G.2 0) 181 z.2.2.2.2.1, nc_o (ad 5) 5 [.ref (ad 6), .int (nI z.2.2.2.2.2.2.2.2.2.2.2.1), .ref (ad 7), .int (nI z.2.2.2.2.2.2.2.2.2.2.2.2.1)], nc_q (ad 6) (G.2 4) 90 (fun j => some (dn j)), nc_i (ad 7) (G.2 0) 5 z.2.2.2.2.2.1, nc_o (ad 8) 1 [.ref (ad 9), .ref (ad 10), .ref (ad 11), .int (nI z.2.2.2.2.2.2.2.2.2.2.2.2.2.1)], nc_i (ad 9) (G.2 0) 180 z.2.2.2.2.2.2.1, nc_i (ad 10) (G.2 0) 180 z.2.2.2.2.2.2.2.1, nc_i (ad 11) (G.2 0) 180 z.2.2.2.2.2.2.2.2.1, nc_l ou (G.2 2) 1 z.2.2.2.2.2.2.2.2.2.2.2.2.2.2.2.2.2.2.2.2.2.2.2.2.2.2.2.2.2.2]

theorem mw_392 : (.classLink R_La 13 "java/lang/IllegalArgumentException" : Cond) ∈ nn_gw := nn_at 392 (by decide +kernel) (by decide +kernel)
theorem mw_393 : (.methodLink R_La 7 y_NP_compile : Cond) ∈ nn_gw := nn_at 393 (by decide +kernel) (by decide +kernel)
theorem mw_394 : (.instanceMethod y_NP_compile : Cond) ∈ nn_gw := nn_at 394 (by decide +kernel) (by decide +kernel)
theorem mw_395 : (.selects R_NP y_NP_compile y_NP_compile : Cond) ∈ nn_gw := nn_at 395 (by decide +kernel) (by decide +kernel)
theorem mw_396 : (.code y_NP_compile b_NP_compile 2 (some .int) : Cond) ∈ nn_gw := nn_at 396 (by decide +kernel) (by decide +kernel)
theorem d_La_compile_0 : decode b_La_compile 0 = .ok (.aload_n 1, 1) := by decide +kernel
theorem d_La_compile_1 : decode b_La_compile 1 = .ok (.iconst 0, 1) := by decide +kernel
theorem d_La_compile_2 : decode b_La_compile 2 = .ok (.aload_n 0, 1) := by decide +kernel
theorem d_La_compile_3 : decode b_La_compile 3 = .ok (.invokevirtual 7, 3) := by decide +kernel
theorem d_La_compile_6 : decode b_La_compile 6 = .ok (.i2l, 1) := by decide +kernel
theorem d_La_compile_7 : decode b_La_compile 7 = .ok (.lastore, 1) := by decide +kernel
theorem d_La_compile_8 : decode b_La_compile 8 = .ok (.goto 6, 3) := by decide +kernel
theorem d_La_compile_11 : decode b_La_compile 11 = .ok (.astore_n 2, 1) := by decide +kernel
theorem d_La_compile_12 : decode b_La_compile 12 = .ok (.iconst 1, 1) := by decide +kernel
theorem d_La_compile_13 : decode b_La_compile 13 = .ok (.ireturn, 1) := by decide +kernel
theorem d_La_compile_14 : decode b_La_compile 14 = .ok (.iconst 0, 1) := by decide +kernel
theorem d_La_compile_15 : decode b_La_compile 15 = .ok (.ireturn, 1) := by decide +kernel

set_option maxHeartbeats 4000000 in
set_option maxRecDepth 100000 in
theorem h_compile (l : Launch) (hfl : l.flags = flags0) (G : nn_G) (tk : Nat → Nat) (sz : Nat) (h9 h1 h0 x1 x2 y1 y2 y3 tx ou : Nat) (ad dn : Nat → Nat) (L : List Nat) (tf : Nat → Int32) (tn : Nat) (q : Nat → Option Nat) (pl : Nat → Int32) (vl : Nat → Int32) (ca : Nat → Int32) (f1 : Nat → Int32) (f2 : Nat → Int32) (f3 : Nat → Int32) (tc : Nat) (ta : Nat) (nc : Nat) (lv : Nat) (cn : Nat) (dp : Nat) (fa : Int32) (fp : Int32) (pf : Nat → Nat → Int32) (f : Nat → Int32) (g : Nat → Int32) (v1 : Int32) (v2 : Int32) (v3 : Int32) (v4 : Int32) (v5 : Int32) (oc : Nat) (k1 : Nat → Int32) (k2 : Nat → Int32) (k3 : Nat → Int32) (n : Nat) (ov : Nat → Int64) (hL : ∀ j, j < 90 → dn j ∈ L) (hn8t : tn ≤ 180) (hn : n ≤ 180) : Met l y_La_compile w_La_compile ({ frames := 140, cells := 1, slots := 6, locals := 3200 }) (nz_P G tk [.ref h9, .ref ou] ([nc_o h9 0 [.ref tx, .int (nI tn), .ref (ad 0), .ref h1, .ref h0], nc_o h0 3 [.ref x1, .ref x2, .int v1, .int v2, .int v3, .int v4, .int v5, .int (nI oc)], nc_i x1 (G.2 0) 200 f, nc_i x2 (G.2 0) 8 g, nc_o h1 1 [.ref y1, .ref y2, .ref y3, .int (nI n)], nc_i y1 (G.2 0) 180 k1, nc_i y2 (G.2 0) 180 k2, nc_i y3 (G.2 0) 180 k3, nc_i tx (G.2 1) 180 tf, nc_o (ad 0) 2 [.ref (ad 1), .ref (ad 5), .ref (ad 8), .int (nI dp), .int fa, .int fp], nc_o (ad 1) 6 [.ref (ad 2), .ref (ad 3), .ref (ad 4), .int (nI tc), .int (nI ta)], nc_q (ad 2) (G.2 3) 181 q, nc_i (ad 3) (G.2 0) 181 pl, nc_i (ad 4) (G.2 0) 181 vl, nc_o (ad 5) 5 [.ref (ad 6), .int (nI nc), .ref (ad 7), .int (nI lv)], nc_q (ad 6) (G.2 4) 90 (fun j => some (dn j)), nc_i (ad 7) (G.2 0) 5 ca, nc_o (ad 8) 1 [.ref (ad 9), .ref (ad 10), .ref (ad 11), .int (nI cn)], nc_i (ad 9) (G.2 0) 180 f1, nc_i (ad 10) (G.2 0) 180 f2, nc_i (ad 11) (G.2 0) 180 f3, nc_l ou (G.2 2) 1 ov] ++ nz_pl L pf) sz) (va_Qi (fun (r : Int32) (u : nK) => u.2.1 = 0 ∧ u.2.2.2.2.2.2.2.2.2.2.2.2.2.2.2.2.2.2.2.2.2.2.2.2.2.2.2.2.2.1 ≤ 180 ∧ u.2.2.2.2.2.2.2.2.2.2.2.2.2.2.2.2.2.2.2.2.2.2.2.2.2.1 ≤ oc) (fun u t => va_P G.1 nn_cls (nk_X G h9 h1 h0 x1 x2 y1 y2 y3 tx ou ad dn u ++ nz_pl L u.2.2.2.2.2.2.2.2.2.2.2.2.2.2.2.2.2.1) t.heap ∧ va_D (va_A ([nc_o h9 0 [.ref tx, .int (nI tn), .ref (ad 0), .ref h1, .ref h0], nc_o h0 3 [.ref x1, .ref x2, .int v1, .int v2, .int v3, .int v4, .int v5, .int (nI oc)], nc_i x1 (G.2 0) 200 f, nc_i x2 (G.2 0) 8 g, nc_o h1 1 [.ref y1, .ref y2, .ref y3, .int (nI n)], nc_i y1 (G.2 0) 180 k1, nc_i y2 (G.2 0) 180 k2, nc_i y3 (G.2 0) 180 k3, nc_i tx (G.2 1) 180 tf, nc_o (ad 0) 2 [.ref (ad 1), .ref (ad 5), .ref (ad 8), .int (nI dp), .int fa, .int fp], nc_o (ad 1) 6 [.ref (ad 2), .ref (ad 3), .ref (ad 4), .int (nI tc), .int (nI ta)], nc_q (ad 2) (G.2 3) 181 q, nc_i (ad 3) (G.2 0) 181 pl, nc_i (ad 4) (G.2 0) 181 vl, nc_o (ad 5) 5 [.ref (ad 6), .int (nI nc), .ref (ad 7), .int (nI lv)], nc_q (ad 6) (G.2 4) 90 (fun j => some (dn j)), nc_i (ad 7) (G.2 0) 5 ca, nc_o (ad 8) 1 [.ref (ad 9), .ref (ad 10), .ref (ad 11), .int (nI cn)], nc_i (ad 9) (G.2 0) 180 f1, nc_i (ad 10) (G.2 0) 180 f2, nc_i (ad 11) (G.2 0) 180 f3, nc_l ou (G.2 2) 1 ov] ++ nz_pl L pf) sz) (nk_X G h9 h1 h0 x1 x2 y1 y2 y3 tx ou ad dn u ++ nz_pl L u.2.2.2.2.2.2.2.2.2.2.2.2.2.2.2.2.2.1)) (va_A ([nc_o h9 0 [.ref tx, .int (nI tn), .ref (ad 0), .ref h1, .ref h0], nc_o h0 3 [.ref x1, .ref x2, .int v1, .int v2, .int v3, .int v4, .int v5, .int (nI oc)], nc_i x1 (G.2 0) 200 f, nc_i x2 (G.2 0) 8 g, nc_o h1 1 [.ref y1, .ref y2, .ref y3, .int (nI n)], nc_i y1 (G.2 0) 180 k1, nc_i y2 (G.2 0) 180 k2, nc_i y3 (G.2 0) 180 k3, nc_i tx (G.2 1) 180 tf, nc_o (ad 0) 2 [.ref (ad 1), .ref (ad 5), .ref (ad 8), .int (nI dp), .int fa, .int fp], nc_o (ad 1) 6 [.ref (ad 2), .ref (ad 3), .ref (ad 4), .int (nI tc), .int (nI ta)], nc_q (ad 2) (G.2 3) 181 q, nc_i (ad 3) (G.2 0) 181 pl, nc_i (ad 4) (G.2 0) 181 vl, nc_o (ad 5) 5 [.ref (ad 6), .int (nI nc), .ref (ad 7), .int (nI lv)], nc_q (ad 6) (G.2 4) 90 (fun j => some (dn j)), nc_i (ad 7) (G.2 0) 5 ca, nc_o (ad 8) 1 [.ref (ad 9), .ref (ad 10), .ref (ad 11), .int (nI cn)], nc_i (ad 9) (G.2 0) 180 f1, nc_i (ad 10) (G.2 0) 180 f2, nc_i (ad 11) (G.2 0) 180 f3, nc_l ou (G.2 2) 1 ov] ++ nz_pl L pf) sz)) 1 6 (va_A ([nc_o h9 0 [.ref tx, .int (nI tn), .ref (ad 0), .ref h1, .ref h0], nc_o h0 3 [.ref x1, .ref x2, .int v1, .int v2, .int v3, .int v4, .int v5, .int (nI oc)], nc_i x1 (G.2 0) 200 f, nc_i x2 (G.2 0) 8 g, nc_o h1 1 [.ref y1, .ref y2, .ref y3, .int (nI n)], nc_i y1 (G.2 0) 180 k1, nc_i y2 (G.2 0) 180 k2, nc_i y3 (G.2 0) 180 k3, nc_i tx (G.2 1) 180 tf, nc_o (ad 0) 2 [.ref (ad 1), .ref (ad 5), .ref (ad 8), .int (nI dp), .int fa, .int fp], nc_o (ad 1) 6 [.ref (ad 2), .ref (ad 3), .ref (ad 4), .int (nI tc), .int (nI ta)], nc_q (ad 2) (G.2 3) 181 q, nc_i (ad 3) (G.2 0) 181 pl, nc_i (ad 4) (G.2 0) 181 vl, nc_o (ad 5) 5 [.ref (ad 6), .int (nI nc), .ref (ad 7), .int (nI lv)], nc_q (ad 6) (G.2 4) 90 (fun j => some (dn j)), nc_i (ad 7) (G.2 0) 5 ca, nc_o (ad 8) 1 [.ref (ad 9), .ref (ad 10), .ref (ad 11), .int (nI cn)], nc_i (ad 9) (G.2 0) 180 f1, nc_i (ad 10) (G.2 0) 180 f2, nc_i (ad 11) (G.2 0) 180 f3, nc_l ou (G.2 2) 1 ov] ++ nz_pl L pf) sz) := by
  refine va_MetW (cc := b_La_compile) (maxL := 3) (ret := some .int) (hh := [(0, 8, 11, 13)]) (by decide) rfl ?_
  intro p e s m args below meth c s₁ B hml hv
  obtain ⟨rfl, ⟨hsz, hP, hK, hD0, hN⟩, hE⟩ := hv
  have hx := B.exec
  have hb := B.bytes
  have hr := B.returns
  have hts := atoms_spec (ws := w_La_compile) B.pre
  have hg : ∀ w ∈ nn_gw, w.before _ s = true := fun w h => hts w (List.mem_cons_of_mem _ h)
  have hown : s.vm.findClass R_La = some m.cls := findClass_of_methodNamed B.named
  have hlocks := B.notSynchronized
  obtain ⟨x0, htab, hs1, hs2, hs3, hs4⟩ := nl_tab B (hts _ List.mem_cons_self)
  subst hsz
  have hD := hD0.self (sz := s.heap.size)
  generalize hAe : va_A ([nc_o h9 0 [.ref tx, .int (nI tn), .ref (ad 0), .ref h1, .ref h0], nc_o h0 3 [.ref x1, .ref x2, .int v1, .int v2, .int v3, .int v4, .int v5, .int (nI oc)], nc_i x1 (G.2 0) 200 f, nc_i x2 (G.2 0) 8 g, nc_o h1 1 [.ref y1, .ref y2, .ref y3, .int (nI n)], nc_i y1 (G.2 0) 180 k1, nc_i y2 (G.2 0) 180 k2, nc_i y3 (G.2 0) 180 k3, nc_i tx (G.2 1) 180 tf, nc_o (ad 0) 2 [.ref (ad 1), .ref (ad 5), .ref (ad 8), .int (nI dp), .int fa, .int fp], nc_o (ad 1) 6 [.ref (ad 2), .ref (ad 3), .ref (ad 4), .int (nI tc), .int (nI ta)], nc_q (ad 2) (G.2 3) 181 q, nc_i (ad 3) (G.2 0) 181 pl, nc_i (ad 4) (G.2 0) 181 vl, nc_o (ad 5) 5 [.ref (ad 6), .int (nI nc), .ref (ad 7), .int (nI lv)], nc_q (ad 6) (G.2 4) 90 (fun j => some (dn j)), nc_i (ad 7) (G.2 0) 5 ca, nc_o (ad 8) 1 [.ref (ad 9), .ref (ad 10), .ref (ad 11), .int (nI cn)], nc_i (ad 9) (G.2 0) 180 f1, nc_i (ad 10) (G.2 0) 180 f2, nc_i (ad 11) (G.2 0) 180 f3, nc_l ou (G.2 2) 1 ov] ++ nz_pl L pf) s.heap.size = A at hD hE ⊢
  have hA : ∀ q : Nat, s.heap.size ≤ q → A q := fun q h => by rw [← hAe]; exact Or.inr h
  have hS : va_S A s.heap s.heap [] := va_S.rf
  have hP : va_P G.1 nn_cls ([nc_o h9 0 [.ref tx, .int (nI tn), .ref (ad 0), .ref h1, .ref h0], nc_o h0 3 [.ref x1, .ref x2, .int v1, .int v2, .int v3, .int v4, .int v5, .int (nI oc)], nc_i x1 (G.2 0) 200 f, nc_i x2 (G.2 0) 8 g, nc_o h1 1 [.ref y1, .ref y2, .ref y3, .int (nI n)], nc_i y1 (G.2 0) 180 k1, nc_i y2 (G.2 0) 180 k2, nc_i y3 (G.2 0) 180 k3, nc_i tx (G.2 1) 180 tf, nc_o (ad 0) 2 [.ref (ad 1), .ref (ad 5), .ref (ad 8), .int (nI dp), .int fa, .int fp], nc_o (ad 1) 6 [.ref (ad 2), .ref (ad 3), .ref (ad 4), .int (nI tc), .int (nI ta)], nc_q (ad 2) (G.2 3) 181 q, nc_i (ad 3) (G.2 0) 181 pl, nc_i (ad 4) (G.2 0) 181 vl, nc_o (ad 5) 5 [.ref (ad 6), .int (nI nc), .ref (ad 7), .int (nI lv)], nc_q (ad 6) (G.2 4) 90 (fun j => some (dn j)), nc_i (ad 7) (G.2 0) 5 ca, nc_o (ad 8) 1 [.ref (ad 9), .ref (ad 10), .ref (ad 11), .int (nI cn)], nc_i (ad 9) (G.2 0) 180 f1, nc_i (ad 10) (G.2 0) 180 f2, nc_i (ad 11) (G.2 0) 180 f3, nc_l ou (G.2 2) 1 ov] ++ nz_pl L pf) s.heap := hP
  have hl := lv_entry ([.ref h9, .ref ou]) (n := 3) (Nat.le_of_ble_eq_true rfl)
  rw [lg_entry_eq]
  generalize (lg_sl ([.ref h9, .ref ou]) ++ List.replicate (3 - (lg_sl ([.ref h9, .ref ou])).length) Slot.unset).toArray = ls at hl ⊢
  have hl : lv_has ls 3 [(0, .ref h9), (1, .ref ou)] := hl
  refine lv_aload_n hx hb d_La_compile_0 rfl (lv_at hl 1 rfl) ?_
  refine lv_iconst (v := 0) hx hb d_La_compile_1 (by decide) ?_
  refine lv_aload_n hx hb d_La_compile_2 rfl (lv_at hl 0 rfl) ?_
  have hPc := hP.part (cx := [nc_o h9 0 [.ref tx, .int (nI tn), .ref (ad 0), .ref h1, .ref h0], nc_o h0 3 [.ref x1, .ref x2, .int v1, .int v2, .int v3, .int v4, .int v5, .int (nI oc)], nc_i x1 (G.2 0) 200 f, nc_i x2 (G.2 0) 8 g, nc_o h1 1 [.ref y1, .ref y2, .ref y3, .int (nI n)], nc_i y1 (G.2 0) 180 k1, nc_i y2 (G.2 0) 180 k2, nc_i y3 (G.2 0) 180 k3, nc_i tx (G.2 1) 180 tf, nc_o (ad 0) 2 [.ref (ad 1), .ref (ad 5), .ref (ad 8), .int (nI dp), .int fa, .int fp], nc_o (ad 1) 6 [.ref (ad 2), .ref (ad 3), .ref (ad 4), .int (nI tc), .int (nI ta)], nc_q (ad 2) (G.2 3) 181 q, nc_i (ad 3) (G.2 0) 181 pl, nc_i (ad 4) (G.2 0) 181 vl, nc_o (ad 5) 5 [.ref (ad 6), .int (nI nc), .ref (ad 7), .int (nI lv)], nc_q (ad 6) (G.2 4) 90 (fun j => some (dn j)), nc_i (ad 7) (G.2 0) 5 ca, nc_o (ad 8) 1 [.ref (ad 9), .ref (ad 10), .ref (ad 11), .int (nI cn)], nc_i (ad 9) (G.2 0) 180 f1, nc_i (ad 10) (G.2 0) 180 f2, nc_i (ad 11) (G.2 0) 180 f3]) [0, 1, 2, 3, 4, 5, 6, 7, 8, 9, 10, 11, 12, 13, 14, 15, 16, 17, 18, 19, 20] rfl
  have hDc := hD.part (cx := [nc_o h9 0 [.ref tx, .int (nI tn), .ref (ad 0), .ref h1, .ref h0], nc_o h0 3 [.ref x1, .ref x2, .int v1, .int v2, .int v3, .int v4, .int v5, .int (nI oc)], nc_i x1 (G.2 0) 200 f, nc_i x2 (G.2 0) 8 g, nc_o h1 1 [.ref y1, .ref y2, .ref y3, .int (nI n)], nc_i y1 (G.2 0) 180 k1, nc_i y2 (G.2 0) 180 k2, nc_i y3 (G.2 0) 180 k3, nc_i tx (G.2 1) 180 tf, nc_o (ad 0) 2 [.ref (ad 1), .ref (ad 5), .ref (ad 8), .int (nI dp), .int fa, .int fp], nc_o (ad 1) 6 [.ref (ad 2), .ref (ad 3), .ref (ad 4), .int (nI tc), .int (nI ta)], nc_q (ad 2) (G.2 3) 181 q, nc_i (ad 3) (G.2 0) 181 pl, nc_i (ad 4) (G.2 0) 181 vl, nc_o (ad 5) 5 [.ref (ad 6), .int (nI nc), .ref (ad 7), .int (nI lv)], nc_q (ad 6) (G.2 4) 90 (fun j => some (dn j)), nc_i (ad 7) (G.2 0) 5 ca, nc_o (ad 8) 1 [.ref (ad 9), .ref (ad 10), .ref (ad 11), .int (nI cn)], nc_i (ad 9) (G.2 0) 180 f1, nc_i (ad 10) (G.2 0) 180 f2, nc_i (ad 11) (G.2 0) 180 f3]) [0, 1, 2, 3, 4, 5, 6, 7, 8, 9, 10, 11, 12, 13, 14, 15, 16, 17, 18, 19, 20] (by decide) rfl
  have hFc := va_freeP (cx := [nc_o h9 0 [.ref tx, .int (nI tn), .ref (ad 0), .ref h1, .ref h0], nc_o h0 3 [.ref x1, .ref x2, .int v1, .int v2, .int v3, .int v4, .int v5, .int (nI oc)], nc_i x1 (G.2 0) 200 f, nc_i x2 (G.2 0) 8 g, nc_o h1 1 [.ref y1, .ref y2, .ref y3, .int (nI n)], nc_i y1 (G.2 0) 180 k1, nc_i y2 (G.2 0) 180 k2, nc_i y3 (G.2 0) 180 k3, nc_i tx (G.2 1) 180 tf, nc_o (ad 0) 2 [.ref (ad 1), .ref (ad 5), .ref (ad 8), .int (nI dp), .int fa, .int fp], nc_o (ad 1) 6 [.ref (ad 2), .ref (ad 3), .ref (ad 4), .int (nI tc), .int (nI ta)], nc_q (ad 2) (G.2 3) 181 q, nc_i (ad 3) (G.2 0) 181 pl, nc_i (ad 4) (G.2 0) 181 vl, nc_o (ad 5) 5 [.ref (ad 6), .int (nI nc), .ref (ad 7), .int (nI lv)], nc_q (ad 6) (G.2 4) 90 (fun j => some (dn j)), nc_i (ad 7) (G.2 0) 5 ca, nc_o (ad 8) 1 [.ref (ad 9), .ref (ad 10), .ref (ad 11), .int (nI cn)], nc_i (ad 9) (G.2 0) 180 f1, nc_i (ad 10) (G.2 0) 180 f2, nc_i (ad 11) (G.2 0) 180 f3]) hD hS hA [0, 1, 2, 3, 4, 5, 6, 7, 8, 9, 10, 11, 12, 13, 14, 15, 16, 17, 18, 19, 20] rfl
  refine nx_catchi (x0 := x0) (own := R_La) (nx_runV (As := []) (rest := [.int 0, .ref ou]) ⟨hx, hb, hml, hown, hts⟩ (x_compile l hfl G tk _ h9 h1 h0 x1 x2 y1 y2 y3 tx tf tn ad dn L q pl vl ca f1 f2 f3 tc ta nc lv cn dp fa fp pf f g v1 v2 v3 v4 v5 oc k1 k2 k3 n hL hn8t) (cwV 0 hts (nn_gV mw_396 mw_393 mw_394 mw_395 mw_87) rfl rfl rfl (by decide +kernel) ⟨Nat.le_of_ble_eq_true rfl, Nat.le_of_ble_eq_true rfl⟩) (nz_preV (va_recv hK hP rfl (q0 := 0) rfl) hPc hDc hK hN hE hS hFc) rfl rfl hl.1 rfl (lv_room (Nat.le_of_ble_eq_true rfl)) d_La_compile_3 ⟨Nat.le_of_ble_eq_true rfl, Nat.le_of_ble_eq_true rfl⟩) hS (fun q _ h => hFc q h) hFc htab (by simp [covers, hs1, hs2]) (by rw [hs4]; decide) hown (by rw [hs4]; exact hg _ mw_392) (va_Nw.use rfl hE.1.2.2.2.2.2.2.2.2.2.1) (fun x H locs hqx hz1 hk1 hS => ?_) (fun r2 u1 t H locs ht hvm hw hB hz1 hk1 hS => ?_)
  · skip
    obtain ⟨q3, pl4, vl5, ca6, f17, f28, f39, tc10, ta11, nc12, lv13, cn14, dp15, fa16, fp17, pf18, hP1, hD1⟩ := hqx
    have hn8 : n ≤ 180 := hn
    obtain ⟨hP, hD⟩ := va_joinP (wr := [nc_l ou (G.2 2) 1 ov]) (rx := [nc_o h9 0 [.ref tx, .int (nI 0), .ref (ad 0), .ref h1, .ref h0], nc_o h0 3 [.ref x1, .ref x2, .int v1, .int v2, .int v3, .int v4, .int v5, .int (nI oc)], nc_i x1 (G.2 0) 200 f, nc_i x2 (G.2 0) 8 g, nc_o h1 1 [.ref y1, .ref y2, .ref y3, .int (nI n)], nc_i y1 (G.2 0) 180 k1, nc_i y2 (G.2 0) 180 k2, nc_i y3 (G.2 0) 180 k3, nc_i tx (G.2 1) 180 tf, nc_o (ad 0) 2 [.ref (ad 1), .ref (ad 5), .ref (ad 8), .int (nI dp15), .int fa16, .int fp17], nc_o (ad 1) 6 [.ref (ad 2), .ref (ad 3), .ref (ad 4), .int (nI tc10), .int (nI ta11)], nc_q (ad 2) (G.2 3) 181 q3, nc_i (ad 3) (G.2 0) 181 pl4, nc_i (ad 4) (G.2 0) 181 vl5, nc_o (ad 5) 5 [.ref (ad 6), .int (nI nc12), .ref (ad 7), .int (nI lv13)], nc_q (ad 6) (G.2 4) 90 (fun j => some (dn j)), nc_i (ad 7) (G.2 0) 5 ca6, nc_o (ad 8) 1 [.ref (ad 9), .ref (ad 10), .ref (ad 11), .int (nI cn14)], nc_i (ad 9) (G.2 0) 180 f17, nc_i (ad 10) (G.2 0) 180 f28, nc_i (ad 11) (G.2 0) 180 f39]) (pl1 := nz_pl L pf18) hP hD [0, 1, 2, 3, 4, 5, 6, 7, 8, 9, 10, 11, 12, 13, 14, 15, 16, 17, 18, 19, 20] [21] rfl rfl (by decide) (by decide) hk1 hFc hP1 hD1
    have hP : va_P G.1 nn_cls ([nc_l ou (G.2 2) 1 ov, nc_o h9 0 [.ref tx, .int (nI 0), .ref (ad 0), .ref h1, .ref h0], nc_o h0 3 [.ref x1, .ref x2, .int v1, .int v2, .int v3, .int v4, .int v5, .int (nI oc)], nc_i x1 (G.2 0) 200 f, nc_i x2 (G.2 0) 8 g, nc_o h1 1 [.ref y1, .ref y2, .ref y3, .int (nI n)], nc_i y1 (G.2 0) 180 k1, nc_i y2 (G.2 0) 180 k2, nc_i y3 (G.2 0) 180 k3, nc_i tx (G.2 1) 180 tf, nc_o (ad 0) 2 [.ref (ad 1), .ref (ad 5), .ref (ad 8), .int (nI dp15), .int fa16, .int fp17], nc_o (ad 1) 6 [.ref (ad 2), .ref (ad 3), .ref (ad 4), .int (nI tc10), .int (nI ta11)], nc_q (ad 2) (G.2 3) 181 q3, nc_i (ad 3) (G.2 0) 181 pl4, nc_i (ad 4) (G.2 0) 181 vl5, nc_o (ad 5) 5 [.ref (ad 6), .int (nI nc12), .ref (ad 7), .int (nI lv13)], nc_q (ad 6) (G.2 4) 90 (fun j => some (dn j)), nc_i (ad 7) (G.2 0) 5 ca6, nc_o (ad 8) 1 [.ref (ad 9), .ref (ad 10), .ref (ad 11), .int (nI cn14)], nc_i (ad 9) (G.2 0) 180 f17, nc_i (ad 10) (G.2 0) 180 f28, nc_i (ad 11) (G.2 0) 180 f39] ++ nz_pl L pf18) H := hP
    have hD : va_D A ([nc_l ou (G.2 2) 1 ov, nc_o h9 0 [.ref tx, .int (nI 0), .ref (ad 0), .ref h1, .ref h0], nc_o h0 3 [.ref x1, .ref x2, .int v1, .int v2, .int v3, .int v4, .int v5, .int (nI oc)], nc_i x1 (G.2 0) 200 f, nc_i x2 (G.2 0) 8 g, nc_o h1 1 [.ref y1, .ref y2, .ref y3, .int (nI n)], nc_i y1 (G.2 0) 180 k1, nc_i y2 (G.2 0) 180 k2, nc_i y3 (G.2 0) 180 k3, nc_i tx (G.2 1) 180 tf, nc_o (ad 0) 2 [.ref (ad 1), .ref (ad 5), .ref (ad 8), .int (nI dp15), .int fa16, .int fp17], nc_o (ad 1) 6 [.ref (ad 2), .ref (ad 3), .ref (ad 4), .int (nI tc10), .int (nI ta11)], nc_q (ad 2) (G.2 3) 181 q3, nc_i (ad 3) (G.2 0) 181 pl4, nc_i (ad 4) (G.2 0) 181 vl5, nc_o (ad 5) 5 [.ref (ad 6), .int (nI nc12), .ref (ad 7), .int (nI lv13)], nc_q (ad 6) (G.2 4) 90 (fun j => some (dn j)), nc_i (ad 7) (G.2 0) 5 ca6, nc_o (ad 8) 1 [.ref (ad 9), .ref (ad 10), .ref (ad 11), .int (nI cn14)], nc_i (ad 9) (G.2 0) 180 f17, nc_i (ad 10) (G.2 0) 180 f28, nc_i (ad 11) (G.2 0) 180 f39] ++ nz_pl L pf18) := hD
    rw [hs3]
    refine W.widen (k := 1) (n := 6) (Nat.le_of_ble_eq_true rfl) (Nat.le_of_ble_eq_true rfl) ?_
    refine lv_astore_n (lv' := [(2, .ref x), (0, .ref h9), (1, .ref ou)]) hx hb d_La_compile_11 rfl hl (by decide) rfl (fun ls hl => ?_)
    refine lv_iconst (v := 1) hx hb d_La_compile_12 (by decide) ?_
    refine W.widen (k := 1) (n := 6) (Nat.le_of_ble_eq_true rfl) (Nat.le_of_ble_eq_true rfl) ?_
    have hP9 := hP.part (cx := [nc_o h9 0 [.ref tx, .int (nI 0), .ref (ad 0), .ref h1, .ref h0], nc_o h0 3 [.ref x1, .ref x2, .int v1, .int v2, .int v3, .int v4, .int v5, .int (nI oc)], nc_i x1 (G.2 0) 200 f, nc_i x2 (G.2 0) 8 g, nc_o h1 1 [.ref y1, .ref y2, .ref y3, .int (nI n)], nc_i y1 (G.2 0) 180 k1, nc_i y2 (G.2 0) 180 k2, nc_i y3 (G.2 0) 180 k3, nc_i tx (G.2 1) 180 tf, nc_o (ad 0) 2 [.ref (ad 1), .ref (ad 5), .ref (ad 8), .int (nI dp15), .int fa16, .int fp17], nc_o (ad 1) 6 [.ref (ad 2), .ref (ad 3), .ref (ad 4), .int (nI tc10), .int (nI ta11)], nc_q (ad 2) (G.2 3) 181 q3, nc_i (ad 3) (G.2 0) 181 pl4, nc_i (ad 4) (G.2 0) 181 vl5, nc_o (ad 5) 5 [.ref (ad 6), .int (nI nc12), .ref (ad 7), .int (nI lv13)], nc_q (ad 6) (G.2 4) 90 (fun j => some (dn j)), nc_i (ad 7) (G.2 0) 5 ca6, nc_o (ad 8) 1 [.ref (ad 9), .ref (ad 10), .ref (ad 11), .int (nI cn14)], nc_i (ad 9) (G.2 0) 180 f17, nc_i (ad 10) (G.2 0) 180 f28, nc_i (ad 11) (G.2 0) 180 f39, nc_l ou (G.2 2) 1 ov]) [1, 2, 3, 4, 5, 6, 7, 8, 9, 10, 11, 12, 13, 14, 15, 16, 17, 18, 19, 20, 21, 0] rfl
    have hD9 := hD.part (cx := [nc_o h9 0 [.ref tx, .int (nI 0), .ref (ad 0), .ref h1, .ref h0], nc_o h0 3 [.ref x1, .ref x2, .int v1, .int v2, .int v3, .int v4, .int v5, .int (nI oc)], nc_i x1 (G.2 0) 200 f, nc_i x2 (G.2 0) 8 g, nc_o h1 1 [.ref y1, .ref y2, .ref y3, .int (nI n)], nc_i y1 (G.2 0) 180 k1, nc_i y2 (G.2 0) 180 k2, nc_i y3 (G.2 0) 180 k3, nc_i tx (G.2 1) 180 tf, nc_o (ad 0) 2 [.ref (ad 1), .ref (ad 5), .ref (ad 8), .int (nI dp15), .int fa16, .int fp17], nc_o (ad 1) 6 [.ref (ad 2), .ref (ad 3), .ref (ad 4), .int (nI tc10), .int (nI ta11)], nc_q (ad 2) (G.2 3) 181 q3, nc_i (ad 3) (G.2 0) 181 pl4, nc_i (ad 4) (G.2 0) 181 vl5, nc_o (ad 5) 5 [.ref (ad 6), .int (nI nc12), .ref (ad 7), .int (nI lv13)], nc_q (ad 6) (G.2 4) 90 (fun j => some (dn j)), nc_i (ad 7) (G.2 0) 5 ca6, nc_o (ad 8) 1 [.ref (ad 9), .ref (ad 10), .ref (ad 11), .int (nI cn14)], nc_i (ad 9) (G.2 0) 180 f17, nc_i (ad 10) (G.2 0) 180 f28, nc_i (ad 11) (G.2 0) 180 f39, nc_l ou (G.2 2) 1 ov]) [1, 2, 3, 4, 5, 6, 7, 8, 9, 10, 11, 12, 13, 14, 15, 16, 17, 18, 19, 20, 21, 0] (by decide) rfl
    exact W.iret (v := 1) hx hb hr (fun t ht hW => ⟨⟨1, (tf, 0, q3, pl4, vl5, ca6, f17, f28, f39, tc10, ta11, nc12, lv13, cn14, dp15, fa16, fp17, pf18, f, g, v1, v2, v3, v4, v5, oc, k1, k2, k3, n, ov), rfl, ⟨rfl, hn8, Nat.le_refl _⟩, ⟨by rw [ht]; exact hP9, hD9⟩⟩, hS.F ht⟩) hS.2.2 d_La_compile_13
  · skip
    obtain ⟨q19, pl20, vl21, ca22, f123, f224, f325, tc26, ta27, nc28, cn29, fa30, fp31, pf32, f33, g34, v135, v236, v337, v438, v539, k140, k241, k342, n43⟩ := u1
    dsimp only at hB hw
    have hn8 : n43 ≤ 180 := hw
    obtain ⟨hP1, hD1⟩ := hB
    rw [ht] at hP1
    obtain ⟨hP, hD⟩ := va_joinP (wr := [nc_l ou (G.2 2) 1 ov]) (rx := [nc_o h9 0 [.ref tx, .int (nI 0), .ref (ad 0), .ref h1, .ref h0], nc_o h0 3 [.ref x1, .ref x2, .int v135, .int v236, .int v337, .int v438, .int v539, .int (nI 0)], nc_i x1 (G.2 0) 200 f33, nc_i x2 (G.2 0) 8 g34, nc_o h1 1 [.ref y1, .ref y2, .ref y3, .int (nI n43)], nc_i y1 (G.2 0) 180 k140, nc_i y2 (G.2 0) 180 k241, nc_i y3 (G.2 0) 180 k342, nc_i tx (G.2 1) 180 tf, nc_o (ad 0) 2 [.ref (ad 1), .ref (ad 5), .ref (ad 8), .int (nI 0), .int fa30, .int fp31], nc_o (ad 1) 6 [.ref (ad 2), .ref (ad 3), .ref (ad 4), .int (nI tc26), .int (nI ta27)], nc_q (ad 2) (G.2 3) 181 q19, nc_i (ad 3) (G.2 0) 181 pl20, nc_i (ad 4) (G.2 0) 181 vl21, nc_o (ad 5) 5 [.ref (ad 6), .int (nI nc28), .ref (ad 7), .int (nI 0)], nc_q (ad 6) (G.2 4) 90 (fun j => some (dn j)), nc_i (ad 7) (G.2 0) 5 ca22, nc_o (ad 8) 1 [.ref (ad 9), .ref (ad 10), .ref (ad 11), .int (nI cn29)], nc_i (ad 9) (G.2 0) 180 f123, nc_i (ad 10) (G.2 0) 180 f224, nc_i (ad 11) (G.2 0) 180 f325]) (pl1 := nz_pl L pf32) hP hD [0, 1, 2, 3, 4, 5, 6, 7, 8, 9, 10, 11, 12, 13, 14, 15, 16, 17, 18, 19, 20] [21] rfl rfl (by decide) (by decide) hk1 hFc hP1 hD1
    have hP : va_P G.1 nn_cls ([nc_l ou (G.2 2) 1 ov, nc_o h9 0 [.ref tx, .int (nI 0), .ref (ad 0), .ref h1, .ref h0], nc_o h0 3 [.ref x1, .ref x2, .int v135, .int v236, .int v337, .int v438, .int v539, .int (nI 0)], nc_i x1 (G.2 0) 200 f33, nc_i x2 (G.2 0) 8 g34, nc_o h1 1 [.ref y1, .ref y2, .ref y3, .int (nI n43)], nc_i y1 (G.2 0) 180 k140, nc_i y2 (G.2 0) 180 k241, nc_i y3 (G.2 0) 180 k342, nc_i tx (G.2 1) 180 tf, nc_o (ad 0) 2 [.ref (ad 1), .ref (ad 5), .ref (ad 8), .int (nI 0), .int fa30, .int fp31], nc_o (ad 1) 6 [.ref (ad 2), .ref (ad 3), .ref (ad 4), .int (nI tc26), .int (nI ta27)], nc_q (ad 2) (G.2 3) 181 q19, nc_i (ad 3) (G.2 0) 181 pl20, nc_i (ad 4) (G.2 0) 181 vl21, nc_o (ad 5) 5 [.ref (ad 6), .int (nI nc28), .ref (ad 7), .int (nI 0)], nc_q (ad 6) (G.2 4) 90 (fun j => some (dn j)), nc_i (ad 7) (G.2 0) 5 ca22, nc_o (ad 8) 1 [.ref (ad 9), .ref (ad 10), .ref (ad 11), .int (nI cn29)], nc_i (ad 9) (G.2 0) 180 f123, nc_i (ad 10) (G.2 0) 180 f224, nc_i (ad 11) (G.2 0) 180 f325] ++ nz_pl L pf32) H := hP
    have hD : va_D A ([nc_l ou (G.2 2) 1 ov, nc_o h9 0 [.ref tx, .int (nI 0), .ref (ad 0), .ref h1, .ref h0], nc_o h0 3 [.ref x1, .ref x2, .int v135, .int v236, .int v337, .int v438, .int v539, .int (nI 0)], nc_i x1 (G.2 0) 200 f33, nc_i x2 (G.2 0) 8 g34, nc_o h1 1 [.ref y1, .ref y2, .ref y3, .int (nI n43)], nc_i y1 (G.2 0) 180 k140, nc_i y2 (G.2 0) 180 k241, nc_i y3 (G.2 0) 180 k342, nc_i tx (G.2 1) 180 tf, nc_o (ad 0) 2 [.ref (ad 1), .ref (ad 5), .ref (ad 8), .int (nI 0), .int fa30, .int fp31], nc_o (ad 1) 6 [.ref (ad 2), .ref (ad 3), .ref (ad 4), .int (nI tc26), .int (nI ta27)], nc_q (ad 2) (G.2 3) 181 q19, nc_i (ad 3) (G.2 0) 181 pl20, nc_i (ad 4) (G.2 0) 181 vl21, nc_o (ad 5) 5 [.ref (ad 6), .int (nI nc28), .ref (ad 7), .int (nI 0)], nc_q (ad 6) (G.2 4) 90 (fun j => some (dn j)), nc_i (ad 7) (G.2 0) 5 ca22, nc_o (ad 8) 1 [.ref (ad 9), .ref (ad 10), .ref (ad 11), .int (nI cn29)], nc_i (ad 9) (G.2 0) 180 f123, nc_i (ad 10) (G.2 0) 180 f224, nc_i (ad 11) (G.2 0) 180 f325] ++ nz_pl L pf32) := hD
    refine lv_i2l (v := r2.toInt64) hx hb d_La_compile_6 (rfl) ?_
    refine va_last hx hb hK hP hD hS 0 2 rfl rfl (nb_in rfl) d_La_compile_7 (fun H locs hP hD hS => ?_)
    have hP : va_P G.1 nn_cls ([nc_l ou (G.2 2) 1 (vp_updL (ov) (0 : Int32).toNatClampNeg r2.toInt64), nc_o h9 0 [.ref tx, .int (nI 0), .ref (ad 0), .ref h1, .ref h0], nc_o h0 3 [.ref x1, .ref x2, .int v135, .int v236, .int v337, .int v438, .int v539, .int (nI 0)], nc_i x1 (G.2 0) 200 f33, nc_i x2 (G.2 0) 8 g34, nc_o h1 1 [.ref y1, .ref y2, .ref y3, .int (nI n43)], nc_i y1 (G.2 0) 180 k140, nc_i y2 (G.2 0) 180 k241, nc_i y3 (G.2 0) 180 k342, nc_i tx (G.2 1) 180 tf, nc_o (ad 0) 2 [.ref (ad 1), .ref (ad 5), .ref (ad 8), .int (nI 0), .int fa30, .int fp31], nc_o (ad 1) 6 [.ref (ad 2), .ref (ad 3), .ref (ad 4), .int (nI tc26), .int (nI ta27)], nc_q (ad 2) (G.2 3) 181 q19, nc_i (ad 3) (G.2 0) 181 pl20, nc_i (ad 4) (G.2 0) 181 vl21, nc_o (ad 5) 5 [.ref (ad 6), .int (nI nc28), .ref (ad 7), .int (nI 0)], nc_q (ad 6) (G.2 4) 90 (fun j => some (dn j)), nc_i (ad 7) (G.2 0) 5 ca22, nc_o (ad 8) 1 [.ref (ad 9), .ref (ad 10), .ref (ad 11), .int (nI cn29)], nc_i (ad 9) (G.2 0) 180 f123, nc_i (ad 10) (G.2 0) 180 f224, nc_i (ad 11) (G.2 0) 180 f325] ++ nz_pl L pf32) H := hP
    have hD : va_D A ([nc_l ou (G.2 2) 1 (vp_updL (ov) (0 : Int32).toNatClampNeg r2.toInt64), nc_o h9 0 [.ref tx, .int (nI 0), .ref (ad 0), .ref h1, .ref h0], nc_o h0 3 [.ref x1, .ref x2, .int v135, .int v236, .int v337, .int v438, .int v539, .int (nI 0)], nc_i x1 (G.2 0) 200 f33, nc_i x2 (G.2 0) 8 g34, nc_o h1 1 [.ref y1, .ref y2, .ref y3, .int (nI n43)], nc_i y1 (G.2 0) 180 k140, nc_i y2 (G.2 0) 180 k241, nc_i y3 (G.2 0) 180 k342, nc_i tx (G.2 1) 180 tf, nc_o (ad 0) 2 [.ref (ad 1), .ref (ad 5), .ref (ad 8), .int (nI 0), .int fa30, .int fp31], nc_o (ad 1) 6 [.ref (ad 2), .ref (ad 3), .ref (ad 4), .int (nI tc26), .int (nI ta27)], nc_q (ad 2) (G.2 3) 181 q19, nc_i (ad 3) (G.2 0) 181 pl20, nc_i (ad 4) (G.2 0) 181 vl21, nc_o (ad 5) 5 [.ref (ad 6), .int (nI nc28), .ref (ad 7), .int (nI 0)], nc_q (ad 6) (G.2 4) 90 (fun j => some (dn j)), nc_i (ad 7) (G.2 0) 5 ca22, nc_o (ad 8) 1 [.ref (ad 9), .ref (ad 10), .ref (ad 11), .int (nI cn29)], nc_i (ad 9) (G.2 0) 180 f123, nc_i (ad 10) (G.2 0) 180 f224, nc_i (ad 11) (G.2 0) 180 f325] ++ nz_pl L pf32) := hD
    refine lv_goto (tgt := 14) hx hb d_La_compile_8 rfl ?_
    refine lv_iconst (v := 0) hx hb d_La_compile_14 (by decide) ?_
    refine W.widen (k := 1) (n := 6) (Nat.le_of_ble_eq_true rfl) (Nat.le_of_ble_eq_true rfl) ?_
    have hP9 := hP.part (cx := [nc_o h9 0 [.ref tx, .int (nI 0), .ref (ad 0), .ref h1, .ref h0], nc_o h0 3 [.ref x1, .ref x2, .int v135, .int v236, .int v337, .int v438, .int v539, .int (nI 0)], nc_i x1 (G.2 0) 200 f33, nc_i x2 (G.2 0) 8 g34, nc_o h1 1 [.ref y1, .ref y2, .ref y3, .int (nI n43)], nc_i y1 (G.2 0) 180 k140, nc_i y2 (G.2 0) 180 k241, nc_i y3 (G.2 0) 180 k342, nc_i tx (G.2 1) 180 tf, nc_o (ad 0) 2 [.ref (ad 1), .ref (ad 5), .ref (ad 8), .int (nI 0), .int fa30, .int fp31], nc_o (ad 1) 6 [.ref (ad 2), .ref (ad 3), .ref (ad 4), .int (nI tc26), .int (nI ta27)], nc_q (ad 2) (G.2 3) 181 q19, nc_i (ad 3) (G.2 0) 181 pl20, nc_i (ad 4) (G.2 0) 181 vl21, nc_o (ad 5) 5 [.ref (ad 6), .int (nI nc28), .ref (ad 7), .int (nI 0)], nc_q (ad 6) (G.2 4) 90 (fun j => some (dn j)), nc_i (ad 7) (G.2 0) 5 ca22, nc_o (ad 8) 1 [.ref (ad 9), .ref (ad 10), .ref (ad 11), .int (nI cn29)], nc_i (ad 9) (G.2 0) 180 f123, nc_i (ad 10) (G.2 0) 180 f224, nc_i (ad 11) (G.2 0) 180 f325, nc_l ou (G.2 2) 1 (vp_updL (ov) (0 : Int32).toNatClampNeg r2.toInt64)]) [1, 2, 3, 4, 5, 6, 7, 8, 9, 10, 11, 12, 13, 14, 15, 16, 17, 18, 19, 20, 21, 0] rfl
    have hD9 := hD.part (cx := [nc_o h9 0 [.ref tx, .int (nI 0), .ref (ad 0), .ref h1, .ref h0], nc_o h0 3 [.ref x1, .ref x2, .int v135, .int v236, .int v337, .int v438, .int v539, .int (nI 0)], nc_i x1 (G.2 0) 200 f33, nc_i x2 (G.2 0) 8 g34, nc_o h1 1 [.ref y1, .ref y2, .ref y3, .int (nI n43)], nc_i y1 (G.2 0) 180 k140, nc_i y2 (G.2 0) 180 k241, nc_i y3 (G.2 0) 180 k342, nc_i tx (G.2 1) 180 tf, nc_o (ad 0) 2 [.ref (ad 1), .ref (ad 5), .ref (ad 8), .int (nI 0), .int fa30, .int fp31], nc_o (ad 1) 6 [.ref (ad 2), .ref (ad 3), .ref (ad 4), .int (nI tc26), .int (nI ta27)], nc_q (ad 2) (G.2 3) 181 q19, nc_i (ad 3) (G.2 0) 181 pl20, nc_i (ad 4) (G.2 0) 181 vl21, nc_o (ad 5) 5 [.ref (ad 6), .int (nI nc28), .ref (ad 7), .int (nI 0)], nc_q (ad 6) (G.2 4) 90 (fun j => some (dn j)), nc_i (ad 7) (G.2 0) 5 ca22, nc_o (ad 8) 1 [.ref (ad 9), .ref (ad 10), .ref (ad 11), .int (nI cn29)], nc_i (ad 9) (G.2 0) 180 f123, nc_i (ad 10) (G.2 0) 180 f224, nc_i (ad 11) (G.2 0) 180 f325, nc_l ou (G.2 2) 1 (vp_updL (ov) (0 : Int32).toNatClampNeg r2.toInt64)]) [1, 2, 3, 4, 5, 6, 7, 8, 9, 10, 11, 12, 13, 14, 15, 16, 17, 18, 19, 20, 21, 0] (by decide) rfl
    exact W.iret (v := 0) hx hb hr (fun t ht hW => ⟨⟨0, (tf, 0, q19, pl20, vl21, ca22, f123, f224, f325, tc26, ta27, nc28, 0, cn29, 0, fa30, fp31, pf32, f33, g34, v135, v236, v337, v438, v539, 0, k140, k241, k342, n43, (vp_updL (ov) (0 : Int32).toNatClampNeg r2.toInt64)), rfl, ⟨rfl, hn8, Nat.zero_le _⟩, ⟨by rw [ht]; exact hP9, hD9⟩⟩, hS.F ht⟩) hS.2.2 d_La_compile_15

theorem mw_820 : (.methodLink R_La 15 y_NP_run : Cond) ∈ nn_gw := nn_at 820 (by decide +kernel) (by decide +kernel)
theorem mw_821 : (.instanceMethod y_NP_run : Cond) ∈ nn_gw := nn_at 821 (by decide +kernel) (by decide +kernel)
theorem mw_822 : (.selects R_NP y_NP_run y_NP_run : Cond) ∈ nn_gw := nn_at 822 (by decide +kernel) (by decide +kernel)
theorem mw_823 : (.code y_NP_run b_NP_run 3 (some .int) : Cond) ∈ nn_gw := nn_at 823 (by decide +kernel) (by decide +kernel)
theorem d_La_run_0 : decode b_La_run 0 = .ok (.aload_n 2, 1) := by decide +kernel
theorem d_La_run_1 : decode b_La_run 1 = .ok (.iconst 0, 1) := by decide +kernel
theorem d_La_run_2 : decode b_La_run 2 = .ok (.aload_n 0, 1) := by decide +kernel
theorem d_La_run_3 : decode b_La_run 3 = .ok (.iload_n 1, 1) := by decide +kernel
theorem d_La_run_4 : decode b_La_run 4 = .ok (.invokevirtual 15, 3) := by decide +kernel
theorem d_La_run_7 : decode b_La_run 7 = .ok (.i2l, 1) := by decide +kernel
theorem d_La_run_8 : decode b_La_run 8 = .ok (.lastore, 1) := by decide +kernel
theorem d_La_run_9 : decode b_La_run 9 = .ok (.goto 6, 3) := by decide +kernel
theorem d_La_run_12 : decode b_La_run 12 = .ok (.astore_n 3, 1) := by decide +kernel
theorem d_La_run_13 : decode b_La_run 13 = .ok (.iconst 1, 1) := by decide +kernel
theorem d_La_run_14 : decode b_La_run 14 = .ok (.ireturn, 1) := by decide +kernel
theorem d_La_run_15 : decode b_La_run 15 = .ok (.iconst 0, 1) := by decide +kernel
theorem d_La_run_16 : decode b_La_run 16 = .ok (.ireturn, 1) := by decide +kernel

set_option maxHeartbeats 4000000 in
set_option maxRecDepth 100000 in
theorem h_run (l : Launch) (hfl : l.flags = flags0) (G : nn_G) (tk : Nat → Nat) (sz : Nat) (h9 tx cm h1 h0 : Nat) (tn : Nat) (x1 x2 : Nat) (f g : Nat → Int32) (v1 v2 v3 v4 v5 : Int32) (oc : Nat) (y1 y2 y3 : Nat) (f1 f2 f3 : Nat → Int32) (n : Nat) (k : Int32) (ou : Nat) (ov : Nat → Int64) (hoc : oc + 300 < 1000000) (hn : n ≤ 180) : Met l y_La_run w_La_run ({ frames := 10, cells := 1, slots := 6, locals := 300 }) (nz_P G tk [.ref h9, .int k, .ref ou] [nc_o h9 0 [.ref tx, .int (nI tn), .ref cm, .ref h1, .ref h0], nc_o h0 3 [.ref x1, .ref x2, .int v1, .int v2, .int v3, .int v4, .int v5, .int (nI oc)], nc_i x1 (G.2 0) 200 f, nc_i x2 (G.2 0) 8 g, nc_o h1 1 [.ref y1, .ref y2, .ref y3, .int (nI n)], nc_i y1 (G.2 0) 180 f1, nc_i y2 (G.2 0) 180 f2, nc_i y3 (G.2 0) 180 f3, nc_l ou (G.2 2) 1 ov] sz) (va_Qi (fun (r : Int32) (u : (Nat → Int32) × (Nat → Int32) × Int32 × Int32 × Int32 × Int32 × Int32 × Nat × (Nat → Int64)) => u.2.2.2.2.2.2.2.1 ≤ oc + 200) (fun u t => va_P G.1 nn_cls [nc_o h9 0 [.ref tx, .int (nI tn), .ref cm, .ref h1, .ref h0], nc_o h0 3 [.ref x1, .ref x2, .int u.2.2.1, .int u.2.2.2.1, .int u.2.2.2.2.1, .int u.2.2.2.2.2.1, .int u.2.2.2.2.2.2.1, .int (nI u.2.2.2.2.2.2.2.1)], nc_i x1 (G.2 0) 200 u.1, nc_i x2 (G.2 0) 8 u.2.1, nc_o h1 1 [.ref y1, .ref y2, .ref y3, .int (nI n)], nc_i y1 (G.2 0) 180 f1, nc_i y2 (G.2 0) 180 f2, nc_i y3 (G.2 0) 180 f3, nc_l ou (G.2 2) 1 u.2.2.2.2.2.2.2.2] t.heap ∧ va_D (va_A [nc_o h9 0 [.ref tx, .int (nI tn), .ref cm, .ref h1, .ref h0], nc_o h0 3 [.ref x1, .ref x2, .int v1, .int v2, .int v3, .int v4, .int v5, .int (nI oc)], nc_i x1 (G.2 0) 200 f, nc_i x2 (G.2 0) 8 g, nc_o h1 1 [.ref y1, .ref y2, .ref y3, .int (nI n)], nc_i y1 (G.2 0) 180 f1, nc_i y2 (G.2 0) 180 f2, nc_i y3 (G.2 0) 180 f3, nc_l ou (G.2 2) 1 ov] sz) [nc_o h9 0 [.ref tx, .int (nI tn), .ref cm, .ref h1, .ref h0], nc_o h0 3 [.ref x1, .ref x2, .int u.2.2.1, .int u.2.2.2.1, .int u.2.2.2.2.1, .int u.2.2.2.2.2.1, .int u.2.2.2.2.2.2.1, .int (nI u.2.2.2.2.2.2.2.1)], nc_i x1 (G.2 0) 200 u.1, nc_i x2 (G.2 0) 8 u.2.1, nc_o h1 1 [.ref y1, .ref y2, .ref y3, .int (nI n)], nc_i y1 (G.2 0) 180 f1, nc_i y2 (G.2 0) 180 f2, nc_i y3 (G.2 0) 180 f3, nc_l ou (G.2 2) 1 u.2.2.2.2.2.2.2.2]) (va_A [nc_o h9 0 [.ref tx, .int (nI tn), .ref cm, .ref h1, .ref h0], nc_o h0 3 [.ref x1, .ref x2, .int v1, .int v2, .int v3, .int v4, .int v5, .int (nI oc)], nc_i x1 (G.2 0) 200 f, nc_i x2 (G.2 0) 8 g, nc_o h1 1 [.ref y1, .ref y2, .ref y3, .int (nI n)], nc_i y1 (G.2 0) 180 f1, nc_i y2 (G.2 0) 180 f2, nc_i y3 (G.2 0) 180 f3, nc_l ou (G.2 2) 1 ov] sz)) 1 6 (va_A [nc_o h9 0 [.ref tx, .int (nI tn), .ref cm, .ref h1, .ref h0], nc_o h0 3 [.ref x1, .ref x2, .int v1, .int v2, .int v3, .int v4, .int v5, .int (nI oc)], nc_i x1 (G.2 0) 200 f, nc_i x2 (G.2 0) 8 g, nc_o h1 1 [.ref y1, .ref y2, .ref y3, .int (nI n)], nc_i y1 (G.2 0) 180 f1, nc_i y2 (G.2 0) 180 f2, nc_i y3 (G.2 0) 180 f3, nc_l ou (G.2 2) 1 ov] sz) := by
  refine va_MetW (cc := b_La_run) (maxL := 4) (ret := some .int) (hh := [(0, 9, 12, 13)]) (by decide) rfl ?_
  intro p e s m args below meth c s₁ B hml hv
  obtain ⟨rfl, ⟨hsz, hP, hK, hD0, hN⟩, hE⟩ := hv
  have hx := B.exec
  have hb := B.bytes
  have hr := B.returns
  have hts := atoms_spec (ws := w_La_run) B.pre
  have hg : ∀ w ∈ nn_gw, w.before _ s = true := fun w h => hts w (List.mem_cons_of_mem _ h)
  have hown : s.vm.findClass R_La = some m.cls := findClass_of_methodNamed B.named
  have hlocks := B.notSynchronized
  obtain ⟨x0, htab, hs1, hs2, hs3, hs4⟩ := nl_tab B (hts _ List.mem_cons_self)
  subst hsz
  have hD := hD0.self (sz := s.heap.size)
  generalize hAe : va_A [nc_o h9 0 [.ref tx, .int (nI tn), .ref cm, .ref h1, .ref h0], nc_o h0 3 [.ref x1, .ref x2, .int v1, .int v2, .int v3, .int v4, .int v5, .int (nI oc)], nc_i x1 (G.2 0) 200 f, nc_i x2 (G.2 0) 8 g, nc_o h1 1 [.ref y1, .ref y2, .ref y3, .int (nI n)], nc_i y1 (G.2 0) 180 f1, nc_i y2 (G.2 0) 180 f2, nc_i y3 (G.2 0) 180 f3, nc_l ou (G.2 2) 1 ov] s.heap.size = A at hD hE ⊢
  have hA : ∀ q : Nat, s.heap.size ≤ q → A q := fun q h => by rw [← hAe]; exact Or.inr h
  have hS : va_S A s.heap s.heap [] := va_S.rf
  have hP : va_P G.1 nn_cls [nc_o h9 0 [.ref tx, .int (nI tn), .ref cm, .ref h1, .ref h0], nc_o h0 3 [.ref x1, .ref x2, .int v1, .int v2, .int v3, .int v4, .int v5, .int (nI oc)], nc_i x1 (G.2 0) 200 f, nc_i x2 (G.2 0) 8 g, nc_o h1 1 [.ref y1, .ref y2, .ref y3, .int (nI n)], nc_i y1 (G.2 0) 180 f1, nc_i y2 (G.2 0) 180 f2, nc_i y3 (G.2 0) 180 f3, nc_l ou (G.2 2) 1 ov] s.heap := hP
  have hl := lv_entry ([.ref h9, .int k, .ref ou]) (n := 4) (Nat.le_of_ble_eq_true rfl)
  rw [lg_entry_eq]
  generalize (lg_sl ([.ref h9, .int k, .ref ou]) ++ List.replicate (4 - (lg_sl ([.ref h9, .int k, .ref ou])).length) Slot.unset).toArray = ls at hl ⊢
  have hl : lv_has ls 4 [(0, .ref h9), (1, .int k), (2, .ref ou)] := hl
  refine lv_aload_n hx hb d_La_run_0 rfl (lv_at hl 2 rfl) ?_
  refine lv_iconst (v := 0) hx hb d_La_run_1 (by decide) ?_
  refine lv_aload_n hx hb d_La_run_2 rfl (lv_at hl 0 rfl) ?_
  refine lv_iload_n hx hb d_La_run_3 rfl (lv_at hl 1 rfl) ?_
  have hPc := hP.sub (ws' := [nc_o h9 0 [.ref tx, .int (nI tn), .ref cm, .ref h1, .ref h0], nc_o h0 3 [.ref x1, .ref x2, .int v1, .int v2, .int v3, .int v4, .int v5, .int (nI oc)], nc_i x1 (G.2 0) 200 f, nc_i x2 (G.2 0) 8 g, nc_o h1 1 [.ref y1, .ref y2, .ref y3, .int (nI n)], nc_i y1 (G.2 0) 180 f1, nc_i y2 (G.2 0) 180 f2, nc_i y3 (G.2 0) 180 f3]) [0, 1, 2, 3, 4, 5, 6, 7] rfl
  have hDc := hD.sub (ws' := [nc_o h9 0 [.ref tx, .int (nI tn), .ref cm, .ref h1, .ref h0], nc_o h0 3 [.ref x1, .ref x2, .int v1, .int v2, .int v3, .int v4, .int v5, .int (nI oc)], nc_i x1 (G.2 0) 200 f, nc_i x2 (G.2 0) 8 g, nc_o h1 1 [.ref y1, .ref y2, .ref y3, .int (nI n)], nc_i y1 (G.2 0) 180 f1, nc_i y2 (G.2 0) 180 f2, nc_i y3 (G.2 0) 180 f3]) [0, 1, 2, 3, 4, 5, 6, 7] (by decide) rfl
  have hFc := va_free (wc := [nc_o h9 0 [.ref tx, .int (nI tn), .ref cm, .ref h1, .ref h0], nc_o h0 3 [.ref x1, .ref x2, .int v1, .int v2, .int v3, .int v4, .int v5, .int (nI oc)], nc_i x1 (G.2 0) 200 f, nc_i x2 (G.2 0) 8 g, nc_o h1 1 [.ref y1, .ref y2, .ref y3, .int (nI n)], nc_i y1 (G.2 0) 180 f1, nc_i y2 (G.2 0) 180 f2, nc_i y3 (G.2 0) 180 f3]) hD hS hA [0, 1, 2, 3, 4, 5, 6, 7] rfl
  refine nx_catchi (x0 := x0) (own := R_La) (nx_runV (As := [.int k]) (rest := [.int 0, .ref ou]) ⟨hx, hb, hml, hown, hts⟩ (x_run l hfl G tk _ h9 tx cm h1 h0 tn x1 x2 f g v1 v2 v3 v4 v5 oc y1 y2 y3 f1 f2 f3 n k hoc hn) (cwV 1 hts (nn_gV mw_823 mw_820 mw_821 mw_822 mw_87) rfl rfl rfl (by decide +kernel) ⟨Nat.le_of_ble_eq_true rfl, Nat.le_of_ble_eq_true rfl⟩) (nz_preV (va_recv hK hP rfl (q0 := 0) rfl) hPc hDc hK hN hE hS hFc) rfl rfl hl.1 rfl (lv_room (Nat.le_of_ble_eq_true rfl)) d_La_run_4 ⟨Nat.le_of_ble_eq_true rfl, Nat.le_of_ble_eq_true rfl⟩) hS (fun q _ h => hFc q h) hFc htab (by simp [covers, hs1, hs2]) (by rw [hs4]; decide) hown (by rw [hs4]; exact hg _ mw_392) (va_Nw.use rfl hE.1.2.2.2.2.2.2.2.2.2.1) (fun x H locs hqx hz1 hk1 hS => ?_) (fun r2 u1 t H locs ht hvm hw hB hz1 hk1 hS => ?_)
  · skip
    obtain ⟨hP1, hD1⟩ := hqx
    have hoc9 : oc ≤ oc + 200 := by omega
    obtain ⟨hP, hD⟩ := va_join (wr := [nc_l ou (G.2 2) 1 ov]) (w1 := [nc_o h9 0 [.ref tx, .int (nI tn), .ref cm, .ref h1, .ref h0], nc_o h0 3 [.ref x1, .ref x2, .int v1, .int v2, .int v3, .int v4, .int v5, .int (nI oc)], nc_i x1 (G.2 0) 200 f, nc_i x2 (G.2 0) 8 g, nc_o h1 1 [.ref y1, .ref y2, .ref y3, .int (nI n)], nc_i y1 (G.2 0) 180 f1, nc_i y2 (G.2 0) 180 f2, nc_i y3 (G.2 0) 180 f3]) hP hD [0, 1, 2, 3, 4, 5, 6, 7] [8] rfl rfl (by decide) (by decide) hk1 hFc hP1 hD1
    have hP : va_P G.1 nn_cls [nc_l ou (G.2 2) 1 ov, nc_o h9 0 [.ref tx, .int (nI tn), .ref cm, .ref h1, .ref h0], nc_o h0 3 [.ref x1, .ref x2, .int v1, .int v2, .int v3, .int v4, .int v5, .int (nI oc)], nc_i x1 (G.2 0) 200 f, nc_i x2 (G.2 0) 8 g, nc_o h1 1 [.ref y1, .ref y2, .ref y3, .int (nI n)], nc_i y1 (G.2 0) 180 f1, nc_i y2 (G.2 0) 180 f2, nc_i y3 (G.2 0) 180 f3] H := hP
    have hD : va_D A [nc_l ou (G.2 2) 1 ov, nc_o h9 0 [.ref tx, .int (nI tn), .ref cm, .ref h1, .ref h0], nc_o h0 3 [.ref x1, .ref x2, .int v1, .int v2, .int v3, .int v4, .int v5, .int (nI oc)], nc_i x1 (G.2 0) 200 f, nc_i x2 (G.2 0) 8 g, nc_o h1 1 [.ref y1, .ref y2, .ref y3, .int (nI n)], nc_i y1 (G.2 0) 180 f1, nc_i y2 (G.2 0) 180 f2, nc_i y3 (G.2 0) 180 f3] := hD
    rw [hs3]
    refine W.widen (k := 1) (n := 6) (Nat.le_of_ble_eq_true rfl) (Nat.le_of_ble_eq_true rfl) ?_
    refine lv_astore_n (lv' := [(3, .ref x), (0, .ref h9), (1, .int k), (2, .ref ou)]) hx hb d_La_run_12 rfl hl (by decide) rfl (fun ls hl => ?_)
    refine lv_iconst (v := 1) hx hb d_La_run_13 (by decide) ?_
    refine W.widen (k := 1) (n := 6) (Nat.le_of_ble_eq_true rfl) (Nat.le_of_ble_eq_true rfl) ?_
    have hP9 := hP.sub (ws' := [nc_o h9 0 [.ref tx, .int (nI tn), .ref cm, .ref h1, .ref h0], nc_o h0 3 [.ref x1, .ref x2, .int v1, .int v2, .int v3, .int v4, .int v5, .int (nI oc)], nc_i x1 (G.2 0) 200 f, nc_i x2 (G.2 0) 8 g, nc_o h1 1 [.ref y1, .ref y2, .ref y3, .int (nI n)], nc_i y1 (G.2 0) 180 f1, nc_i y2 (G.2 0) 180 f2, nc_i y3 (G.2 0) 180 f3, nc_l ou (G.2 2) 1 ov]) [1, 2, 3, 4, 5, 6, 7, 8, 0] rfl
    have hD9 := hD.sub (ws' := [nc_o h9 0 [.ref tx, .int (nI tn), .ref cm, .ref h1, .ref h0], nc_o h0 3 [.ref x1, .ref x2, .int v1, .int v2, .int v3, .int v4, .int v5, .int (nI oc)], nc_i x1 (G.2 0) 200 f, nc_i x2 (G.2 0) 8 g, nc_o h1 1 [.ref y1, .ref y2, .ref y3, .int (nI n)], nc_i y1 (G.2 0) 180 f1, nc_i y2 (G.2 0) 180 f2, nc_i y3 (G.2 0) 180 f3, nc_l ou (G.2 2) 1 ov]) [1, 2, 3, 4, 5, 6, 7, 8, 0] (by decide) rfl
    exact W.iret (v := 1) hx hb hr (fun t ht hW => ⟨⟨1, (f, g, v1, v2, v3, v4, v5, oc, ov), rfl, hoc9, ⟨by rw [ht]; exact hP9, hD9⟩⟩, hS.F ht⟩) hS.2.2 d_La_run_14
  · skip
    obtain ⟨w3, w4, w5, w6, w7, w8, w9, w10⟩ := u1
    dsimp only at hB hw
    have hoc9 : w10 ≤ oc + 200 := hw
    obtain ⟨hP1, hD1⟩ := hB
    rw [ht] at hP1
    obtain ⟨hP, hD⟩ := va_join (wr := [nc_l ou (G.2 2) 1 ov]) (w1 := [nc_o h9 0 [.ref tx, .int (nI tn), .ref cm, .ref h1, .ref h0], nc_o h0 3 [.ref x1, .ref x2, .int w5, .int w6, .int w7, .int w8, .int w9, .int (nI w10)], nc_i x1 (G.2 0) 200 w3, nc_i x2 (G.2 0) 8 w4, nc_o h1 1 [.ref y1, .ref y2, .ref y3, .int (nI n)], nc_i y1 (G.2 0) 180 f1, nc_i y2 (G.2 0) 180 f2, nc_i y3 (G.2 0) 180 f3]) hP hD [0, 1, 2, 3, 4, 5, 6, 7] [8] rfl rfl (by decide) (by decide) hk1 hFc hP1 hD1
    have hP : va_P G.1 nn_cls [nc_l ou (G.2 2) 1 ov, nc_o h9 0 [.ref tx, .int (nI tn), .ref cm, .ref h1, .ref h0], nc_o h0 3 [.ref x1, .ref x2, .int w5, .int w6, .int w7, .int w8, .int w9, .int (nI w10)], nc_i x1 (G.2 0) 200 w3, nc_i x2 (G.2 0) 8 w4, nc_o h1 1 [.ref y1, .ref y2, .ref y3, .int (nI n)], nc_i y1 (G.2 0) 180 f1, nc_i y2 (G.2 0) 180 f2, nc_i y3 (G.2 0) 180 f3] H := hP
    have hD : va_D A [nc_l ou (G.2 2) 1 ov, nc_o h9 0 [.ref tx, .int (nI tn), .ref cm, .ref h1, .ref h0], nc_o h0 3 [.ref x1, .ref x2, .int w5, .int w6, .int w7, .int w8, .int w9, .int (nI w10)], nc_i x1 (G.2 0) 200 w3, nc_i x2 (G.2 0) 8 w4, nc_o h1 1 [.ref y1, .ref y2, .ref y3, .int (nI n)], nc_i y1 (G.2 0) 180 f1, nc_i y2 (G.2 0) 180 f2, nc_i y3 (G.2 0) 180 f3] := hD
    refine lv_i2l (v := r2.toInt64) hx hb d_La_run_7 (rfl) ?_
    refine va_last hx hb hK hP hD hS 0 2 rfl rfl (nb_in rfl) d_La_run_8 (fun H locs hP hD hS => ?_)
    have hP : va_P G.1 nn_cls [nc_l ou (G.2 2) 1 (vp_updL (ov) (0 : Int32).toNatClampNeg r2.toInt64), nc_o h9 0 [.ref tx, .int (nI tn), .ref cm, .ref h1, .ref h0], nc_o h0 3 [.ref x1, .ref x2, .int w5, .int w6, .int w7, .int w8, .int w9, .int (nI w10)], nc_i x1 (G.2 0) 200 w3, nc_i x2 (G.2 0) 8 w4, nc_o h1 1 [.ref y1, .ref y2, .ref y3, .int (nI n)], nc_i y1 (G.2 0) 180 f1, nc_i y2 (G.2 0) 180 f2, nc_i y3 (G.2 0) 180 f3] H := hP
    have hD : va_D A [nc_l ou (G.2 2) 1 (vp_updL (ov) (0 : Int32).toNatClampNeg r2.toInt64), nc_o h9 0 [.ref tx, .int (nI tn), .ref cm, .ref h1, .ref h0], nc_o h0 3 [.ref x1, .ref x2, .int w5, .int w6, .int w7, .int w8, .int w9, .int (nI w10)], nc_i x1 (G.2 0) 200 w3, nc_i x2 (G.2 0) 8 w4, nc_o h1 1 [.ref y1, .ref y2, .ref y3, .int (nI n)], nc_i y1 (G.2 0) 180 f1, nc_i y2 (G.2 0) 180 f2, nc_i y3 (G.2 0) 180 f3] := hD
    refine lv_goto (tgt := 15) hx hb d_La_run_9 rfl ?_
    refine lv_iconst (v := 0) hx hb d_La_run_15 (by decide) ?_
    refine W.widen (k := 1) (n := 6) (Nat.le_of_ble_eq_true rfl) (Nat.le_of_ble_eq_true rfl) ?_
    have hP9 := hP.sub (ws' := [nc_o h9 0 [.ref tx, .int (nI tn), .ref cm, .ref h1, .ref h0], nc_o h0 3 [.ref x1, .ref x2, .int w5, .int w6, .int w7, .int w8, .int w9, .int (nI w10)], nc_i x1 (G.2 0) 200 w3, nc_i x2 (G.2 0) 8 w4, nc_o h1 1 [.ref y1, .ref y2, .ref y3, .int (nI n)], nc_i y1 (G.2 0) 180 f1, nc_i y2 (G.2 0) 180 f2, nc_i y3 (G.2 0) 180 f3, nc_l ou (G.2 2) 1 (vp_updL (ov) (0 : Int32).toNatClampNeg r2.toInt64)]) [1, 2, 3, 4, 5, 6, 7, 8, 0] rfl
    have hD9 := hD.sub (ws' := [nc_o h9 0 [.ref tx, .int (nI tn), .ref cm, .ref h1, .ref h0], nc_o h0 3 [.ref x1, .ref x2, .int w5, .int w6, .int w7, .int w8, .int w9, .int (nI w10)], nc_i x1 (G.2 0) 200 w3, nc_i x2 (G.2 0) 8 w4, nc_o h1 1 [.ref y1, .ref y2, .ref y3, .int (nI n)], nc_i y1 (G.2 0) 180 f1, nc_i y2 (G.2 0) 180 f2, nc_i y3 (G.2 0) 180 f3, nc_l ou (G.2 2) 1 (vp_updL (ov) (0 : Int32).toNatClampNeg r2.toInt64)]) [1, 2, 3, 4, 5, 6, 7, 8, 0] (by decide) rfl
    exact W.iret (v := 0) hx hb hr (fun t ht hW => ⟨⟨0, (w3, w4, w5, w6, w7, w8, w9, w10, (vp_updL (ov) (0 : Int32).toNatClampNeg r2.toInt64)), rfl, hoc9, ⟨by rw [ht]; exact hP9, hD9⟩⟩, hS.F ht⟩) hS.2.2 d_La_run_16
