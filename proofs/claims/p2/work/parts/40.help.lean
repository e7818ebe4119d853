/-! a world in two parts, of which a call has one; a call that may throw, under the one entry of the caller's table -/
theorem nl_rg (Z : va_W) : (List.range Z.length).map (fun i => Z[i]?) = Z.map some := by
  apply List.ext_getElem?
  intro j
  rw [List.getElem?_map, List.getElem?_map]
  by_cases h : j < Z.length
  · rw [List.getElem?_range h, List.getElem?_eq_getElem h]
    show some (Z[j]?) = some (some Z[j])
    rw [List.getElem?_eq_getElem h]
  · rw [List.getElem?_eq_none (by rw [List.length_range]; omega), List.getElem?_eq_none (by omega)]
    rfl
theorem nl_sP {D : va_G} {cl : List vw_C} {X Z : va_W} {H : Heap} (h : va_P D cl (X ++ Z) H) : va_P D cl (Z ++ X) H := va_P.swap (a := []) (b := X) (c := Z) h
theorem nl_sD {A : Nat → Prop} {X Z : va_W} (h : va_D A (X ++ Z)) : va_D A (Z ++ X) := va_D.swap (a := []) (b := X) (c := Z) h
/-- the first part of a world by itself -/
theorem nl_fst {A : Nat → Prop} {D : va_G} {cl : List vw_C} {X Z : va_W} {H0 H : Heap} {locs : List Loc} (hP : va_P D cl (X ++ Z) H) (hD : va_D A (X ++ Z)) (hS : va_S A H0 H locs) (hA : ∀ q, H0.size ≤ q → A q) : va_P D cl X H ∧ va_D A X ∧ ∀ q, va_A X H.size q → A q := by
  have hg : ∀ (k : Nat) (q : Nat × va_E), X[k]? = some q → (X ++ Z)[k]? = some q := fun k q hk => by
    rw [List.getElem?_append_left (List.getElem?_eq_some_iff.mp hk).1]; exact hk
  refine ⟨hP.by id hg, hD.by id hg (fun i j _ _ e => e), fun q h => ?_⟩
  rcases h with ⟨k, e, h⟩ | h
  · exact hD.2 k _ (hg k _ h)
  · exact hA q (Nat.le_trans hS.1 h)
theorem nl_joinF {A0 : Nat → Prop} {D : va_G} {cl : List vw_C} {X X1 Z : va_W} {H H1 : Heap} (hP : va_P D cl (X ++ Z) H) (hD : va_D A0 (X ++ Z))
    (hk : ∀ q : Nat, q < H.size → ¬ va_A X H.size q → H1[q]? = H[q]?) (hF : ∀ q, va_A X H.size q → A0 q) (hP1 : va_P D cl X1 H1) (hD1 : va_D (va_A X H.size) X1) : va_P D cl (X1 ++ Z) H1 ∧ va_D A0 (X1 ++ Z) :=
  va_joinQ (X := X) (cx := X) (wr := []) (w1 := X1) (pl := Z) hP hD (List.range X.length) [] (nl_rg X) rfl rfl (fun _ h => absurd h List.not_mem_nil) hk hF hP1 hD1
/-- the last part of a world by itself -/
theorem nl_lst {A : Nat → Prop} {D : va_G} {cl : List vw_C} {X Z : va_W} {H0 H : Heap} {locs : List Loc} (hP : va_P D cl (X ++ Z) H) (hD : va_D A (X ++ Z)) (hS : va_S A H0 H locs) (hA : ∀ q, H0.size ≤ q → A q) : va_P D cl Z H ∧ va_D A Z ∧ ∀ q, va_A Z H.size q → A q := nl_fst (nl_sP hP) (nl_sD hD) hS hA
theorem nl_joinL {A0 : Nat → Prop} {D : va_G} {cl : List vw_C} {X Z Z1 : va_W} {H H1 : Heap} (hP : va_P D cl (X ++ Z) H) (hD : va_D A0 (X ++ Z))
    (hk : ∀ q : Nat, q < H.size → ¬ va_A Z H.size q → H1[q]? = H[q]?) (hF : ∀ q, va_A Z H.size q → A0 q) (hP1 : va_P D cl Z1 H1) (hD1 : va_D (va_A Z H.size) Z1) : va_P D cl (X ++ Z1) H1 ∧ va_D A0 (X ++ Z1) := by
  obtain ⟨h1, h2⟩ := nl_joinF (nl_sP hP) (nl_sD hD) hk hF hP1 hD1
  exact ⟨nl_sP h1, nl_sD h2⟩
theorem nl_tab {p : Program} {l : Launch} {x : MethodName} {S : Spec} {bc : ByteArray} {n : Nat} {rt : Option FieldType} {e : Env} {s : State} {m : MethodId} {args : Array Value} {below : List Frame} {meth : Method} {c : Code} {s₁ : State} {h1 h2 h3 h4 : Nat}
    (B : BodyLoose p l x S bc n rt e s m args below meth c s₁) (h : (Cond.codeWith x bc n rt [(h1, h2, h3, h4)]).before args s = true) : ∃ x0 : ExceptionTableEntry, c.exceptionTable.toList = [x0] ∧ x0.startPc = h1 ∧ x0.endPc = h2 ∧ x0.handlerPc = h3 ∧ x0.catchType = h4 := by
  obtain ⟨m', meth', c', hn', hm', hc', -, -, ht, -⟩ := Cond.codeWith_spec h
  cases B.named.symm.trans hn'
  cases B.method.symm.trans hm'
  cases (Stand.of_body B).code.symm.trans hc'
  match hl : c.exceptionTable.toList, ht with
  | [x0], ht =>
    simp only [List.map_cons, List.map_nil, List.cons.injEq, Prod.mk.injEq, and_true] at ht
    exact ⟨x0, rfl, ht.1, ht.2.1, ht.2.2.1, ht.2.2.2⟩
abbrev w_La_compile : List Cond := .codeWith y_La_compile b_La_compile 3 (some .int) [(0, 8, 11, 13)] :: nn_gw
abbrev w_La_run : List Cond := .codeWith y_La_run b_La_run 4 (some .int) [(0, 9, 12, 13)] :: nn_gw
section NL3
variable {p : Program} {l : Launch} {e : Env} {R : Room} {s : State} {m : MethodId} {args : Array Value} {below : List Frame} {meth : Method} {c : Code} {H : Heap} {locs : List Loc} {cells slots : Nat}
/-- a static call of a method that has handlers -/
theorem nl_runSW {y : MethodName} {bytes cc : ByteArray} {maxL nL mc ms n index : Nat} {ret : Option FieldType} {hh : List (Nat × Nat × Nat × Nat)} {rm : Room} {Pc : Array Value → State → Prop} {Qc : Array Value → State → Outcome → State → Prop} {free : Addr → Prop} {c1 : Cond} {own : String} {As rest : List Value} {g : JFrame}
    (S : CallFix p m c cc nL s args (c1 :: nn_gw) own) (hM : Met l y (Cond.codeWith y bytes maxL ret hh :: nn_gw) rm Pc Qc mc ms free) (hrc : rm.cells = mc) (hrs : rm.slots = ms) (hR : rm.frames + 1 ≤ R.frames ∧ 8 + (maxL + 11) + rm.locals ≤ R.locals)
    (hcm : Cond.codeWith y bytes maxL ret hh ∈ nn_gw) (hlm : Cond.methodLink own index y ∈ nn_gw) (hsm : Cond.static y ∈ nn_gw) (him : Cond.initialized y.cls ∈ nn_gw)
    (hd : y.cls ≠ "java/lang/invoke/MethodHandle" ∧ y.cls ≠ "java/lang/invoke/VarHandle" ∧ (parseMethodDescriptor y.desc).map (fun d => d.parameters.length) = some n) (hp : PreS s H Pc As)
    (hg : g.method = m) (hn : As.length = n) (hsize : g.locals.size = nL) (hstack : g.stack = As.reverse ++ rest) (hW : 2 * g.monitorRoom + (rest.map fun v => v.category).sum ≤ 8) (hdg : decode cc g.pc = .ok (.invokestatic index, 3)) (hf : cells + mc ≤ R.cells ∧ slots + ms ≤ R.slots) :
    va_Run p l e R s m args below meth c H locs cells slots mc ms g rest (Qc As.toArray) free := by
  obtain ⟨hx, hb, hml, ho, hts⟩ := S
  have hgw : ∀ w ∈ nn_gw, w.before args s = true := fun w h => hts w (List.mem_cons_of_mem _ h)
  have hcode := hgw _ hcm
  have hini := hgw _ him
  have hws : ∀ w ∈ (Cond.codeWith y bytes maxL ret hh :: nn_gw), ∀ (a' : Array Value) (U : State), s.WarmedH U.vm → w.before a' U = true := pay_in hts (nn_gd hcm)
  have hK : Back l R p e below s args y 3 8 (PreOf R mc ms Pc) (PostOf Qc mc ms free) := va_backW (hh := hh) hM hp.1 hrc hrs hR.1 hR.2 hws List.mem_cons_self (fun a' U hW => word_at hW (Or.inl (by first | rfl | simp [Cond.onTables, Cond.keeps, Cond.steady])) hini)
  intro T hT X
  obtain ⟨mk, methM, cM, hnamed, hmethM, -, -, -, -, -, -, hsigM⟩ := Cond.codeWith_spec hcode
  have hstatic : methM.isStatic = true := Cond.static_spec hnamed hmethM (hgw _ hsm)
  obtain ⟨kP, hkP, -⟩ := className_of_methodNamed hnamed
  have hinitP : kP.init = .initialized := Cond.initialized_spec (findClass_of_methodNamed hnamed) hkP hini
  have hlenM : As.length = methM.sig.parameters.length := by
    have h2 := hd.2.2
    rw [hsigM] at h2
    exact hn.trans (Option.some.inj h2).symm
  obtain ⟨vm₁, X₁, hstep₁⟩ := X.invokestatic hx ho (hgw _ hlm) hnamed hmethM hstatic hkP hinitP ⟨hd.1, hd.2.1⟩ (g := g) hg (argsL := As) (rest := rest) hlenM hstack (by rw [hb]; exact hdg)
  obtain ⟨v, B, X', hpost, hsteps⟩ := hK m meth c ⟨T.setVm vm₁, locs, cells, slots⟩ { g with stack := rest } (.invokestatic index) mk As.toArray X₁ hg (hsize.trans hml.symm) (by rw [hb]; exact hdg) hW (X₁.named hnamed) ⟨hf.1, hf.2, hp.2 (T.setVm vm₁) hT X₁.warmed⟩
  obtain ⟨U', l2, c2, s2⟩ := B
  obtain ⟨g', mk', t, L, e1, e2, hq, h1, hL, h2, h3⟩ := hpost
  dsimp only [Pt.U, Pt.locs, Pt.cells, Pt.slots] at X' e1 e2 h1 h2 h3 hsteps
  subst h1; subst h2; subst h3
  exact ⟨v, (T.setVm vm₁).calling g' mk' As.toArray, t, U', L, hT, X', hL, e1, e2, hq, fun tg h => hstep₁ _ fun acts => by rw [doInvoke_state]; exact hsteps.trans h⟩
variable {mc ms : Nat} {free : Addr → Prop} {rest : List Value} {Qx : Heap → Prop} {A1 : Nat → Prop} {Q : State → Prop}
variable {pc : Nat} {ls : Array Slot} {st0 : List Value} {a : Array Value} {A0 : Nat → Prop} {own : String}
theorem nx_catchi {S : Type} {post : Int32 → S → Prop} {B : S → State → Prop} {x0 : ExceptionTableEntry} (hr : nx_Run p l e R s m args below meth c H locs cells slots mc ms (F0 m pc ls st0) rest (va_Qi post B A1 a) Qx A1 free)
    (hS : va_S A0 s.heap H locs) (hA : ∀ q, q < H.size → A1 q → A0 q) (hf : ∀ q, free q → A0 q)
    (htab : c.exceptionTable.toList = [x0]) (hcov : covers x0 pc = true) (h0 : x0.catchType ≠ 0) (hown : s.vm.findClass own = some m.cls) (hlink : (Cond.classLink own x0.catchType nt_IAE).before args s = true) (hcast : (Cond.castable nt_IAE nt_IAE).before args s = true)
    (kx : ∀ (x : Nat) (H1 : Heap) (locs1 : List Loc), Qx H1 → H.size ≤ H1.size → (∀ q : Nat, q < H.size → ¬ A1 q → H1[q]? = H[q]?) → va_S A0 s.heap H1 locs1 → W p l e R s m args below meth c H1 locs1 (cells + mc) (slots + ms) Q (F0 m x0.handlerPc ls [.ref x]))
    (kk : ∀ (r : Int32) (u : S) (t : State) (H1 : Heap) (locs1 : List Loc), t.heap = H1 → s.vm.Alike t.vm → post r u → B u t → H.size ≤ H1.size → (∀ q : Nat, q < H.size → ¬ A1 q → H1[q]? = H[q]?) → va_S A0 s.heap H1 locs1 → W p l e R s m args below meth c H1 locs1 cells slots Q (F0 m (pc + 3) ls (.int r :: rest))) :
    W p l e R s m args below meth c H locs cells slots Q (F0 m pc ls st0) := by
  intro T hT X
  have hSn : ∀ (T' : State) (L : List Loc), H.size ≤ T'.heap.size → (∀ q : Nat, q < H.size → ¬ A1 q → T'.heap[q]? = H[q]?) → (∀ q ∈ L, free q.base) → va_S A0 s.heap T'.heap (locs ++ L) := fun T' L hz hk hL =>
    ⟨Nat.le_trans hS.1 hz, fun q h1 h2 => by rw [hk q (Nat.lt_of_lt_of_le h1 hS.1) (fun z => h2 (hA q (Nat.lt_of_lt_of_le h1 hS.1) z))]; exact hS.2.1 q h1 h2, fun q hq => by
      rcases List.mem_append.mp hq with h | h
      · exact hS.2.2 q h
      · exact hf _ (hL q h)⟩
  rcases hr T hT X with ⟨v, st₀, t, T', L, h0', X', hL, e1, e2, hQ, st⟩ | ⟨x, T', L, X', hL, hX, hQx, hz, hk, st⟩
  · obtain ⟨⟨r, u, hv, g1, g2⟩, hz, hk⟩ := hQ
    cases hv
    rw [h0', ← e1] at hz hk
    obtain ⟨t2, a1, b1⟩ := kk r u t T'.heap (locs ++ L) e1.symm (by rw [← e2]; exact X'.warmed.alike) g1 g2 hz hk (hSn T' L hz hk hL) T' rfl X'
    exact ⟨t2, st t2 a1, b1⟩
  · have hSS := hSn T' L hz hk hL
    obtain ⟨cell, h1, h2, h3⟩ := hX
    have hal := X'.warmed.alike
    have hcs : s.vm.findClass nt_IAE = some cell.cls := by rw [← hal.findClass]; exact h3
    have hpl : e.platform.magicAccessors = ({} : Platform).magicAccessors := by rw [X'.admits.platform]
    obtain ⟨c', hc', hcl⟩ := Cond.classLink_spec hown hlink e.platform hpl
    have e0 : cell.cls = c' := Option.some.inj (hcs.symm.trans hc')
    subst e0
    obtain ⟨dk, _, _, kt, hd, _, _, _, _, hkt, _, hopen⟩ := hcl.here
    have hcl₀ := X'.warmed.classLinks hcl
    have hW' : s.WarmedH (T'.vm.noted m.cls x0.catchType (.cls cell.cls)) := X'.warmed.noted hd hopen (State.rightAt_cls hcl)
    obtain ⟨c3, c4, w1, w2, w3⟩ := Cond.castable_spec hcast
    have e1 : cell.cls = c3 := Option.some.inj (hcs.symm.trans w1)
    have e2 : cell.cls = c4 := Option.some.inj (hcs.symm.trans w2)
    subst e1
    subst e2
    obtain ⟨kt', hkt', -⟩ := hal.2.2 _ _ hkt
    have hfit' : T'.vm.assignable cell.cls cell.cls = true := by rw [hal.assignable]; exact w3
    have X₂ := X'.noted hW'
    obtain ⟨t, a1, b1⟩ := kx x T'.heap (locs ++ L) hQx hz hk hSS (T'.setVm (T'.vm.noted m.cls x0.catchType (.cls cell.cls))) rfl X₂
    refine ⟨t, st t ?_, b1⟩
    refine nt_caught (g := { F0 m pc ls st0 with stack := rest }) X'.here (pc := x0.handlerPc) (vm' := T'.vm.noted m.cls x0.catchType (.cls cell.cls)) ?_ a1
    intro Q' E d acts
    exact nt_find (u := (T'.setTop { F0 m pc ls st0 with stack := rest }).pushFrame (.throwing x)) (f := { F0 m pc ls st0 with stack := rest }) (meth := meth) (code := c) X'.method' X'.code htab hcov h0 (cT := cell.cls) (cell := cell) hcl₀ h1 (fun k hk => by rw [hk] at h2; cases h2) ⟨kt', hkt'⟩ ⟨kt', hkt'⟩ hfit' Q' E d acts
end NL3

