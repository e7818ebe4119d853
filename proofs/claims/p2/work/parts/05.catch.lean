/-! a catch of the thrown object by the one entry of the method's table; a throw of a new object -/
theorem nt_find {e : Env} {u : State} {f : JFrame} {a : Addr} {meth : Method} {code : Code} (hm : u.vm.method? f.method = some meth) (hc : meth.code = some code) {x0 : ExceptionTableEntry} (htab : code.exceptionTable.toList = [x0]) (hcov : covers x0 f.pc = true) (h0 : x0.catchType ≠ 0)
    {cT : ClassId} {cell : Cell} (hl : u.vm.ClassLinks e.platform f.method.cls x0.catchType cT) (hcell : u.heap[a]? = some cell) (hobj : ∀ k, cell.vm ≠ .statics k) (hk : ∃ k, u.vm.classes[cell.cls]? = some k) (hk2 : ∃ k, u.vm.classes[cT]? = some k) (hfit : u.vm.assignable cell.cls cT = true)
    (Q : Handler → Pre) (E : CtlPost) (d : Bool) (acts : List Action) :
    wp (findHandler f a) Q E e d acts u ↔ Q (.found x0.handlerPc) d acts (u.setVm (u.vm.noted f.method.cls x0.catchType (.cls cT))) := by
  have hcov' := hcov
  simp only [covers] at hcov'
  obtain ⟨ha, ht⟩ := (resolveClass_links e.toSetting hl).op (op := VmOp.resolveClass f.method.cls x0.catchType) rfl
  have hal : u.vm.Alike (u.vm.noted f.method.cls x0.catchType (.cls cT)) := (Vm.Alike.refl u.vm).noted _ _ _
  obtain ⟨k1, hk1⟩ := hk
  obtain ⟨k2, hk2⟩ := hk2
  obtain ⟨k1', hk1', -⟩ := hal.2.2 _ _ hk1
  obtain ⟨k2', hk2', -⟩ := hal.2.2 _ _ hk2
  have hfit' : (u.vm.noted f.method.cls x0.catchType (.cls cT)).assignable cell.cls cT = true := by rw [hal.assignable]; exact hfit
  rw [W.findHandler_eq hm hc, htab]
  simp [findHandler.go, hcov', h0, ha, ht, hcell, hobj, hk1', hk2', hfit', VmOp.dirties, VmOp.acts]
theorem nt_caught {tb : Tables} {e : Env} {T target : State} {g : JFrame} {c : Code} {below : List Frame} {a : Addr} (h : At T g.method c below) {pc : Nat} {vm' : Vm}
    (hfind : ∀ (Q : Handler → Pre) (E : CtlPost) (d : Bool) (acts : List Action), wp (findHandler g a) Q E e d acts ((T.setTop g).pushFrame (.throwing a)) ↔ Q (.found pc) d acts (((T.setTop g).pushFrame (.throwing a)).setVm vm'))
    (hrest : Steps tb e below ((T.setVm vm').setTop { g with pc := pc, stack := [.ref a] }) target) : Steps tb e below ((T.setTop g).pushFrame (.throwing a)) target := by
  have key : ∀ (r : List Frame), (stepThrowing e ((T.setTop g).pushFrame (.throwing a)) a (.java g :: r)).Is ((((T.setTop g).pushFrame (.throwing a)).setVm vm').setFrames (.java { g with pc := pc, stack := [.ref a] } :: r)) [] := by
    intro r
    simp only [stepThrowing, searchFrame, vmDo]
    generalize hr : Sem.go _ e false [] ((T.setTop g).pushFrame (.throwing a)) = res
    obtain ⟨as, rfl, ha⟩ := Sem.eq_ok_of hr (a := Handler.found pc) (s' := ((T.setTop g).pushFrame (.throwing a)).setVm vm') (acts' := []) (by simp [hfind _ _ _ _])
    exact ⟨rfl, ha⟩
  obtain ⟨hgo, hw⟩ := h.throwing a
  refine Steps.head hgo hw ?_
  rw [stepThread_throwing (frames_entered h.top _), (key _).1]
  obtain ⟨g₀, hg⟩ := Option.isSome_iff_exists.mp h.top
  obtain ⟨r, hr⟩ := State.topJava?_eq_some.mp hg
  have hr' : (T.setVm vm').frames = .java g₀ :: r := hr
  rw [State.setTop_of_frames _ hr'] at hrest
  have e1 : ∀ (u : State) (F K : List Frame), ((u.setFrames F).setVm vm').setFrames K = (u.setVm vm').setFrames K := by
    intro u F K
    have h1 : (u.setFrames F).setVm vm' = (u.setVm vm').setFrames F := rfl
    rw [h1, State.setFrames_setFrames]
  rw [hr, List.tail_cons, State.pushFrame, e1, State.setTop_of_frames _ hr, e1]
  exact hrest
section NT2
variable {p : Program} {l : Launch} {e : Env} {R : Room} {s : State} {m : MethodId} {args : Array Value} {below : List Frame} {meth : Method} {c : Code} {H : Heap} {locs : List Loc} {cells slots : Nat} {Q : State → Prop}
variable {y : MethodName} {bytes cc : ByteArray} {maxL nL mc ms n index : Nat} {ret : Option FieldType} {ws : List Cond} {rm : Room} {Pc : Array Value → State → Prop} {free : Addr → Prop} {Ts : List Cond} {own C : String} {b : Addr} {As rest : List Value}
/-- a virtual call of a method that throws, under the one entry of the caller's table: on at the handler -/
theorem nt_catchV {pc : Nat} {ls : Array Slot} {st0 : List Value} {A : Nat → Prop} {x0 : ExceptionTableEntry} (S : CallFix p m c cc nL s args Ts own) (hM : nt_Met l y ws rm Pc mc ms free) (cw : CallW R s args own C index y bytes maxL ret ws rm mc ms n) (hp : PreV s H C b Pc As)
    (hn : As.length = n) (hsize : ls.size = nL) (hstack : st0 = As.reverse ++ .ref b :: rest) (hW : 2 * (F0 m pc ls st0).monitorRoom + (rest.map fun v => v.category).sum ≤ 8) (hdg : decode cc pc = .ok (.invokevirtual index, 3)) (hf : cells + mc ≤ R.cells ∧ slots + ms ≤ R.slots)
    (htab : c.exceptionTable.toList = [x0]) (hcov : covers x0 pc = true) (h0 : x0.catchType ≠ 0) (hlink : (Cond.classLink own x0.catchType nt_IAE).before args s = true) (hcast : (Cond.castable nt_IAE nt_IAE).before args s = true)
    (hfl : ∀ q ∈ locs, A q.base) (hff : ∀ q, free q → A q)
    (kk : ∀ (x : Nat) (H1 : Heap) (locs1 : List Loc), va_S A s.heap H1 locs1 → W p l e R s m args below meth c H1 locs1 (cells + mc) (slots + ms) Q (F0 m x0.handlerPc ls [.ref x])) :
    W p l e R s m args below meth c H locs cells slots Q (F0 m pc ls st0) := by
  intro T hT X
  obtain ⟨x, T', L, X', hL, hX, st⟩ := nt_callV (g := F0 m pc ls st0) S hM cw hp rfl hn hsize hstack hW hdg hf hT X
  have hSS : va_S A s.heap T'.heap (locs ++ L) := nt_S X' (fun q hq => by
    rcases List.mem_append.mp hq with h | h
    · exact hfl q h
    · exact hff _ (hL q h))
  obtain ⟨cell, h1, h2, h3⟩ := hX
  have hal := X'.warmed.alike
  have hcs : s.vm.findClass nt_IAE = some cell.cls := by rw [← hal.findClass]; exact h3
  have hpl : e.platform.magicAccessors = ({} : Platform).magicAccessors := by rw [X'.admits.platform]
  obtain ⟨c', hc', hcl⟩ := Cond.classLink_spec S.2.2.2.1 hlink e.platform hpl
  have e0 : cell.cls = c' := Option.some.inj (hcs.symm.trans hc')
  subst e0
  obtain ⟨dk, _, _, kt, hd, _, _, _, _, hkt, _, hopen⟩ := hcl.here
  have hcl₀ := X'.warmed.classLinks hcl
  have hW' : s.WarmedH (T'.vm.noted m.cls x0.catchType (.cls cell.cls)) := X'.warmed.noted hd hopen (State.rightAt_cls hcl)
  obtain ⟨c3, c4, w1, w2, w3⟩ := Cond.castable_spec hcast
  have e1 : cell.cls = c3 := Option.some.inj (hcs.symm.trans w1)
  have e2 : cell.cls = c4 := Option.some.inj (hcs.symm.trans w2)
  subst e1
  subst e2
  obtain ⟨kt', hkt', -⟩ := hal.2.2 _ _ hkt
  have hfit' : T'.vm.assignable cell.cls cell.cls = true := by rw [hal.assignable]; exact w3
  have X₂ := X'.noted hW'
  obtain ⟨t, a1, b1⟩ := kk x T'.heap (locs ++ L) hSS (T'.setVm (T'.vm.noted m.cls x0.catchType (.cls cell.cls))) rfl X₂
  refine ⟨t, st t ?_, b1⟩
  refine nt_caught (g := { F0 m pc ls st0 with stack := rest }) X'.here (pc := x0.handlerPc) (vm' := T'.vm.noted m.cls x0.catchType (.cls cell.cls)) ?_ a1
  intro Q' E d acts
  exact nt_find (u := (T'.setTop { F0 m pc ls st0 with stack := rest }).pushFrame (.throwing x)) (f := { F0 m pc ls st0 with stack := rest }) (meth := meth) (code := c) X'.method' X'.code htab hcov h0 (cT := cell.cls) (cell := cell) hcl₀ h1 (fun k hk => by rw [hk] at h2; cases h2) ⟨kt', hkt'⟩ ⟨kt', hkt'⟩ hfit' Q' E d acts
/-- new IllegalArgumentException(), thrown out of a method without handlers -/
theorem nt_throw {pc : Nat} {ls : Array Slot} {free' : Addr → Prop} {ia ic : Nat} (hx : p.tables.exec = Jvm.exec) (hb : c.code = cc) (hml : c.maxLocals = nL) (hls : ls.size = nL) (hoff : l.flags = flags0) (hown : s.vm.findClass own = some m.cls)
    (hcl : (Cond.classLink own ia nt_IAE).before args s = true) (hini : (Cond.initialized nt_IAE).before args s = true) (hat : ∀ a ∈ Bundle.ownAtoms0 own ic nt_IAE ["java/lang/RuntimeException", "java/lang/Exception"], a.before args s = true)
    (hst : ∀ q ∈ locs, ∀ cell, s.heap[q.base]? = some cell → cell.vm.isStatics = false) (hsz : s.heap.size ≤ H.size)
    (hd0 : decode cc pc = .ok (.new ia, 3)) (hd3 : decode cc (pc + 3) = .ok (.dup, 1)) (hd4 : decode cc (pc + 4) = .ok (.invokespecial ic, 3)) (hd7 : decode cc (pc + 7) = .ok (.athrow, 1))
    (hRf : 5 < R.frames) (hRl : 200 ≤ R.locals) (hRc : cells + 1 ≤ R.cells) (hRs : slots + 6 ≤ R.slots) (hnh : c.exceptionTable.isEmpty = true) (hlocks : meth.locks = false) (hfl : ∀ q ∈ locs, free' q.base) :
    W p l e R s m args below meth c H locs cells slots (nt_MQ below s (cells + 1) (slots + 6) free') (F0 m pc ls []) := by
  have hins : (Cond.instantiable nt_IAE 6).before args s = true := hat _ (by simp [Bundle.ownAtoms0])
  refine W.newc hx hb hown hcl hins hini (g := F0 m pc ls []) rfl hd0 hRc hRs (fun cC kC h1 h2 h3 h4 => ?_)
  refine lv_dup hx hb hd3 rfl ?_
  intro T hT X
  have hemp : c.exceptionTable.toList = [] := List.eq_nil_of_length_eq_zero (by simpa [Array.isEmpty] using hnh)
  obtain ⟨U, st, hrun, hended, hWU, hsame, ce, hce, hO⟩ := X.ctorThrow0 hx (Launch.traces_off hoff X.admits) (own := own) (cls := nt_IAE) (names := ["java/lang/RuntimeException", "java/lang/Exception"]) (ic := ic) hown (by decide +kernel) (by decide +kernel) hat hst
    (a := H.size) (cX := cC) (kX := kC) h1 h2 (by rw [hT]; simp) hsz (g := F0 m (pc + 3 + 1) ls [.ref H.size, .ref H.size]) rfl (hls.trans hml.symm) rfl rfl (rest := []) rfl (by rw [hb]; exact hd4) (by rw [hb]; exact hd7) (fun z hz => by rw [hemp] at hz; cases hz)
    (by show 2 + 3 < R.frames; exact hRf) (by simp [Value.category]; omega) hlocks
  refine ⟨U, st, H.size, hrun, hended, ⟨ce, hce, by rw [hO.vm]; rfl, by rw [hWU.alike.findClass]; exact hO.cls⟩, locs, ⟨hWU, hsame⟩, hfl⟩
end NT2
