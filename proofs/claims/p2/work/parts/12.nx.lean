/-! methods that return or throw an IllegalArgumentException; both ends keep a world -/
def nx_O (Qr : Array Value → State → Outcome → State → Prop) (Qx : Heap → Prop) (A : Nat → Prop) (mc ms : Nat) (free : Addr → Prop) (a : Array Value) (st : State) (o : Outcome) (t : State) : Prop :=
  (∃ v, o = .returned v ∧ Qr a st (.returned v) t ∧ ∃ L, nt_End st t L 0 0 ∧ ∀ q ∈ L, free q.base) ∨ (∃ x, o = .threw x ∧ nt_X x t ∧ Qx t.heap ∧ va_F A st t ∧ ∃ L, nt_End st t L mc ms ∧ ∀ q ∈ L, free q.base)
def nx_Met (l : Launch) (y : MethodName) (ws : List Cond) (rm : Room) (Pc : Array Value → State → Prop) (Qr : Array Value → State → Outcome → State → Prop) (Qx : Heap → Prop) (A : Nat → Prop) (mc ms : Nat) (free : Addr → Prop) : Prop :=
  MetFree l y (headSpec ws rm) Pc (fun _ _ _ _ _ => True) (nx_O Qr Qx A mc ms free)
def nx_MQ (below : List Frame) (Qr : Array Value → State → Outcome → State → Prop) (Qx : Heap → Prop) (A : Nat → Prop) (a : Array Value) (s : State) (mc ms : Nat) (free : Addr → Prop) : State → Prop := fun t =>
  ∃ o, t.status = .running ∧ Ended t below o ∧ nx_O Qr Qx A mc ms free a s o t
theorem nx_ofW {l : Launch} {y : MethodName} {ws ws' : List Cond} {rm : Room} {Pc : Array Value → State → Prop} {Qr : Array Value → State → Outcome → State → Prop} {Qx : Heap → Prop} {A : Nat → Prop} {mc ms : Nat} {free : Addr → Prop} {cc : ByteArray} {maxL : Nat} {ret : Option FieldType}
    (hy : plainName y.cls = true) (hw : ws = Cond.code y cc maxL ret :: ws')
    (body : ∀ p e s m args below meth c s₁, BodyLoose p l y (headSpec ws rm) cc maxL ret e s m args below meth c s₁ → c.maxLocals = maxL → Pc args s →
      W p l e (headSpec ws rm).room s m args below meth c s.heap [] 0 0 (nx_MQ below Qr Qx A args s mc ms free) (entryFrame m args maxL)) : nx_Met l y ws rm Pc Qr Qx A mc ms free := by
  refine MetFree.of_bodyS (code := cc) (maxLocals := maxL) (ret := ret) hy ?_ ?_
  · intro args s m h hn
    obtain ⟨meth, c, h1, h2, h3, h4, h5, h6, -, -⟩ := Cond.code_spec hn (atoms_spec (ws := ws) h _ (by rw [hw]; exact List.mem_cons_self))
    exact ⟨meth, c, h1, h2, h3, h4, h5, h6⟩
  · intro p e s m args below meth c s₁ B hml hP _
    have hh0 : s₁.heap = s.heap := by rw [B.state]; rfl
    obtain ⟨t, a1, o, b1, b2, b3⟩ := body p e s m args below meth c s₁ B hml hP s₁ hh0 (Stand.of_body B)
    exact ⟨t, o, a1, b1, b2, b3⟩
section NX1
variable {p : Program} {l : Launch} {e : Env} {R : Room} {s : State} {m : MethodId} {args : Array Value} {below : List Frame} {meth : Method} {c : Code} {T : State} {H : Heap} {locs : List Loc} {cells slots : Nat} {Q : State → Prop}
theorem nx_mono {Q1 Q2 : State → Prop} {g : JFrame} (h : ∀ t, Q1 t → Q2 t) (k : W p l e R s m args below meth c H locs cells slots Q1 g) : W p l e R s m args below meth c H locs cells slots Q2 g := fun T hT X => by
  obtain ⟨t, a1, b1⟩ := k T hT X
  exact ⟨t, a1, h t b1⟩
/-- an end by a return -/
theorem nx_ret {Qr : Array Value → State → Outcome → State → Prop} {Qx : Heap → Prop} {A : Nat → Prop} {mc ms : Nat} {free : Addr → Prop} {g : JFrame} (k : W p l e R s m args below meth c H locs cells slots (MQ below Qr args s 0 0 free) g) : W p l e R s m args below meth c H locs cells slots (nx_MQ below Qr Qx A args s mc ms free) g := by
  refine nx_mono (fun t h => ?_) k
  obtain ⟨o, h1, h2, h3, L, ⟨⟨v, hv⟩, h4, h5⟩, h6⟩ := h
  subst hv
  exact ⟨_, h1, h2, Or.inl ⟨v, rfl, h3, L, ⟨h4, h5⟩, h6⟩⟩
/-- the walk seen from where it stands: nothing has been written since -/
theorem nx_base (X : Stand p l e R s m args below meth c T locs cells slots) (hc : cells ≤ R.cells) (hs : slots ≤ R.slots) :
    Stand p l e { R with cells := R.cells - cells, slots := R.slots - slots } (T.setFrames (.invoking m args :: below)) m args below meth c T [] 0 0 := by
  have hcur : T.cur < T.threads.size := State.cur_lt_of_top X.here.top
  have hF : (T.setFrames (.invoking m args :: below)).frames = .invoking m args :: below := State.frames_setFrames _ hcur
  have hm : T.vm.method? m = some meth := X.method'
  obtain ⟨g₀, hg⟩ := Option.isSome_iff_exists.mp X.here.top
  obtain ⟨r, hr⟩ := State.topJava?_eq_some.mp hg
  obtain ⟨t, ht, -⟩ := State.frames_cons hr
  have hTf : T.frames = .java g₀ :: below := by
    have := X.tail
    rw [hr] at this ⊢
    simpa using this
  refine ⟨X.admits, X.cas, X.clock, hF, ?_, ?_, hm, X.code, X.here, X.tail, State.WarmedH.refl T, ?_, ?_, ?_⟩
  · obtain ⟨r1, r2, r3, r4⟩ := State.hasRoom_stack X.room
    have r5 := State.hasRoom_real X.room
    have h := X.room
    simp only [State.hasRoom, Bool.and_eq_true, decide_eq_true_eq] at h
    rw [State.localsInUse_invoking X.frames X.method X.code] at r3 r4 r5
    rw [X.frames, List.length_cons] at r1 r2
    have hU := State.localsInUse_invoking hF (meth := meth) (c := c) hm X.code
    have g1 := X.heapSize
    have g2 := X.used
    simp only [State.hasRoom, Bool.and_eq_true, decide_eq_true_eq, hF, hU, List.length_cons, State.stackLimits_setFrames, State.stackBytes_setFrames, X.limits, X.bytes]
    refine ⟨⟨⟨⟨by omega, by omega, by omega, by omega, by omega, h.1.1.1.2.2.2.2.2⟩, ?_⟩, ?_⟩, X.book⟩
    · have := h.1.1.2
      show T.heap.size + (R.cells - cells) ≤ _
      omega
    · have := h.1.2
      show T.slotsUsed + (R.slots - slots) ≤ _
      omega
  · have hal := X.warmed.alike
    have h0 := X.hears
    show State.hears _ m below = true
    cases below with
    | nil =>
      simp only [State.hears] at h0 ⊢
      show (T.vm.method? m).any _ = true
      rw [hm]
      rw [X.method] at h0
      exact h0
    | cons f rr =>
      cases f with
      | java g =>
        simp only [State.hears] at h0 ⊢
        show ((T.code? g.method).bind _).isSome = true
        rw [show T.code? g.method = s.code? g.method from by simp only [State.code?_eq, hal.method?]]
        exact h0
      | native _ => rfl
      | proc _ => rfl
      | _ =>
        simp only [State.hears] at h0 ⊢
        show (T.vm.method? m).any _ = true
        rw [hm]
        rw [X.method] at h0
        exact h0
  · rw [State.stackLimits_setFrames]
  · rw [State.stackBytes_setFrames]
  · obtain ⟨t', ht', -⟩ := State.frames_cons hF
    have h := (State.sameButNew.refl (T.setFrames (.invoking m args :: below)) ht').setFrames T.frames (State.cur_lt_of_frames hF)
    rw [State.setFrames_setFrames, State.setFrames_self ht] at h
    exact h
theorem nx_F {A : Nat → Prop} {st t : State} {L : List Loc} {k n : Nat} (h : nt_End st t L k n) (hA : ∀ q ∈ L, A q.base) : va_F A st t := by
  obtain ⟨-, -, h2, -, -, -, h6⟩ := h
  refine ⟨h2, fun q hq hn => ?_⟩
  obtain ⟨cell, hcell⟩ : ∃ cell, st.heap[q]? = some cell := ⟨st.heap[q], Array.getElem?_eq_getElem hq⟩
  obtain ⟨c', g1, g2, g3, g4⟩ := h6 q cell hcell
  have hsl : c'.slots = cell.slots := by
    apply Array.ext_getElem?
    intro i
    exact g4 i (fun hm => hn (hA _ hm))
  have hT : t.heap[q]? = some c' := g1
  rw [hT, hcell, g2, hsl]
end NX1
section NX2
variable {p : Program} {l : Launch} {e : Env} {R : Room} {s : State} {m : MethodId} {args : Array Value} {below : List Frame} {meth : Method} {c : Code} {T : State} {H : Heap} {locs : List Loc} {cells slots : Nat} {Q : State → Prop}
variable {y : MethodName} {bytes cc : ByteArray} {maxL nL mc ms n index : Nat} {ret : Option FieldType} {ws : List Cond} {rm : Room} {Pc : Array Value → State → Prop} {free : Addr → Prop} {Ts : List Cond} {own C : String} {b : Addr} {As rest : List Value} {g : JFrame} {Qr : Array Value → State → Outcome → State → Prop} {Qx : Heap → Prop} {A1 : Nat → Prop}
/-- what throwing a new IllegalArgumentException asks, at the state where it is made -/
theorem nx_throw {pc : Nat} {ls : Array Slot} {free' : Addr → Prop} {ia ic : Nat} {A : Nat → Prop} {mc' ms' : Nat} (hx : p.tables.exec = Jvm.exec) (hb : c.code = cc) (hml : c.maxLocals = nL) (hls : ls.size = nL) (hoff : l.flags = flags0) (hown : s.vm.findClass own = some m.cls)
    (hcl : (Cond.classLink own ia nt_IAE).before args s = true) (hini : (Cond.initialized nt_IAE).before args s = true) (hat : ∀ U : State, U.heap = H → s.WarmedH U.vm → ∀ a ∈ Bundle.ownAtoms0 own ic nt_IAE ["java/lang/RuntimeException", "java/lang/Exception"], a.before args U = true) (hat0 : (Cond.instantiable nt_IAE 6).before args s = true)
    (hd0 : decode cc pc = .ok (.new ia, 3)) (hd3 : decode cc (pc + 3) = .ok (.dup, 1)) (hd4 : decode cc (pc + 4) = .ok (.invokespecial ic, 3)) (hd7 : decode cc (pc + 7) = .ok (.athrow, 1))
    (hRf : 5 < R.frames) (hRl : 200 ≤ R.locals) (hRc : cells + 1 ≤ R.cells) (hRs : slots + 6 ≤ R.slots) (hnh : c.exceptionTable.isEmpty = true) (hlocks : meth.locks = false) (hfl : ∀ q ∈ locs, free' q.base) (hfA : ∀ q ∈ locs, A q.base) (hmc : cells + 1 ≤ mc') (hms : slots + 6 ≤ ms')
    (hQ : ∀ H1 : Heap, H.size ≤ H1.size → (∀ q : Nat, q < H.size → H1[q]? = H[q]?) → Qx H1) :
    W p l e R s m args below meth c H locs cells slots (nx_MQ below Qr Qx A args s mc' ms' free') (F0 m pc ls []) := by
  refine W.eq (g2 := F0 m pc ls []) rfl ?_
  intro T0 hT0 X0
  have XB := nx_base X0 (by omega) (by omega)
  have hw0 := X0.warmed
  have hini' : (Cond.initialized nt_IAE).before args (T0.setFrames (.invoking m args :: below)) = true := word_at (s := s) (U := T0.setFrames (.invoking m args :: below)) hw0 (Or.inl (by first | rfl | simp [Cond.onTables, Cond.keeps, Cond.steady])) hini
  have hcl' : (Cond.classLink own ia nt_IAE).before args (T0.setFrames (.invoking m args :: below)) = true := word_at (s := s) (U := T0.setFrames (.invoking m args :: below)) hw0 (Or.inl (by first | rfl | simp [Cond.onTables, Cond.keeps, Cond.steady])) hcl
  have hat' := hat (T0.setFrames (.invoking m args :: below)) hT0 hw0
  have hins : (Cond.instantiable nt_IAE 6).before args (T0.setFrames (.invoking m args :: below)) = true := hat' _ (by simp [Bundle.ownAtoms0])
  have hown' : (T0.setFrames (.invoking m args :: below)).vm.findClass own = some m.cls := by
    show T0.vm.findClass own = _
    rw [hw0.alike.findClass]; exact hown
  have K : W p l e { R with cells := R.cells - cells, slots := R.slots - slots } (T0.setFrames (.invoking m args :: below)) m args below meth c H [] 0 0 (nt_MQ below (T0.setFrames (.invoking m args :: below)) 1 6 (fun _ => False)) (F0 m pc ls []) :=
    nt_throw (nL := nL) hx hb hml hls hoff hown' hcl' hini' hat' (fun q h => by cases h) (by show T0.heap.size ≤ _; rw [hT0]; exact Nat.le_refl _) hd0 hd3 hd4 hd7 hRf hRl (by show 0 + 1 ≤ R.cells - cells; omega) (by show 0 + 6 ≤ R.slots - slots; omega) hnh hlocks (fun q h => by cases h)
  obtain ⟨t, st, x, h1, h2, h3, L, ⟨h4, h5⟩, h6⟩ := K T0 hT0 XB
  have hL : L = [] := by
    cases L with
    | nil => rfl
    | cons a r => exact absurd (h6 a List.mem_cons_self) id
  subst hL
  have hF : va_F (fun _ => False) (T0.setFrames (.invoking m args :: below)) t := nx_F ⟨h4, h5⟩ (fun q h => by cases h)
  have hz : H.size ≤ t.heap.size := by rw [← hT0]; exact hF.1
  have hk : ∀ q : Nat, q < H.size → t.heap[q]? = H[q]? := fun q hq => by
    rw [← hT0] at hq ⊢
    exact hF.2 q hq id
  have hs := X0.same
  have h5' : (T0.setFrames (.invoking m args :: below)).sameButNew (t.setVm T0.vm) [] 1 6 := h5
  have hcur : T0.cur < T0.threads.size := State.cur_lt_of_top X0.here.top
  have hs2 := (hs.setFrames (.invoking m args :: below) X0.cur).trans (h5'.setVm s.vm)
  rw [List.append_nil] at hs2
  have hWt : s.WarmedH t.vm := State.WarmedH.trans (t := T0.setFrames (.invoking m args :: below)) hw0 h4
  have hE : nt_End s t locs mc' ms' := ⟨hWt, State.sameButNew.mono hs2 hmc hms⟩
  exact ⟨t, st, .threw x, h1, h2, Or.inr ⟨x, rfl, h3, hQ t.heap hz hk, nx_F hE hfA, locs, hE, hfl⟩⟩
/-- a call of a method that returns or throws -/
def nx_Run (p : Program) (l : Launch) (e : Env) (R : Room) (s : State) (m : MethodId) (args : Array Value) (below : List Frame) (meth : Method) (c : Code) (H : Heap) (locs : List Loc) (cells slots mc ms : Nat) (g : JFrame) (rest : List Value) (Qa : State → Outcome → State → Prop) (Qx : Heap → Prop) (A1 : Nat → Prop) (free : Addr → Prop) : Prop :=
  ∀ T : State, T.heap = H → Stand p l e R s m args below meth c T locs cells slots →
    (∃ (v : Option Value) (st₀ t T' : State) (L : List Loc), st₀.heap = H ∧ Stand p l e R s m args below meth c T' (locs ++ L) cells slots ∧ (∀ q ∈ L, free q.base) ∧ T'.heap = t.heap ∧ T'.vm = t.vm ∧ Qa st₀ (.returned v) t ∧
      ∀ tg, Steps p.tables e below (T'.setTop { g with pc := g.pc + 3, stack := v.toList ++ rest }) tg → Steps p.tables e below (T.setTop g) tg) ∨
    (∃ (x : Addr) (T' : State) (L : List Loc), Stand p l e R s m args below meth c T' (locs ++ L) (cells + mc) (slots + ms) ∧ (∀ q ∈ L, free q.base) ∧ nt_X x T' ∧ Qx T'.heap ∧ H.size ≤ T'.heap.size ∧ (∀ q : Nat, q < H.size → ¬ A1 q → T'.heap[q]? = H[q]?) ∧
      ∀ tg, Steps p.tables e below ((T'.setTop { g with stack := rest }).pushFrame (.throwing x)) tg → Steps p.tables e below (T.setTop g) tg)
theorem nx_runV (S : CallFix p m c cc nL s args Ts own) (hM : nx_Met l y ws rm Pc Qr Qx A1 mc ms free) (cw : CallW R s args own C index y bytes maxL ret ws rm mc ms n) (hp : PreV s H C b Pc As)
    (hg : g.method = m) (hn : As.length = n) (hsize : g.locals.size = nL) (hstack : g.stack = As.reverse ++ .ref b :: rest) (hW : 2 * g.monitorRoom + (rest.map fun v => v.category).sum ≤ 8) (hdg : decode cc g.pc = .ok (.invokevirtual index, 3)) (hf : cells + mc ≤ R.cells ∧ slots + ms ≤ R.slots) :
    nx_Run p l e R s m args below meth c H locs cells slots mc ms g rest (Qr (Value.ref b :: As).toArray) Qx A1 free := by
  intro T hT X
  obtain ⟨⟨hrc, hrs, hfr, hlo, hws, hcw, hcode, hini, hy, hlen, hl⟩, hin, hse⟩ := cw
  obtain ⟨hx, hb, hml, ho, -⟩ := S
  obtain ⟨hbl, ⟨cellB, hcB, hoB, hclB⟩, hPc⟩ := hp
  obtain ⟨mk, methM, hnamed, hmethM, hstM, habM⟩ := Cond.instanceMethod_spec hin
  obtain ⟨methM', cM, hmethM', -, -, -, -, -, -, hsigM⟩ := Cond.code_spec hnamed hcode
  cases hmethM.symm.trans hmethM'
  obtain ⟨c2, r2, m2, q1, q2, q3, q4, kP, hkP, hkPi⟩ := Cond.selects_spec hse
  cases hclB.symm.trans q1
  cases (State.methodFound?_of_named hnamed hy).symm.trans q2
  cases hnamed.symm.trans q3
  have hselP : selectMethod e.platform s.vm cellB.cls mk = .method mk := by rw [Launch.admits_selectMethod X.admits]; exact q4
  obtain ⟨vm₁, X₁, hstep₁⟩ := X.invokevirtual hx ho hl hnamed hmethM hstM hkP hkPi hy (a := b) (cell := cellB) (by rw [hT]; exact hcB)
    (fun z h => by rw [h] at hoB; cases hoB) hselP hmethM habM hkP hkPi (g := g) hg (argsL := As) (rest := rest) (hn.trans (hlen _ hsigM)) hstack (by rw [hb]; exact hdg)
  have hdc : decode c.code ({ g with stack := rest } : JFrame).pc = .ok (.invokevirtual index, 3) := by rw [hb]; exact hdg
  have hP : Pc (Value.ref b :: As).toArray (T.setVm vm₁) := hPc (T.setVm vm₁) hT X₁.warmed
  have hpre : (headSpec ws rm).pre.before (Value.ref b :: As).toArray (T.setVm vm₁) = true := atoms_intro fun w hw => hws w hw _ _ X₁.warmed
  have hcodeT : (Cond.code y bytes maxL ret).before (Value.ref b :: As).toArray (T.setVm vm₁) = true := hws _ hcw _ _ X₁.warmed
  have hiniT : (Cond.initialized y.cls).before (Value.ref b :: As).toArray (T.setVm vm₁) = true := word_at X₁.warmed (Or.inl (by first | rfl | simp [Cond.onTables, Cond.keeps, Cond.steady])) hini
  have hn' : (T.setVm vm₁).methodNamed? y = some mk := X₁.named hnamed
  obtain ⟨methY, cY, hmY, hcY, -, hlY, -⟩ := Cond.code_spec hn' hcodeT
  obtain ⟨kY, hkY, -⟩ := className_of_methodNamed hn'
  have hinitY : kY.init = .initialized := Cond.initialized_spec (findClass_of_methodNamed hn') hkY hiniT
  have h : At (T.setVm vm₁) ({ g with stack := rest } : JFrame).method c below := by rw [show ({ g with stack := rest } : JFrame).method = m from hg]; exact X₁.here
  have happ : (headSpec ws rm).appliesLoose y e.platform ((T.setVm vm₁).calling { g with stack := rest } mk (Value.ref b :: As).toArray) = true :=
    Spec.appliesLoose_calling (g := { g with stack := rest }) h hdc hn' hkY hinitY
      (X₁.room_calling (g := { g with stack := rest }) (R' := (headSpec ws rm).room) (hsize.trans hml.symm) hmY hcY hfr (by rw [hlY]; show _ + rm.locals ≤ _; have hW' : 2 * ({ g with stack := rest } : JFrame).monitorRoom + (rest.map fun v => v.category).sum ≤ 8 := hW; show 2 * ({ g with stack := rest } : JFrame).monitorRoom + (rest.map fun v => v.category).sum + (maxL + 11) + rm.locals ≤ _; omega) (by show cells + rm.cells ≤ _; rw [hrc]; exact hf.1) (by show slots + rm.slots ≤ _; rw [hrs]; exact hf.2)) hpre
  obtain ⟨mid, hmid⟩ := h.above
  have hfr2 : ((T.setVm vm₁).setTop { g with stack := rest }).frames = (.java { g with stack := rest } :: mid) ++ below := by rw [State.frames_setTop' _ h.top, hmid]; rfl
  obtain ⟨o, s₂, hsteps, -, hend, hO⟩ := Steps.callFree hM p X₁.admits X₁.cas X₁.clock (acts := []) hfr2 happ (hbl _ _ _ _ hP) trivial
  rw [State.frames_setTop' _ h.top, X₁.tail] at hend
  rcases hO with ⟨v, ho2, hq, L, hE, hL⟩ | ⟨x, ho2, hX, hQx, hVF, L, hE, hL⟩
  · subst ho2
    obtain ⟨T', X', -, -, ht⟩ := X₁.outOf (g := { g with stack := rest }) hg hdc (mk := mk) (a := (Value.ref b :: As).toArray) hend hE.1 hE.2
    refine Or.inl ⟨v, _, s₂, T', L, (show ((T.setVm vm₁).calling _ mk _).heap = H from hT), X', hL, ?_, ?_, hq, fun tg hs => hstep₁ _ fun acts => ?_⟩
    · rw [ht]; rfl
    · rw [ht]; rfl
    · rw [doInvoke_state]; rw [ht] at hsteps; exact hsteps.trans hs
  · subst ho2
    obtain ⟨T', X', -, -, ht⟩ := X₁.outOfThrown (g := { g with stack := rest }) hg (mk := mk) (a := (Value.ref b :: As).toArray) hend hE.1 hE.2
    have hh : T'.heap = s₂.heap := by rw [ht]; exact (Stand.throwing_heap T' _ x).symm
    have hv2 : s₂.vm = T'.vm := by rw [ht]; exact Stand.throwing_vm T' _ x
    refine Or.inr ⟨x, T', L, X', hL, ?_, by rw [hh]; exact hQx, ?_, ?_, fun tg hs => hstep₁ _ fun acts => ?_⟩
    · obtain ⟨cell, g1, g2, g3⟩ := hX
      exact ⟨cell, by rw [hh]; exact g1, g2, by rw [← hv2]; exact g3⟩
    · rw [hh]
      have h9 : T.heap.size ≤ s₂.heap.size := hVF.1
      rw [hT] at h9
      exact h9
    · intro q hq hA
      rw [hh]
      have h9 : ∀ q : Nat, q < T.heap.size → ¬ A1 q → s₂.heap[q]? = T.heap[q]? := hVF.2
      rw [hT] at h9
      exact h9 q hq hA
    · rw [doInvoke_state]; rw [ht] at hsteps; exact hsteps.trans hs
variable {pc : Nat} {ls : Array Slot} {st0 : List Value} {a : Array Value} {A0 : Nat → Prop} {H0 : Heap} {Qr' : Array Value → State → Outcome → State → Prop} {Qx' : Heap → Prop} {A' : Nat → Prop} {mc' ms' : Nat} {free' : Addr → Prop}
/-- the call's answer, whatever it is, in a method without handlers -/
theorem nx_call {Qa : State → Outcome → State → Prop} {Qv : Option Value → State → Prop} (hr : nx_Run p l e R s m args below meth c H locs cells slots mc ms (F0 m pc ls st0) rest Qa Qx A1 free) (hq : ∀ st v t, Qa st (.returned v) t → Qv v t ∧ va_F A1 st t) (hnh : c.exceptionTable.isEmpty = true) (hlocks : meth.locks = false)
    (hS : va_S A0 s.heap H locs) (hA : ∀ q, q < H.size → A1 q → A0 q) (hf : ∀ q, free q → A0 q) (hA0 : ∀ q, A0 q → free' q) (hA2 : ∀ q, A0 q → A' q) (hmc : cells + mc ≤ mc') (hms : slots + ms ≤ ms')
    (hthr : ∀ (H1 : Heap), Qx H1 → H.size ≤ H1.size → (∀ q : Nat, q < H.size → ¬ A1 q → H1[q]? = H[q]?) → Qx' H1)
    (kk : ∀ (v : Option Value) (t : State) (H1 : Heap) (locs1 : List Loc), t.heap = H1 → s.vm.Alike t.vm → Qv v t → H.size ≤ H1.size → (∀ q : Nat, q < H.size → ¬ A1 q → H1[q]? = H[q]?) → va_S A0 s.heap H1 locs1 → W p l e R s m args below meth c H1 locs1 cells slots (nx_MQ below Qr' Qx' A' args s mc' ms' free') (F0 m (pc + 3) ls (v.toList ++ rest))) : W p l e R s m args below meth c H locs cells slots (nx_MQ below Qr' Qx' A' args s mc' ms' free') (F0 m pc ls st0) := by
  intro T hT X
  rcases hr T hT X with ⟨v, st₀, t, T', L, h0, X', hL, e1, e2, hQ, st⟩ | ⟨x, T', L, X', hL, hX, hQx, hz, hk, st⟩
  · obtain ⟨hv, hz, hk⟩ := hq _ _ _ hQ
    rw [h0] at hz hk
    obtain ⟨t2, a1, b1⟩ := kk v t T'.heap (locs ++ L) e1.symm (by rw [← e2]; exact X'.warmed.alike) hv (by rw [e1]; exact hz) (fun q h1 h2 => by rw [e1]; exact hk q h1 h2)
      ⟨Nat.le_trans hS.1 (by rw [e1]; exact hz), fun q h1 h2 => by rw [e1, hk q (Nat.lt_of_lt_of_le h1 hS.1) (fun z => h2 (hA q (Nat.lt_of_lt_of_le h1 hS.1) z))]; exact hS.2.1 q h1 h2, fun q hq => by
        rcases List.mem_append.mp hq with h | h
        · exact hS.2.2 q h
        · exact hf _ (hL q h)⟩ T' rfl X'
    exact ⟨t2, st t2 a1, b1⟩
  · have hemp : c.exceptionTable.toList = [] := List.eq_nil_of_length_eq_zero (by simpa [Array.isEmpty] using hnh)
    obtain ⟨hwalk, hrun, hended, hWU, hsame⟩ := X'.leaveThrown x (g := { F0 m pc ls st0 with stack := rest }) rfl rfl rfl (fun z hz => by rw [hemp] at hz; cases hz) hlocks
    have hAL : ∀ q ∈ locs ++ L, A0 q.base := fun q hq => by
      rcases List.mem_append.mp hq with h | h
      · exact hS.2.2 q h
      · exact hf _ (hL q h)
    have hE : nt_End s (T'.setFrames (.throwing x :: below)) (locs ++ L) mc' ms' := ⟨hWU, hsame.mono hmc hms⟩
    refine ⟨_, st _ hwalk, .threw x, hrun, hended, Or.inr ⟨x, rfl, ?_, hthr T'.heap hQx hz hk, nx_F hE (fun q hq => hA2 _ (hAL q hq)), locs ++ L, hE, fun q hq => hA0 _ (hAL q hq)⟩⟩
    obtain ⟨cell, g1, g2, g3⟩ := hX
    exact ⟨cell, g1, g2, g3⟩
end NX2
