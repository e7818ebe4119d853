/-! methods that return or throw an IllegalArgumentException -/
def nx_O (Qr : Array Value → State → Outcome → State → Prop) (a : Array Value) (st : State) (o : Outcome) (t : State) : Prop := (∃ v, o = .returned v ∧ Qr a st (.returned v) t) ∨ (∃ x, o = .threw x ∧ nt_X x t)
def nx_Met (l : Launch) (y : MethodName) (ws : List Cond) (rm : Room) (Pc : Array Value → State → Prop) (Qr : Array Value → State → Outcome → State → Prop) (mc ms : Nat) (free : Addr → Prop) : Prop :=
  MetFree l y (headSpec ws rm) Pc (fun _ _ _ _ _ => True) (fun a st o t => nx_O Qr a st o t ∧ ∃ L, nt_End st t L mc ms ∧ ∀ q ∈ L, free q.base)
def nx_MQ (below : List Frame) (Qr : Array Value → State → Outcome → State → Prop) (a : Array Value) (s : State) (mc ms : Nat) (free : Addr → Prop) : State → Prop := fun t =>
  ∃ o, t.status = .running ∧ Ended t below o ∧ nx_O Qr a s o t ∧ ∃ L, nt_End s t L mc ms ∧ ∀ q ∈ L, free q.base
theorem nx_ofW {l : Launch} {y : MethodName} {ws ws' : List Cond} {rm : Room} {Pc : Array Value → State → Prop} {Qr : Array Value → State → Outcome → State → Prop} {mc ms : Nat} {free : Addr → Prop} {cc : ByteArray} {maxL : Nat} {ret : Option FieldType}
    (hy : plainName y.cls = true) (hw : ws = Cond.code y cc maxL ret :: ws')
    (body : ∀ p e s m args below meth c s₁, BodyLoose p l y (headSpec ws rm) cc maxL ret e s m args below meth c s₁ → c.maxLocals = maxL → Pc args s →
      W p l e (headSpec ws rm).room s m args below meth c s.heap [] 0 0 (nx_MQ below Qr args s mc ms free) (entryFrame m args maxL)) : nx_Met l y ws rm Pc Qr mc ms free := by
  refine MetFree.of_bodyS (code := cc) (maxLocals := maxL) (ret := ret) hy ?_ ?_
  · intro args s m h hn
    obtain ⟨meth, c, h1, h2, h3, h4, h5, h6, -, -⟩ := Cond.code_spec hn (atoms_spec (ws := ws) h _ (by rw [hw]; exact List.mem_cons_self))
    exact ⟨meth, c, h1, h2, h3, h4, h5, h6⟩
  · intro p e s m args below meth c s₁ B hml hP _
    have hh0 : s₁.heap = s.heap := by rw [B.state]; rfl
    obtain ⟨t, a1, o, b1, b2, b3⟩ := body p e s m args below meth c s₁ B hml hP s₁ hh0 (Stand.of_body B)
    exact ⟨t, o, a1, b1, b2, b3⟩
section NX1
variable {p : Program} {l : Launch} {e : Env} {R : Room} {s : State} {m : MethodId} {args : Array Value} {below : List Frame} {meth : Method} {c : Code} {T : State} {H : Heap} {locs : List Loc} {cells slots : Nat} {Q : State → Prop}
theorem nx_mono {Q1 Q2 : State → Prop} {g : JFrame} (h : ∀ t, Q1 t → Q2 t) (k : W p l e R s m args below meth c H locs cells slots Q1 g) : W p l e R s m args below meth c H locs cells slots Q2 g := fun T hT X => by
  obtain ⟨t, a1, b1⟩ := k T hT X
  exact ⟨t, a1, h t b1⟩
/-- an end by a return -/
theorem nx_ret {Qr : Array Value → State → Outcome → State → Prop} {mc ms : Nat} {free : Addr → Prop} {g : JFrame} (k : W p l e R s m args below meth c H locs cells slots (MQ below Qr args s mc ms free) g) : W p l e R s m args below meth c H locs cells slots (nx_MQ below Qr args s mc ms free) g := by
  refine nx_mono (fun t h => ?_) k
  obtain ⟨o, h1, h2, h3, L, ⟨⟨v, hv⟩, h4, h5⟩, h6⟩ := h
  subst hv
  exact ⟨_, h1, h2, Or.inl ⟨v, rfl, h3⟩, L, ⟨h4, h5⟩, h6⟩
/-- an end by a throw -/
theorem nx_thr {Qr : Array Value → State → Outcome → State → Prop} {mc ms mc' ms' : Nat} {free : Addr → Prop} {g : JFrame} (h1 : mc' ≤ mc) (h2 : ms' ≤ ms) (k : W p l e R s m args below meth c H locs cells slots (nt_MQ below s mc' ms' free) g) : W p l e R s m args below meth c H locs cells slots (nx_MQ below Qr args s mc ms free) g := by
  refine nx_mono (fun t h => ?_) k
  obtain ⟨x, g1, g2, g3, L, ⟨g4, g5⟩, g6⟩ := h
  exact ⟨_, g1, g2, Or.inr ⟨x, rfl, g3⟩, L, ⟨g4, g5.mono h1 h2⟩, g6⟩
variable {y : MethodName} {bytes cc : ByteArray} {maxL nL mc ms n index : Nat} {ret : Option FieldType} {ws : List Cond} {rm : Room} {Pc : Array Value → State → Prop} {Qr : Array Value → State → Outcome → State → Prop} {free : Addr → Prop} {Ts : List Cond} {own C : String} {b : Addr} {As rest : List Value} {g : JFrame}
theorem nx_into (X : Stand p l e R s m args below meth c T locs cells slots) (hM : nx_Met l y ws rm Pc Qr mc ms free) (hbl : FrameBlind Pc) (hrc : rm.cells = mc) (hrs : rm.slots = ms) (hfr : rm.frames + 1 ≤ R.frames) (hlo : 8 + (maxL + 11) + rm.locals ≤ R.locals)
    (hws : ∀ w ∈ ws, ∀ (a' : Array Value) (U : State), s.WarmedH U.vm → w.before a' U = true) (hcw : Cond.code y bytes maxL ret ∈ ws) (hini : (Cond.initialized y.cls).before args s = true)
    (hg : g.method = m) (hsize : g.locals.size = c.maxLocals) {ig : Instr} {len : Nat} (hdg : decode c.code g.pc = .ok (ig, len)) (hW : 2 * g.monitorRoom + (g.stack.map fun v => v.category).sum ≤ 8) {mk : MethodId} (hn : T.methodNamed? y = some mk)
    {a : Array Value} (hP : Pc a T) (hf : cells + mc ≤ R.cells ∧ slots + ms ≤ R.slots) :
    ∃ (T' : State) (L : List Loc), Stand p l e R s m args below meth c T' (locs ++ L) (cells + mc) (slots + ms) ∧ (∀ q ∈ L, free q.base) ∧
      ((∃ (v : Option Value) (t : State), T'.heap = t.heap ∧ T'.vm = t.vm ∧ Qr a (T.calling g mk a) (.returned v) t ∧ Steps p.tables e below (doInvoke e (T.setTop g) [] mk a).1 (T'.setTop { g with pc := g.pc + len, stack := v.toList ++ g.stack })) ∨
       (∃ x : Addr, nt_X x T' ∧ Steps p.tables e below (doInvoke e (T.setTop g) [] mk a).1 ((T'.setTop g).pushFrame (.throwing x)))) := by
  have hpre : (headSpec ws rm).pre.before a T = true := atoms_intro fun w hw => hws w hw _ _ X.warmed
  have hcodeT : (Cond.code y bytes maxL ret).before a T = true := hws _ hcw _ _ X.warmed
  have hiniT : (Cond.initialized y.cls).before a T = true := word_at X.warmed (Or.inl (by first | rfl | simp [Cond.onTables, Cond.keeps, Cond.steady])) hini
  obtain ⟨methY, cY, hmY, hcY, -, hlY, -⟩ := Cond.code_spec hn hcodeT
  obtain ⟨kY, hkY, -⟩ := className_of_methodNamed hn
  have hinitY : kY.init = .initialized := Cond.initialized_spec (findClass_of_methodNamed hn) hkY hiniT
  have h : At T g.method c below := by rw [hg]; exact X.here
  have happ : (headSpec ws rm).appliesLoose y e.platform (T.calling g mk a) = true :=
    Spec.appliesLoose_calling (g := g) h hdg hn hkY hinitY
      (X.room_calling (g := g) (R' := (headSpec ws rm).room) hsize hmY hcY hfr (by rw [hlY]; show _ + rm.locals ≤ _; omega) (by show cells + rm.cells ≤ _; rw [hrc]; exact hf.1) (by show slots + rm.slots ≤ _; rw [hrs]; exact hf.2)) hpre
  obtain ⟨mid, hmid⟩ := h.above
  have hfr2 : (T.setTop g).frames = (.java g :: mid) ++ below := by rw [State.frames_setTop' g h.top, hmid]; rfl
  obtain ⟨o, s₂, hsteps, -, hend, hO, L, hE, hL⟩ := Steps.callFree hM p X.admits X.cas X.clock (acts := []) hfr2 happ (hbl _ _ _ _ hP) trivial
  rw [State.frames_setTop' g h.top, X.tail] at hend
  rcases hO with ⟨v, ho, hq⟩ | ⟨x, ho, hX⟩
  · subst ho
    obtain ⟨T', X', -, -, ht⟩ := X.outOf hg hdg (mk := mk) (a := a) hend hE.1 hE.2
    refine ⟨T', L, X', hL, Or.inl ⟨v, s₂, ?_, ?_, hq, ?_⟩⟩
    · rw [ht]; rfl
    · rw [ht]; rfl
    · rw [← ht]; exact hsteps
  · subst ho
    obtain ⟨T', X', -, -, ht⟩ := X.outOfThrown hg (mk := mk) (a := a) hend hE.1 hE.2
    refine ⟨T', L, X', hL, Or.inr ⟨x, ?_, ?_⟩⟩
    · obtain ⟨cell, h1, h2, h3⟩ := hX
      rw [ht] at h1 h3
      exact ⟨cell, by rw [← Stand.throwing_heap T' g x]; exact h1, h2, by rw [← Stand.throwing_vm T' g x]; exact h3⟩
    · rw [← ht]; exact hsteps
/-- a virtual call of a method that returns or throws, in one that has no handlers -/
theorem nx_runV {pc : Nat} {ls : Array Slot} {st0 : List Value} {free' : Addr → Prop} {Qr' : Array Value → State → Outcome → State → Prop} {mc' ms' : Nat} (S : CallFix p m c cc nL s args Ts own) (hM : nx_Met l y ws rm Pc Qr mc ms free) (cw : CallW R s args own C index y bytes maxL ret ws rm mc ms n) (hp : PreV s H C b Pc As)
    (hn : As.length = n) (hsize : ls.size = nL) (hstack : st0 = As.reverse ++ .ref b :: rest) (hW : 2 * (F0 m pc ls st0).monitorRoom + (rest.map fun v => v.category).sum ≤ 8) (hdg : decode cc pc = .ok (.invokevirtual index, 3)) (hf : cells + mc ≤ R.cells ∧ slots + ms ≤ R.slots)
    (hnh : c.exceptionTable.isEmpty = true) (hlocks : meth.locks = false) (hfl : ∀ q ∈ locs, free' q.base) (hff : ∀ q, free q → free' q) (hmc : cells + mc ≤ mc') (hms : slots + ms ≤ ms')
    (kk : ∀ (v : Option Value) (st₀ t T' : State) (L : List Loc), st₀.heap = H → Stand p l e R s m args below meth c T' (locs ++ L) (cells + mc) (slots + ms) → (∀ q ∈ L, free q.base) → T'.heap = t.heap → T'.vm = t.vm → Qr (Value.ref b :: As).toArray st₀ (.returned v) t →
      ∃ t2, Steps p.tables e below (T'.setTop (F0 m (pc + 3) ls (v.toList ++ rest))) t2 ∧ nx_MQ below Qr' args s mc' ms' free' t2) :
    W p l e R s m args below meth c H locs cells slots (nx_MQ below Qr' args s mc' ms' free') (F0 m pc ls st0) := by
  intro T hT X
  obtain ⟨⟨hrc, hrs, hfr, hlo, hws, hcw, hcode, hini, hy, hlen, hl⟩, hin, hse⟩ := cw
  obtain ⟨hx, hb, hml, ho, -⟩ := S
  obtain ⟨hbl, ⟨cellB, hcB, hoB, hclB⟩, hPc⟩ := hp
  obtain ⟨mk, methM, hnamed, hmethM, hstM, habM⟩ := Cond.instanceMethod_spec hin
  obtain ⟨methM', cM, hmethM', -, -, -, -, -, -, hsigM⟩ := Cond.code_spec hnamed hcode
  cases hmethM.symm.trans hmethM'
  obtain ⟨c2, r2, m2, q1, q2, q3, q4, kP, hkP, hkPi⟩ := Cond.selects_spec hse
  cases hclB.symm.trans q1
  cases (State.methodFound?_of_named hnamed hy).symm.trans q2
  cases hnamed.symm.trans q3
  have hselP : selectMethod e.platform s.vm cellB.cls mk = .method mk := by rw [Launch.admits_selectMethod X.admits]; exact q4
  obtain ⟨vm₁, X₁, hstep₁⟩ := X.invokevirtual hx ho hl hnamed hmethM hstM hkP hkPi hy (a := b) (cell := cellB) (by rw [hT]; exact hcB)
    (fun z h => by rw [h] at hoB; cases hoB) hselP hmethM habM hkP hkPi (g := F0 m pc ls st0) rfl (argsL := As) (rest := rest) (hn.trans (hlen _ hsigM)) hstack (by rw [hb]; exact hdg)
  obtain ⟨T', L, X', hL, hO⟩ := nx_into X₁ hM hbl hrc hrs hfr hlo hws hcw hini (g := { F0 m pc ls st0 with stack := rest }) rfl (hsize.trans hml.symm) (ig := .invokevirtual index) (len := 3) (by rw [hb]; exact hdg) hW (X₁.named hnamed) (a := (Value.ref b :: As).toArray) (hPc (T.setVm vm₁) hT X₁.warmed) hf
  rcases hO with ⟨v, t, e1, e2, hq, hsteps⟩ | ⟨x, hX, hsteps⟩
  · obtain ⟨t2, a1, b1⟩ := kk v _ t T' L (show ((T.setVm vm₁).calling _ mk _).heap = H from hT) X' hL e1 e2 hq
    exact ⟨t2, hstep₁ _ fun acts => by rw [doInvoke_state]; exact hsteps.trans a1, b1⟩
  · have hemp : c.exceptionTable.toList = [] := List.eq_nil_of_length_eq_zero (by simpa [Array.isEmpty] using hnh)
    obtain ⟨hwalk, hrun, hended, hWU, hsame⟩ := X'.leaveThrown x (g := { F0 m pc ls st0 with stack := rest }) rfl rfl rfl (fun z hz => by rw [hemp] at hz; cases hz) hlocks
    refine ⟨_, hstep₁ _ fun acts => by rw [doInvoke_state]; exact hsteps.trans hwalk, .threw x, hrun, hended, Or.inr ⟨x, rfl, ?_⟩, locs ++ L, ⟨hWU, hsame.mono hmc hms⟩, fun q hq => ?_⟩
    · obtain ⟨cell, h1, h2, h3⟩ := hX
      exact ⟨cell, h1, h2, h3⟩
    · rcases List.mem_append.mp hq with h | h
      · exact hfl q h
      · exact hff _ (hL q h)
end NX1
