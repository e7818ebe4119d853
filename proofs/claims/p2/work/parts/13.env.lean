/-! what the statics hold that compile reads: the 31 tokens, their texts, the row of all of them, the map of the switches, the links to a nest mate's fields -/
abbrev nz_str : String := "java/lang/String"
abbrev nz_nm : List String := ["VAR", "PROC", "ARRAY", "BEGIN", "END", "IF", "THEN", "ELSE", "WHILE", "DO", "WRITE", "PLUS", "MINUS", "TIMES", "OVER", "EQUAL", "UNEQUAL", "LESS", "GREATER", "ROUND_OPEN", "ROUND_CLOSE", "SQUARE_OPEN", "SQUARE_CLOSE", "COMMA", "SEMICOLON", "PERIOD", "BECOMES", "NAME", "NUMBER", "TEXT_END", "NO_TOKEN"]
def nz_pm (tk : Nat → Nat) : Nat → Nat := fun k => match k with | 0 => tk 29 | 1 => tk 0 | 2 => tk 1 | _ => tk 3
/-- one token: its static, its object, its three fields, its text -/
def nz_T (tk : Nat → Nat) (i : Nat) (A : Nat → Prop) (U : State) (H : Heap) : Prop :=
  va_Z R_To (nz_nm.getD i "") ns_d (.ref (tk i)) A U H ∧ va_O R_To (tk i) A U H ∧ va_OF "java/lang/Enum" "ordinal" "I" (.int (nI i)) (tk i) A U H ∧ (∃ z : Int32, va_OF R_To "operator" "I" (.int z) (tk i) A U H) ∧ va_OF R_To "spelling" "Ljava/lang/String;" (.ref (tk (31 + i))) (tk i) A U H ∧
  va_O nz_str (tk (31 + i)) A U H ∧ va_OF nz_str "coder" "B" (.int 0) (tk (31 + i)) A U H ∧ va_OF nz_str "value" "[B" (.ref (tk (62 + i))) (tk (31 + i)) A U H ∧ tk (141 + i) < 100 ∧ ∃ f : Nat → Int32, va_T .byte (tk (62 + i)) (tk (141 + i)) (fun j => .int (f j)) A U H
theorem nz_T.moved {tk : Nat → Nat} {i : Nat} {A : Nat → Prop} {u U : State} {H : Heap} (hv : u.vm.Alike U.vm) (h : nz_T tk i A u H) : nz_T tk i A U H := by
  obtain ⟨h1, h2, h3, ⟨z, h4⟩, h5, h6, h7, h8, h9, f, h10⟩ := h
  exact ⟨h1.moved hv, h2.moved hv, h3.moved hv, ⟨z, h4.moved hv⟩, h5.moved hv, h6.moved hv, h7.moved hv, h8.moved hv, h9, f, h10.moved hv⟩
theorem nz_T.kept {tk : Nat → Nat} {i : Nat} {A : Nat → Prop} {U : State} {H H1 : Heap} (h : nz_T tk i A U H) (hq : ∀ a : Nat, a < H.size → ¬ A a → H1[a]? = H[a]?) : nz_T tk i A U H1 := by
  obtain ⟨h1, h2, h3, ⟨z, h4⟩, h5, h6, h7, h8, h9, f, h10⟩ := h
  exact ⟨h1.kept hq, h2.kept hq, h3.kept hq, ⟨z, h4.kept hq⟩, h5.kept hq, h6.kept hq, h7.kept hq, h8.kept hq, h9, f, h10.kept hq⟩
theorem nz_T.narrow {tk : Nat → Nat} {i : Nat} {A B : Nat → Prop} {U : State} {H : Heap} (h : nz_T tk i A U H) (hAB : ∀ q, B q → A q) : nz_T tk i B U H := by
  obtain ⟨h1, h2, h3, ⟨z, h4⟩, h5, h6, h7, h8, h9, f, h10⟩ := h
  exact ⟨h1.narrow hAB, h2.narrow hAB, h3.narrow hAB, ⟨z, h4.narrow hAB⟩, h5.narrow hAB, h6.narrow hAB, h7.narrow hAB, h8.narrow hAB, h9, f, h10.narrow hAB⟩
abbrev nz_fl (own : String) (i : Nat) (n : String) : Cond := .fieldLinkNest own i "NestPascal$Name" n "I" "NestPascal"
abbrev nz_nl : List (String × Nat × String) := [("NestPascal$Names", 29, "id"), ("NestPascal$Compiler", 122, "kind"), ("NestPascal$Names", 43, "kind"), ("NestPascal$Names", 36, "level"), ("NestPascal$Compiler", 294, "level"), ("NestPascal$Names", 46, "place"), ("NestPascal$Compiler", 296, "place"), ("NestPascal$Compiler", 125, "size"), ("NestPascal$Names", 49, "size")]
abbrev nz_pc : String := "jdk/internal/util/Preconditions"
abbrev nz_bf : String := "Ljava/util/function/BiFunction;"
abbrev nz_mp : String := "$SwitchMap$NestPascal$Token"
def nz_F (tk : Nat → Nat) (A : Nat → Prop) (U : State) (H : Heap) : Prop :=
  (∀ i, i < 31 → nz_T tk i A U H) ∧ (va_Z R_To "ALL" "[LNestPascal$Token;" (.ref (tk 100)) A U H ∧ va_T (.object "NestPascal$Token") (tk 100) 31 (fun j => .ref (tk j)) A U H) ∧
  (va_Z "NestPascal$1" nz_mp "[I" (.ref (tk 101)) A U H ∧ ∃ f : Nat → Int32, va_T .int (tk 101) 31 (fun j => .int (f j)) A U H) ∧ va_Z nz_str "COMPACT_STRINGS" "Z" (.int 1) A U H ∧ va_Zq nz_pc "SIOOBE_FORMATTER" nz_bf A U H ∧ (∀ q ∈ nz_nl, va_Nw (nz_fl q.1 q.2.1 q.2.2) U)
def nz_E (tk : Nat → Nat) (A : Nat → Prop) (U : State) (H : Heap) : Prop := ns_E (nz_pm tk) A U H ∧ nz_F tk A U H
theorem nz_E.warm {tk : Nat → Nat} {A : Nat → Prop} {u U : State} {H : Heap} (hW : u.WarmedH U.vm) (h : nz_E tk A u H) : nz_E tk A U H := by
  obtain ⟨h0, h1, ⟨h2, h3⟩, ⟨h4, f, h5⟩, h6, h7, h8⟩ := h
  have hv := hW.alike
  exact ⟨h0.warm hW, fun i hi => (h1 i hi).moved hv, ⟨h2.moved hv, h3.moved hv⟩, ⟨h4.moved hv, f, h5.moved hv⟩, h6.moved hv, h7.moved hv, fun q hq => va_Nw.warmF hW (h8 q hq)⟩
theorem nz_E.same {tk : Nat → Nat} {A : Nat → Prop} {u U : State} {H : Heap} (hv0 : u.vm = U.vm) (h : nz_E tk A u H) : nz_E tk A U H := by
  obtain ⟨h0, h1, ⟨h2, h3⟩, ⟨h4, f, h5⟩, h6, h7, h8⟩ := h
  have hv : u.vm.Alike U.vm := by rw [hv0]; exact Vm.Alike.refl U.vm
  exact ⟨h0.same hv0, fun i hi => (h1 i hi).moved hv, ⟨h2.moved hv, h3.moved hv⟩, ⟨h4.moved hv, f, h5.moved hv⟩, h6.moved hv, h7.moved hv, fun q hq => va_Nw.same rfl hv0 (h8 q hq)⟩
theorem nz_E.kept {tk : Nat → Nat} {A : Nat → Prop} {U : State} {H H1 : Heap} (h : nz_E tk A U H) (hq : ∀ a : Nat, a < H.size → ¬ A a → H1[a]? = H[a]?) : nz_E tk A U H1 := by
  obtain ⟨h0, h1, ⟨h2, h3⟩, ⟨h4, f, h5⟩, h6, h7, h8⟩ := h
  exact ⟨h0.kept hq, fun i hi => (h1 i hi).kept hq, ⟨h2.kept hq, h3.kept hq⟩, ⟨h4.kept hq, f, h5.kept hq⟩, h6.kept hq, h7.kept hq, h8⟩
theorem nz_E.narrow {tk : Nat → Nat} {A B : Nat → Prop} {U : State} {H : Heap} (h : nz_E tk A U H) (hAB : ∀ q, B q → A q) : nz_E tk B U H := by
  obtain ⟨h0, h1, ⟨h2, h3⟩, ⟨h4, f, h5⟩, h6, h7, h8⟩ := h
  exact ⟨h0.narrow hAB, fun i hi => (h1 i hi).narrow hAB, ⟨h2.narrow hAB, h3.narrow hAB⟩, ⟨h4.narrow hAB, f, h5.narrow hAB⟩, h6.narrow hAB, h7.narrow hAB, h8⟩
abbrev nz_P (G : nn_G) (tk : Nat → Nat) (av : List Value) (ws : va_W) (sz : Nat) : Array Value → State → Prop := va_Pc av (fun U => nn_B G ws sz U ∧ nz_E tk (va_A ws sz) U U.heap)
abbrev nz_PR (G : nn_G) (tk : Nat → Nat) (av : List Value) (ws : va_W) (sz : Nat) : Array Value → State → Prop := va_Pc av (fun U => nn_B G ws sz U ∧ nz_E tk (fun _ => False) U U.heap)
theorem nz_blind {G : nn_G} {tk : Nat → Nat} {av : List Value} {ws : va_W} {sz : Nat} {B : Nat → Prop} : FrameBlind (va_Pc av (fun U => nn_B G ws sz U ∧ nz_E tk B U U.heap)) := fun a U g mk q => by
  obtain ⟨q0, ⟨q1, qP, qK, qD, qN⟩, qE⟩ := q
  exact ⟨q0, ⟨q1, qP, va_K.moved (u := U) (U := U.calling g mk a) (Vm.Alike.refl U.vm) qK, qD, nn_N.same (u := U) (U := U.calling g mk a) rfl qN⟩, nz_E.same (u := U) (U := U.calling g mk a) rfl qE⟩
theorem nz_preS {G : nn_G} {tk : Nat → Nat} {s : State} {H : Heap} {A : Nat → Prop} {locs : List Loc} {As : List Value} {wc : va_W} (hP : va_P G.1 nn_cls wc H) (hD : va_D A wc) (hK : va_K G.1 nn_cls (nn_T G) s) (hN : nn_N s) (hE : nz_E tk A s s.heap) (hS : va_S A s.heap H locs) (hF : ∀ q, va_A wc H.size q → A q) : PreS s H (nz_P G tk As wc H.size) As :=
  ⟨nz_blind, fun U hU hW => ⟨rfl, ⟨by rw [hU], by rw [hU]; exact hP, va_K.moved hW.alike hK, hD.weaken (fun _ _ _ _ => trivial), nn_N.warm hW hN⟩, by rw [hU]; exact ((hE.kept hS.2.1).narrow hF).warm hW⟩⟩
theorem nz_preV {G : nn_G} {tk : Nat → Nat} {s : State} {H : Heap} {C : String} {b : Addr} {A : Nat → Prop} {locs : List Loc} {As : List Value} {wc : va_W} (hr : ∃ cellB : Cell, H[b]? = some cellB ∧ cellB.vm.isStatics = false ∧ s.vm.findClass C = some cellB.cls) (hP : va_P G.1 nn_cls wc H) (hD : va_D A wc) (hK : va_K G.1 nn_cls (nn_T G) s) (hN : nn_N s) (hE : nz_E tk A s s.heap) (hS : va_S A s.heap H locs) (hF : ∀ q, va_A wc H.size q → A q) : PreV s H C b (nz_P G tk (.ref b :: As) wc H.size) As :=
  ⟨nz_blind, hr, (nz_preS hP hD hK hN hE hS hF).2⟩
theorem nz_preSR {G : nn_G} {tk : Nat → Nat} {s : State} {H : Heap} {A B : Nat → Prop} {locs : List Loc} {As : List Value} {wc : va_W} (hP : va_P G.1 nn_cls wc H) (hD : va_D B wc) (hK : va_K G.1 nn_cls (nn_T G) s) (hN : nn_N s) (hE : nz_E tk A s s.heap) (hS : va_S A s.heap H locs) : PreS s H (nz_PR G tk As wc H.size) As :=
  ⟨nz_blind, fun U hU hW => ⟨rfl, ⟨by rw [hU], by rw [hU]; exact hP, va_K.moved hW.alike hK, hD.weaken (fun _ _ _ _ => trivial), nn_N.warm hW hN⟩, by rw [hU]; exact ((hE.kept hS.2.1).narrow (fun _ h => h.elim)).warm hW⟩⟩
theorem nz_preVR {G : nn_G} {tk : Nat → Nat} {s : State} {H : Heap} {C : String} {b : Addr} {A B : Nat → Prop} {locs : List Loc} {As : List Value} {wc : va_W} (hr : ∃ cellB : Cell, H[b]? = some cellB ∧ cellB.vm.isStatics = false ∧ s.vm.findClass C = some cellB.cls) (hP : va_P G.1 nn_cls wc H) (hD : va_D B wc) (hK : va_K G.1 nn_cls (nn_T G) s) (hN : nn_N s) (hE : nz_E tk A s s.heap) (hS : va_S A s.heap H locs) : PreV s H C b (nz_PR G tk (.ref b :: As) wc H.size) As :=
  ⟨nz_blind, hr, (nz_preSR hP hD hK hN hE hS).2⟩
theorem nz_recv {tk : Nat → Nat} {A : Nat → Prop} {s : State} {H : Heap} {locs : List Loc} {i : Nat} (hE : nz_E tk A s s.heap) (hS : va_S A s.heap H locs) (hi : i < 31) : ∃ cell : Cell, H[tk i]? = some cell ∧ cell.vm.isStatics = false ∧ s.vm.findClass R_To = some cell.cls := by
  obtain ⟨cell, h1, h2, h3, -⟩ := (hE.2.1 i hi).2.1.kept hS.2.1
  exact ⟨cell, h1, h2, h3⟩
theorem nz_recvS {tk : Nat → Nat} {A : Nat → Prop} {s : State} {H : Heap} {locs : List Loc} {i : Nat} (hE : nz_E tk A s s.heap) (hS : va_S A s.heap H locs) (hi : i < 31) : ∃ cell : Cell, H[tk (31 + i)]? = some cell ∧ cell.vm.isStatics = false ∧ s.vm.findClass nz_str = some cell.cls := by
  obtain ⟨cell, h1, h2, h3, -⟩ := (hE.2.1 i hi).2.2.2.2.2.1.kept hS.2.1
  exact ⟨cell, h1, h2, h3⟩
theorem nz_any {tk : Nat → Nat} {A : Nat → Prop} {s : State} {H : Heap} {locs : List Loc} {i : Nat} (hE : nz_E tk A s s.heap) (hS : va_S A s.heap H locs) (hi : i < 31) : va_Any "NestPascal$Token" s H (tk i) := by
  obtain ⟨cell, g1, g2, g3, -⟩ := (hE.2.1 i hi).2.1.kept hS.2.1
  obtain ⟨-, -, -, -, -, -, -, -, -, -, -, h10⟩ := hE.1
  obtain ⟨kC, hkC, -⟩ := Vm.findClass_spec g3
  exact ⟨cell, g1, g2, ⟨kC, hkC⟩, fun comp hc => by
    have e1 : cell.cls = comp := Option.some.inj (g3.symm.trans hc)
    rw [← e1]; exact h10 _ g3⟩
/-- the pool of names -/
abbrev nz_pl (L : List Nat) (pf : Nat → Nat → Int32) : va_W := va_pl L (fun a => .inr (4, [.int (pf 0 a), .int (pf 1 a), .int (pf 2 a), .int (pf 3 a), .int (pf 4 a)]))
def nz_up (pf : Nat → Nat → Int32) (k a : Nat) (v : Int32) : Nat → Nat → Int32 := fun j b => if j = k ∧ b = a then v else pf j b
section NZ1
variable {p : Program} {l : Launch} {e : Env} {R : Room} {s : State} {m : MethodId} {args : Array Value} {below : List Frame} {meth : Method} {c : Code} {H : Heap} {locs : List Loc} {cells slots : Nat} {Q : State → Prop}
variable {cc : ByteArray} {pc : Nat} {ls : Array Slot} {rest : List Value} {G : nn_G} {A : Nat → Prop} {a : Nat} {X : va_W} {H0 : Heap} {L : List Nat} {pf : Nat → Nat → Int32}
theorem nz_getn (hexec : p.tables.exec = Jvm.exec) (hb : c.code = cc) {own n : String} {index : Nat} (hg : ∀ w ∈ nn_gw, w.before args s = true) (hown : s.vm.findClass own = some m.cls) (hK : va_K G.1 nn_cls (nn_T G) s) (hP : va_P G.1 nn_cls (X ++ nz_pl L pf) H) (ha : a ∈ L) (k : Nat) (hk : k < 5) (hn : (T_Nm k).2.1 = n) (hlink : va_Nw (nz_fl own index n) s) (hdg : decode cc pc = .ok (.getfield index, 3))
    (kk : ∀ v : Int32, W p l e R s m args below meth c H locs cells slots Q (F0 m (pc + 3) ls (.int v :: rest))) : W p l e R s m args below meth c H locs cells slots Q (F0 m pc ls (.ref a :: rest)) := by
  obtain ⟨k9, hk9⟩ := va_pl_get (X := X) (f := fun a => .inr (4, [.int (pf 0 a), .int (pf 1 a), .int (pf 2 a), .int (pf 3 a), .int (pf 4 a)])) ha
  subst hn
  have hd : (T_Nm k).1 = "NestPascal$Name" ∧ (T_Nm k).2.2.1 = "I" := by
    match k, hk with
    | 0, _ => exact ⟨rfl, rfl⟩
    | 1, _ => exact ⟨rfl, rfl⟩
    | 2, _ => exact ⟨rfl, rfl⟩
    | 3, _ => exact ⟨rfl, rfl⟩
    | 4, _ => exact ⟨rfl, rfl⟩
  have hfs : ([Value.int (pf 0 a), .int (pf 1 a), .int (pf 2 a), .int (pf 3 a), .int (pf 4 a)] : List Value)[k]? = some (.int (pf k a)) := by
    match k, hk with
    | 0, _ => rfl
    | 1, _ => rfl
    | 2, _ => rfl
    | 3, _ => rfl
    | 4, _ => rfl
  exact va_getN (C := R_Nm) (T := T_Nm) (N := 5) (ref := "NestPascal$Name") (host := "NestPascal") (index := index) hexec hb hg in_Nm hown hK hP k9 hk9 rfl k hk (by rw [hd.2]; exact va_Nw.use rfl hlink) (by rw [hd.1]; exact fun _ h => h) hfs hdg (kk _)
theorem nz_putn (hexec : p.tables.exec = Jvm.exec) (hb : c.code = cc) {own n : String} {index : Nat} (hg : ∀ w ∈ nn_gw, w.before args s = true) (hown : s.vm.findClass own = some m.cls) (hK : va_K G.1 nn_cls (nn_T G) s) (hP : va_P G.1 nn_cls (X ++ nz_pl L pf) H) (hD : va_D A (X ++ nz_pl L pf)) (hS : va_S A H0 H locs) (ha : a ∈ L) (k : Nat) (hk : k < 5) (hn : (T_Nm k).2.1 = n) (hlink : va_Nw (nz_fl own index n) s) {v : Int32} (hdg : decode cc pc = .ok (.putfield index, 3))
    (kk : ∀ (pf : Nat → Nat → Int32) (H1 : Heap) (locs1 : List Loc), va_P G.1 nn_cls (X ++ nz_pl L pf) H1 → va_D A (X ++ nz_pl L pf) → va_S A H0 H1 locs1 → W p l e R s m args below meth c H1 locs1 cells slots Q (F0 m (pc + 3) ls rest)) : W p l e R s m args below meth c H locs cells slots Q (F0 m pc ls (.int v :: .ref a :: rest)) := by
  obtain ⟨k9, hk9⟩ := va_pl_get (X := X) (f := fun a => .inr (4, [.int (pf 0 a), .int (pf 1 a), .int (pf 2 a), .int (pf 3 a), .int (pf 4 a)])) ha
  subst hn
  have hd : (T_Nm k).1 = "NestPascal$Name" ∧ (T_Nm k).2.2.1 = "I" ∧ (T_Nm k).2.2.2 = false := by
    match k, hk with
    | 0, _ => exact ⟨rfl, rfl, rfl⟩
    | 1, _ => exact ⟨rfl, rfl, rfl⟩
    | 2, _ => exact ⟨rfl, rfl, rfl⟩
    | 3, _ => exact ⟨rfl, rfl, rfl⟩
    | 4, _ => exact ⟨rfl, rfl, rfl⟩
  refine va_putN (C := R_Nm) (T := T_Nm) (N := 5) (ref := "NestPascal$Name") (host := "NestPascal") (index := index) hexec hb hg in_Nm t_Nm ok_Nm nm_Nm hown hK hP hD hS k9 hk9 rfl k hk (by rw [hd.2.1]; exact va_Nw.use rfl hlink) (by rw [hd.1]; exact fun _ h => h) hd.2.2 (ty := .int) (v := .int v) (by rw [hd.2.1]; decide +kernel) rfl rfl (by simpa using hk) hdg (fun H1 locs1 h1 h2 h3 => ?_)
  have e1 := va_pl_set (e := .inr (4, ([Value.int (pf 0 a), .int (pf 1 a), .int (pf 2 a), .int (pf 3 a), .int (pf 4 a)] : List Value).set k (.int v))) hD ha hk9
  have e2 : va_pl L (va_up (fun a => .inr (4, [.int (pf 0 a), .int (pf 1 a), .int (pf 2 a), .int (pf 3 a), .int (pf 4 a)])) a (.inr (4, ([Value.int (pf 0 a), .int (pf 1 a), .int (pf 2 a), .int (pf 3 a), .int (pf 4 a)] : List Value).set k (.int v)))) = nz_pl L (nz_up pf k a v) := by
    refine va_pl_congr fun b => ?_
    by_cases hba : b = a
    · subst hba
      match k, hk with
      | 0, _ => simp [va_up, nz_up]
      | 1, _ => simp [va_up, nz_up]
      | 2, _ => simp [va_up, nz_up]
      | 3, _ => simp [va_up, nz_up]
      | 4, _ => simp [va_up, nz_up]
    · simp [va_up, nz_up, hba]
  have e3 : (X ++ nz_pl L pf).set k9 (a, .inr (4, ([Value.int (pf 0 a), .int (pf 1 a), .int (pf 2 a), .int (pf 3 a), .int (pf 4 a)] : List Value).set k (.int v))) = X ++ nz_pl L (nz_up pf k a v) := e1.trans (by rw [e2])
  rw [e3] at h1 h2
  exact kk _ H1 locs1 h1 h2 h3
end NZ1
