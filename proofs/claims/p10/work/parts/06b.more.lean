/-! more of them, the heap's alone -/
noncomputable def rf_lload (n : Nat) : RfF := fun h _ u _ pc len lo st K sl => match rf_at n lo with
  | some (.val (.long v)) => rf_n (pc + len) fun q => K h u q lo (.long v :: st)
  | _ => sl ()
theorem rf_lload_ok {ins : Instr} {n : Nat} (hx : ∀ {Q : Unit → Pre} {E : CtlPost} {e : Env} {d : Bool} {acts : List Action} {s : State}, wp (start1.p0.tables.exec ins) Q E e d acts s ↔
    ∃ f, s.topJava? = some f ∧ ∃ v, f.locals[n]? = some (.val (.long v)) ∧ Q () true acts (s.setTop { f with stack := .long v :: f.stack })) : rf_Sd ins (rf_lload n) := by
  intro h ve w dr u c i pc len lo st r K sl hk
  unfold rf_lload at hk
  split at hk
  · rename_i v hv
    rw [rf_n_eq] at hk
    rw [rf_at_eq, ← rf_arr] at hv
    exact .inr ⟨_, _, _, _, _, hk, rf_fin (hx.mpr ⟨rf_F c i pc lo st, rfl, v, hv, rfl⟩)⟩
  · exact .inl hk
noncomputable def rf_i2c : RfF := fun h _ u _ pc len lo st K sl => match st with
  | .int x :: t => rf_i (x.toUInt32.toUInt16.toUInt32.toInt32) fun v => rf_n (pc + len) fun q => K h u q lo (.int v :: t)
  | _ => sl ()
theorem rf_i2c_ok : rf_Sd .i2c rf_i2c := by
  intro h ve w dr u c i pc len lo st r K sl hk
  unfold rf_i2c at hk
  split at hk
  · rename_i x t
    rw [rf_i_eq, rf_n_eq] at hk
    exact .inr ⟨_, _, _, _, _, hk, rf_fin (Op.i2c.wp_sem.mpr ⟨rf_F c i pc lo (.int x :: t), rfl, x, t, rfl, rfl⟩)⟩
  · exact .inl hk
noncomputable def rf_l2i : RfF := fun h _ u _ pc len lo st K sl => match st with
  | .long x :: t => rf_i x.toInt32 fun v => rf_n (pc + len) fun q => K h u q lo (.int v :: t)
  | _ => sl ()
theorem rf_l2i_ok : rf_Sd .l2i rf_l2i := by
  intro h ve w dr u c i pc len lo st r K sl hk
  unfold rf_l2i at hk
  split at hk
  · rename_i x t
    rw [rf_i_eq, rf_n_eq] at hk
    exact .inr ⟨_, _, _, _, _, hk, rf_fin (Op.l2i.wp_sem.mpr ⟨rf_F c i pc lo (.long x :: t), rfl, x, t, rfl, rfl⟩)⟩
  · exact .inl hk
noncomputable def rf_lushr : RfF := fun h _ u _ pc len lo st K sl => match st with
  | .int y :: .long x :: t => rf_l ((x.toUInt64 >>> (y &&& 0x3f).toInt64.toUInt64).toInt64) fun v => rf_n (pc + len) fun q => K h u q lo (.long v :: t)
  | _ => sl ()
theorem rf_lushr_ok : rf_Sd .lushr rf_lushr := by
  intro h ve w dr u c i pc len lo st r K sl hk
  unfold rf_lushr at hk
  split at hk
  · rename_i y x t
    rw [rf_l_eq, rf_n_eq] at hk
    exact .inr ⟨_, _, _, _, _, hk, rf_fin (Op.lushr.wp_sem.mpr ⟨rf_F c i pc lo (.int y :: .long x :: t), rfl, y, x, t, rfl, rfl⟩)⟩
  · exact .inl hk
/-- the type of the components, of a class of arrays -/
def rf_kd (ve : Vm) (cl : Nat) : Option FieldType := match ve.classes[cl]? with
  | some k => match k.kind with
    | .array _ t => some t
    | _ => none
  | none => none
theorem rf_kd_of {s : State} {cl : Nat} {t : FieldType} (h : rf_kd s.vm cl = some t) : ∃ k, s.vm.classes[cl]? = some k ∧ ∃ comp, k.kind = .array comp t := by
  unfold rf_kd at h
  split at h
  · rename_i k hk
    split at h
    · rename_i comp t' hkd
      cases h
      exact ⟨k, hk, comp, hkd⟩
    · cases h
  · cases h
noncomputable def rf_xal (tst : FieldType → Bool) : RfF := fun h ve u _ pc len lo st K sl => match st with
  | .int i :: .ref a :: t => match rf_at a h with
    | some ⟨cl, ⟨sls⟩, _, _, .none⟩ => match rf_kd ve cl with
      | some ty => match tst ty with
        | true => match Int32.decLt i 0 with
          | .isFalse _ => rf_n i.toNatClampNeg fun j => match rf_at j sls with
            | some v => rf_v v fun v' => rf_n (pc + len) fun q => K h u q lo (v' :: t)
            | none => sl ()
          | .isTrue _ => sl ()
        | false => sl ()
      | none => sl ()
    | _ => sl ()
  | _ => sl ()
theorem rf_xal_ok {ins : Instr} {tst : FieldType → Bool} (hx : ∀ {Q : Unit → Pre} {E : CtlPost} {e : Env} {d : Bool} {acts : List Action} {s : State} {f : JFrame} {i : Int32} {a : Addr} {rest : List Value} {c : Cell} {t : FieldType} {v : Value},
    s.topJava? = some f → f.stack = .int i :: .ref a :: rest → s.heap[a]? = some c → s.isArrayOf c t → tst t = true → ¬ (i < 0 ∨ c.slots.size ≤ i.toNatClampNeg) → c.vm ≠ .unknown → c.slots[i.toNatClampNeg]? = some v →
    Q () true (.read ⟨a, i.toNatClampNeg⟩ .plain v :: acts) (s.setTop { f with stack := v :: rest }) → wp (start1.p0.tables.exec ins) Q E e d acts s) : rf_Sd ins (rf_xal tst) := by
  intro h ve w dr u c i pc len lo st r K sl hk
  unfold rf_xal at hk
  split at hk
  · rename_i ix a t
    split at hk
    · rename_i cl sls mo ha hc
      split at hk
      · rename_i ty hty
        split at hk
        · rename_i hts
          split at hk
          · rename_i hn _
            rw [rf_n_eq] at hk
            split at hk
            · rename_i v hv
              rw [rf_v_eq, rf_n_eq] at hk
              rw [rf_at_eq] at hv
              rw [rf_at_eq, ← rf_arr] at hc
              have hlt : ix.toNatClampNeg < sls.length := (List.getElem?_eq_some_iff.mp hv).1
              obtain ⟨k, hk1, comp, hkd⟩ := rf_kd_of (s := rf_mk h ve w dr u c i pc lo (.int ix :: .ref a :: t) r) hty
              have hA : (rf_mk h ve w dr u c i pc lo (.int ix :: .ref a :: t) r).isArrayOf ⟨cl, ⟨sls⟩, mo, ha, .none⟩ ty := ⟨fun q hq => (by cases hq), k, hk1, comp, hkd⟩
              refine .inr ⟨_, _, _, _, _, hk, rf_fin (hx (f := rf_F c i pc lo (.int ix :: .ref a :: t)) rfl rfl hc hA hts ?_ (by intro q; cases q) ((rf_arr sls _).trans hv) rfl)⟩
              rintro (h1 | h1)
              · exact hn h1
              · exact absurd hlt (Nat.not_lt.mpr h1)
            · exact .inl hk
          · exact .inl hk
        · exact .inl hk
      · exact .inl hk
    · exact .inl hk
  · exact .inl hk
theorem rf_cal_ok : rf_Sd .caload (rf_xal fun t => decide (t = .char)) := rf_xal_ok (by
  intro Q E e d acts s f i a rest c t v h1 h2 h3 h4 h5 h6 h7 h8 h9
  have h5' : t = .char := of_decide_eq_true h5
  subst h5'
  refine Op.caload.wp_sem.mpr ⟨f, h1, i, .ref a, rest, h2, c, h3, h4.isArray, ?_⟩
  rw [if_neg h6]
  exact ⟨h4, h7, v, h8, h9⟩)
theorem rf_bal_ok : rf_Sd .baload (rf_xal fun t => decide (t = .byte)) := rf_xal_ok (by
  intro Q E e d acts s f i a rest c t v h1 h2 h3 h4 h5 h6 h7 h8 h9
  have h5' : t = .byte := of_decide_eq_true h5
  subst h5'
  refine Op.baload.wp_sem.mpr ⟨f, h1, i, .ref a, rest, h2, c, h3, h4.isArray, ?_⟩
  rw [if_neg h6]
  exact ⟨_, h4, .inl rfl, h7, v, h8, h9⟩)
theorem rf_aal_ok : rf_Sd .aaload (rf_xal fun t => t.isReference) := rf_xal_ok (by
  intro Q E e d acts s f i a rest c t v h1 h2 h3 h4 h5 h6 h7 h8 h9
  refine Op.aaload.wp_sem.mpr ⟨f, h1, i, .ref a, rest, h2, c, h3, h4.isArray, ?_⟩
  rw [if_neg h6]
  exact ⟨⟨t, h4, h5⟩, h7, v, h8, h9⟩)
noncomputable def rf_alen : RfF := fun h ve u _ pc len lo st K sl => match st with
  | .ref a :: t => match rf_at a h with
    | some ⟨cl, ⟨sls⟩, _, _, .none⟩ => match rf_kd ve cl with
      | some _ => rf_i sls.length.toInt32 fun v => rf_n (pc + len) fun q => K h u q lo (.int v :: t)
      | none => sl ()
    | _ => sl ()
  | _ => sl ()
theorem rf_alen_ok : rf_Sd .arraylength rf_alen := by
  intro h ve w dr u c i pc len lo st r K sl hk
  unfold rf_alen at hk
  split at hk
  · rename_i a t
    split at hk
    · rename_i cl sls mo ha hc
      split at hk
      · rename_i ty hty
        rw [rf_i_eq, rf_n_eq] at hk
        rw [rf_at_eq, ← rf_arr] at hc
        obtain ⟨k, hk1, comp, hkd⟩ := rf_kd_of (s := rf_mk h ve w dr u c i pc lo (.ref a :: t) r) hty
        exact .inr ⟨_, _, _, _, _, hk, rf_fin (Op.arraylength.wp_sem.mpr ⟨rf_F c i pc lo (.ref a :: t), rfl, .ref a, t, rfl, ⟨cl, ⟨sls⟩, mo, ha, .none⟩, hc, ⟨fun q hq => (by cases hq), k, hk1, comp, ty, hkd⟩, rfl⟩)⟩
      · exact .inl hk
    · exact .inl hk
  · exact .inl hk
noncomputable def rf_cas : RfF := fun h ve u _ pc len lo st K sl => match st with
  | .int x :: .int i :: .ref a :: t => match rf_at a h with
    | some ⟨cl, ⟨sls⟩, mo, ha, .none⟩ => match rf_kd ve cl with
      | some .char => match Int32.decLt i 0 with
        | .isFalse _ => rf_n i.toNatClampNeg fun j => match rf_at j sls with
          | some _ => rf_v (narrow .char (.int x)) fun v => match fits .char v with
            | true => rf_set j v sls fun sls' => rf_set a ⟨cl, ⟨sls'⟩, mo, ha, .none⟩ h fun h' => rf_n (pc + len) fun q => K h' u q lo t
            | false => sl ()
          | none => sl ()
        | .isTrue _ => sl ()
      | _ => sl ()
    | _ => sl ()
  | _ => sl ()
theorem rf_cas_ok : rf_Sd .castore rf_cas := by
  intro h ve w dr u c i pc len lo st r K sl hk
  unfold rf_cas at hk
  split at hk
  · rename_i x ix a t
    split at hk
    · rename_i cl sls mo ha hc
      split at hk
      · rename_i hi
        split at hk
        · rename_i hn _
          rw [rf_n_eq] at hk
          split at hk
          · rename_i v hv
            rw [rf_v_eq] at hk
            split at hk
            · rename_i hft
              rw [rf_set_eq, rf_set_eq, rf_n_eq] at hk
              rw [rf_at_eq] at hv
              rw [rf_at_eq, ← rf_arr] at hc
              have hlt : ix.toNatClampNeg < sls.length := (List.getElem?_eq_some_iff.mp hv).1
              obtain ⟨k, hk1, comp, hkd⟩ := rf_kd_of (s := rf_mk h ve w dr u c i pc lo (.int x :: .int ix :: .ref a :: t) r) hi
              have hA : (rf_mk h ve w dr u c i pc lo (.int x :: .int ix :: .ref a :: t) r).isArrayOf ⟨cl, ⟨sls⟩, mo, ha, .none⟩ .char := ⟨fun q hq => (by cases hq), k, hk1, comp, hkd⟩
              refine .inr ⟨_, _, _, _, _, hk, rf_fin (Op.castore.wp_sem.mpr ⟨rf_F c i pc lo (.int x :: .int ix :: .ref a :: t), rfl, x, ix, .ref a, t, rfl, ⟨cl, ⟨sls⟩, mo, ha, .none⟩, hc, hA.isArray, ?_⟩)⟩
              rw [if_neg (by
                rintro (h1 | h1)
                · exact hn h1
                · exact absurd hlt (Nat.not_lt.mpr h1))]
              refine ⟨hA, (by intro q; cases q), ?_, ?_⟩
              · unfold State.fitsSlot State.slotType?
                rw [hk1]
                show (match (match k.kind with
                  | .array _ type => some type
                  | _ => k.instanceTypes[ix.toNatClampNeg]?) with
                  | some t => fits t (narrow .char (.int x))
                  | none => false) = true
                rw [hkd]
                exact hft
              · unfold State.setCell Cell.setSlot
                show State.setTop { rf_mk h ve w dr u c i pc lo (.int x :: .int ix :: .ref a :: t) r with heap := (Array.mk h).setIfInBounds a ⟨cl, (Array.mk sls).setIfInBounds ix.toNatClampNeg (narrow .char (.int x)), mo, ha, .none⟩ } (rf_F c i pc lo t) = _
                rw [rf_sib, rf_sib]
                rfl
            · exact .inl hk
          · exact .inl hk
        · exact .inl hk
      · exact .inl hk
    · exact .inl hk
  · exact .inl hk
/-- the cell of statics and the slot of the static field that an entry is resolved to -/
def rf_sfl (ve : Vm) (c ix : Nat) : Option (Nat × Nat) := match ve.classes[c]? with
  | some k => match k.resolved[ix]? with
    | some (some (.field c' j)) => match ve.classes[c']? with
      | some kc => match kc.fields[j]? with
        | some f => match kc.statics with
          | some a => if f.isStatic && decide (kc.init = .initialized) then some (a, f.slot) else none
          | none => none
        | none => none
      | none => none
    | _ => none
  | none => none
theorem rf_sfl_of {ve : Vm} {c ix a j : Nat} (h : rf_sfl ve c ix = some (a, j)) : ∃ c' f kc, ve.fieldReady c ix c' f ∧ f.isStatic = true ∧ f.slot = j ∧ ve.classes[c']? = some kc ∧ kc.init = .initialized ∧ kc.statics = some a := by
  unfold rf_sfl at h
  split at h
  · rename_i k hk
    split at h
    · rename_i c' n hr
      split at h
      · rename_i kc hkc
        split at h
        · rename_i f hf
          split at h
          · rename_i a' ha
            split at h
            · rename_i hs
              simp only [Option.some.injEq, Prod.mk.injEq] at h
              obtain ⟨h1, h2⟩ := h
              rw [Bool.and_eq_true] at hs
              exact ⟨c', f, kc, ⟨k, n, kc, hk, hr, hkc, hf⟩, hs.1, h2, hkc, of_decide_eq_true hs.2, by rw [ha, h1]⟩
            · cases h
          · cases h
        · cases h
      · cases h
    · cases h
  · cases h
noncomputable def rf_gets (ix : Nat) : RfF := fun h ve u c pc len lo st K sl => match rf_sfl ve c ix with
  | some (a, j) => match rf_at a h with
    | some ⟨_, ⟨sls⟩, _, _, .statics _⟩ => match rf_at j sls with
      | some v => rf_v v fun v' => rf_n (pc + len) fun q => K h u q lo (v' :: st)
      | none => sl ()
    | _ => sl ()
  | none => sl ()
theorem rf_gets_ok (ix : Nat) : rf_Sd (.getstatic ix) (rf_gets ix) := by
  intro h ve w dr u c i pc len lo st r K sl hk
  unfold rf_gets at hk
  split at hk
  · rename_i a j hf
    split at hk
    · rename_i cl sls mo ha sc hc
      split at hk
      · rename_i v hv
        rw [rf_v_eq, rf_n_eq] at hk
        obtain ⟨c', f, kc, hr, hs, hj, hkc, hin, hst⟩ := rf_sfl_of hf
        subst hj
        rw [rf_at_eq, ← rf_arr] at hc hv
        exact .inr ⟨_, _, _, _, _, hk, rf_fin ((Op.getstatic.wp_ready (s := rf_mk h ve w dr u c i pc lo st r) (f := rf_F c i pc lo st) rfl hr hs hkc hin hst hc (by intro q; cases q) hv).mpr rfl)⟩
      · exact .inl hk
    · exact .inl hk
  · exact .inl hk
noncomputable def rf_app {α : Type} (l : List α) (y : α) : (List α → Bool) → Bool :=
  List.rec (motive := fun _ => (List α → Bool) → Bool) (fun k => k [y]) (fun x _ ih k => ih fun r => k (x :: r)) l
theorem rf_app_eq {α : Type} (l : List α) (y : α) : ∀ k, rf_app l y k = k (l ++ [y]) := by
  induction l with
  | nil => intro k; rfl
  | cons x l ih => intro k; exact ih fun r => k (x :: r)
theorem rf_push {α : Type} (l : List α) (y : α) : (Array.mk l).push y = Array.mk (l ++ [y]) := List.push_toArray ..
/-- the class of arrays of a primitive type -/
def rf_nac (ve : Vm) (ty : ClassFile.ArrayType) : Option Nat := match ve.findClass ("[" ++ (Op.newarray.typeOf ty).toString) with
  | some c => match rf_kd ve c with
    | some t => if decide (t = Op.newarray.typeOf ty) then some c else none
    | none => none
  | none => none
noncomputable def rf_na (ty : ClassFile.ArrayType) : RfF := fun h ve u _ pc len lo st K sl => match st with
  | .int n :: t => match rf_nac ve ty with
    | some cl => match Int32.decLt n 0 with
      | .isFalse _ => rf_n n.toNatClampNeg fun m => rf_n h.length fun a =>
          match decide (m ≤ start1.e0.platform.arrayLengthLimit) && (decide (m * componentBytes (Op.newarray.typeOf ty) ≤ start1.e0.platform.maxHeapBytes) && (decide (a < start1.e0.platform.maxCells) && decide (u + m ≤ start1.e0.platform.maxSlots))) with
          | true => rf_vs (List.replicate m (defaultValue (Op.newarray.typeOf ty))) fun sls => rf_app h ⟨cl, ⟨sls⟩, {}, none, .none⟩ fun h' => rf_n (u + m) fun u' => rf_n (pc + len) fun q => K h' u' q lo (.ref a :: t)
          | false => sl ()
      | .isTrue _ => sl ()
    | none => sl ()
  | _ => sl ()
theorem rf_na_ok (ty : ClassFile.ArrayType) : rf_Sd (.newarray ty) (rf_na ty) := by
  intro h ve w dr u c i pc len lo st r K sl hk
  unfold rf_na at hk
  split at hk
  · rename_i n t
    split at hk
    · rename_i cl hcl
      split at hk
      · rename_i hn _
        rw [rf_n_eq, rf_n_eq] at hk
        split at hk
        · rename_i hb
          rw [rf_vs_eq, rf_app_eq, rf_n_eq, rf_n_eq] at hk
          simp only [Bool.and_eq_true, decide_eq_true_eq] at hb
          obtain ⟨b1, b2, b3, b4⟩ := hb
          unfold rf_nac at hcl
          split at hcl
          · rename_i c' hfc
            split at hcl
            · rename_i t' hkd
              split at hcl
              · rename_i hty
                cases hcl
                have hty' := of_decide_eq_true hty
                subst hty'
                obtain ⟨k, hk1, comp, hkind⟩ := rf_kd_of (s := rf_mk h ve w dr u c i pc lo (.int n :: t) r) hkd
                refine .inr ⟨_, _, _, _, _, hk, rf_fin ((Op.newarray.wp_ready (s := rf_mk h ve w dr u c i pc lo (.int n :: t) r) (f := rf_F c i pc lo (.int n :: t)) rfl hfc hk1 hkind rfl hn (Nat.not_lt.mpr b1) (Nat.not_lt.mpr b2)).mpr ⟨b3, b4, ?_⟩)⟩
                show State.setTop { rf_mk h ve w dr u c i pc lo (.int n :: t) r with heap := (Array.mk h).push ⟨cl, Array.replicate n.toNatClampNeg (defaultValue (Op.newarray.typeOf ty)), {}, none, .none⟩, slotsUsed := u + (Array.replicate n.toNatClampNeg (defaultValue (Op.newarray.typeOf ty))).size } (rf_F c i pc lo (.ref h.length :: t)) = _
                rw [Array.size_replicate, rf_push]
                rfl
              · cases hcl
            · cases hcl
          · cases hcl
        · exact .inl hk
      · exact .inl hk
    · exact .inl hk
  · exact .inl hk
/-- the class that an entry of new is resolved to, and what a new object of it holds -/
def rf_nwc (ve : Vm) (c ix : Nat) : Option (Nat × List Value) := match ve.classes[c]? with
  | some kc => match kc.resolved[ix]? with
    | some (some (.cls c')) => match ve.classes[c']? with
      | some k => match decide (k.kind = .ordinary) && (decide (k.init = .initialized) && (!(k.isInterface || hasFlag k.accessFlags Acc.abstract) && !decide (k.name = "java/lang/Class"))) with
        | true => some (c', k.instanceTypes.toList.map defaultValue)
        | false => none
      | none => none
    | _ => none
  | none => none
noncomputable def rf_new (ix : Nat) : RfF := fun h ve u c pc len lo st K sl => match rf_nwc ve c ix with
  | some (cl, vs) => rf_n h.length fun a => rf_n vs.length fun m => match decide (a < start1.e0.platform.maxCells) && decide (u + m ≤ start1.e0.platform.maxSlots) with
    | true => rf_vs vs fun sls => rf_app h ⟨cl, ⟨sls⟩, {}, none, .none⟩ fun h' => rf_n (u + m) fun u' => rf_n (pc + len) fun q => K h' u' q lo (.ref a :: st)
    | false => sl ()
  | none => sl ()
theorem rf_new_ok (ix : Nat) : rf_Sd (.new ix) (rf_new ix) := by
  intro h ve w dr u c i pc len lo st r K sl hk
  unfold rf_new at hk
  split at hk
  · rename_i cl vs hcl
    rw [rf_n_eq, rf_n_eq] at hk
    split at hk
    · rename_i hb
      rw [rf_vs_eq, rf_app_eq, rf_n_eq, rf_n_eq] at hk
      simp only [Bool.and_eq_true, decide_eq_true_eq] at hb
      unfold rf_nwc at hcl
      split at hcl
      · rename_i kc hkc
        split at hcl
        · rename_i c' hr
          split at hcl
          · rename_i k hk1
            split at hcl
            · rename_i hq
              simp only [Option.some.injEq, Prod.mk.injEq] at hcl
              obtain ⟨rfl, rfl⟩ := hcl
              simp only [Bool.and_eq_true, Bool.not_eq_true', decide_eq_true_eq, decide_eq_false_iff_not] at hq
              obtain ⟨q1, q2, q3, q4⟩ := hq
              have hmap : k.instanceTypes.map defaultValue = ⟨k.instanceTypes.toList.map defaultValue⟩ := by apply Array.ext'; simp
              have hsz : (k.instanceTypes.toList.map defaultValue).length = k.instanceTypes.size := by simp
              rw [hsz] at hb hk
              refine .inr ⟨_, _, _, _, _, hk, rf_fin ((Op.new.wp_ready (s := rf_mk h ve w dr u c i pc lo st r) (f := rf_F c i pc lo st) rfl ⟨kc, hkc, hr⟩ hk1 q1 q2 q3 q4).mpr ⟨hb.1, hb.2, ?_⟩)⟩
              show State.setTop { rf_mk h ve w dr u c i pc lo st r with heap := (Array.mk h).push ⟨c', k.instanceTypes.map defaultValue, {}, none, .none⟩, slotsUsed := u + (k.instanceTypes.map defaultValue).size } (rf_F c i pc lo (.ref h.length :: st)) = _
              rw [Array.size_map, hmap, rf_push]
              rfl
            · cases hcl
          · cases hcl
        · cases hcl
      · cases hcl
    · exact .inl hk
  · exact .inl hk
/-- may a reference to an object of class clv be stored into an array of class cl? -/
def rf_aac (ve : Vm) (cl clv : Nat) : Option FieldType := match ve.classes[cl]? with
  | some k => match k.kind with
    | .array comp ty => match (ve.classes[clv]?).isSome && ((ve.classes[comp]?).isSome && ve.assignable clv comp) with
      | true => some ty
      | false => none
    | _ => none
  | none => none
noncomputable def rf_aas : RfF := fun h ve u _ pc len lo st K sl => match st with
  | .ref v :: .int i :: .ref a :: t => match rf_at a h with
    | some ⟨cl, ⟨sls⟩, mo, ha, .none⟩ => match rf_at v h with
      | some ⟨clv, _, _, _, .none⟩ => match rf_aac ve cl clv with
        | some ty => match fits ty (.ref v) with
          | true => match Int32.decLt i 0 with
            | .isFalse _ => rf_n i.toNatClampNeg fun j => match rf_at j sls with
              | some _ => rf_set j (.ref v) sls fun sls' => rf_set a ⟨cl, ⟨sls'⟩, mo, ha, .none⟩ h fun h' => rf_n (pc + len) fun q => K h' u q lo t
              | none => sl ()
            | .isTrue _ => sl ()
          | false => sl ()
        | none => sl ()
      | _ => sl ()
    | _ => sl ()
  | _ => sl ()
theorem rf_aas_ok : rf_Sd .aastore rf_aas := by
  intro h ve w dr u c i pc len lo st r K sl hk
  unfold rf_aas at hk
  split at hk
  · rename_i va ix a t
    split at hk
    · rename_i cl sls mo ha hc
      split at hk
      · rename_i clv sv mv hv' hcv
        split at hk
        · rename_i ty hty
          split at hk
          · rename_i hft
            split at hk
            · rename_i hn _
              rw [rf_n_eq] at hk
              split at hk
              · rename_i v0 hv
                rw [rf_set_eq, rf_set_eq, rf_n_eq] at hk
                rw [rf_at_eq] at hv
                rw [rf_at_eq, ← rf_arr] at hc hcv
                have hlt : ix.toNatClampNeg < sls.length := (List.getElem?_eq_some_iff.mp hv).1
                unfold rf_aac at hty
                split at hty
                · rename_i k hk1
                  split at hty
                  · rename_i comp ty' hkd
                    split at hty
                    · rename_i hb
                      cases hty
                      simp only [Bool.and_eq_true] at hb
                      obtain ⟨b1, b2, b3⟩ := hb
                      obtain ⟨kv, hkv⟩ := Option.isSome_iff_exists.mp b1
                      obtain ⟨kc, hkc⟩ := Option.isSome_iff_exists.mp b2
                      refine .inr ⟨_, _, _, _, _, hk, rf_fin (Op.aastore.wp_of_ref (s := rf_mk h ve w dr u c i pc lo (.ref va :: .int ix :: .ref a :: t) r) (f := rf_F c i pc lo (.ref va :: .int ix :: .ref a :: t)) rfl rfl hc (by intro q hq; cases hq) hk1 hkd ?_ (by intro q; cases q) hcv (by intro q hq; cases hq) hkv hkc b3 hlt ?_ ?_)⟩
                      · rintro (h1 | h1)
                        · exact hn h1
                        · exact absurd hlt (Nat.not_lt.mpr h1)
                      · unfold State.fitsSlot State.slotType?
                        have hk2 : (rf_mk h ve w dr u c i pc lo (.ref va :: .int ix :: .ref a :: t) r).vm.classes[cl]? = some k := hk1
                        rw [hk2]
                        show (match (match k.kind with
                          | .array _ type => some type
                          | _ => k.instanceTypes[ix.toNatClampNeg]?) with
                          | some t => fits t (.ref va)
                          | none => false) = true
                        rw [hkd]
                        exact hft
                      · unfold State.setCell Cell.setSlot
                        show State.setTop { rf_mk h ve w dr u c i pc lo (.ref va :: .int ix :: .ref a :: t) r with heap := (Array.mk h).setIfInBounds a ⟨cl, (Array.mk sls).setIfInBounds ix.toNatClampNeg (.ref va), mo, ha, .none⟩ } (rf_F c i pc lo t) = _
                        rw [rf_sib, rf_sib]
                        rfl
                    · cases hty
                  · cases hty
                · cases hty
              · exact .inl hk
            · exact .inl hk
          · exact .inl hk
        · exact .inl hk
      · exact .inl hk
    · exact .inl hk
  · exact .inl hk
noncomputable def rf_opB (ins : Instr) : Option RfF := match ins with
  | .lload n => some (rf_lload n)
  | .lload_n n => some (rf_lload n.val)
  | .i2c => some rf_i2c
  | .l2i => some rf_l2i
  | .lushr => some rf_lushr
  | .caload => some (rf_xal fun t => decide (t = .char))
  | .baload => some (rf_xal fun t => decide (t = .byte))
  | .aaload => some (rf_xal fun t => t.isReference)
  | .arraylength => some rf_alen
  | .castore => some rf_cas
  | .getstatic ix => some (rf_gets ix)
  | .newarray ty => some (rf_na ty)
  | .new ix => some (rf_new ix)
  | .aastore => some rf_aas
  | _ => none
theorem rf_opB_ok {ins : Instr} {f : RfF} (h : rf_opB ins = some f) : rf_Sd ins f := by
  unfold rf_opB at h
  split at h
  · cases h; exact rf_lload_ok (Op.lload.wp_sem _)
  · cases h; exact rf_lload_ok (Op.lload_n.wp_sem _)
  · cases h; exact rf_i2c_ok
  · cases h; exact rf_l2i_ok
  · cases h; exact rf_lushr_ok
  · cases h; exact rf_cal_ok
  · cases h; exact rf_bal_ok
  · cases h; exact rf_aal_ok
  · cases h; exact rf_alen_ok
  · cases h; exact rf_cas_ok
  · cases h; exact rf_gets_ok _
  · cases h; exact rf_na_ok _
  · cases h; exact rf_new_ok _
  · cases h; exact rf_aas_ok
  · cases h
noncomputable def rf_opA (ins : Instr) : Option RfF := match rf_op ins with
  | some f => some f
  | none => rf_opB ins
theorem rf_opA_ok {ins : Instr} {f : RfF} (h : rf_opA ins = some f) : rf_Sd ins f := by
  unfold rf_opA at h
  split at h
  · rename_i f' hf
    cases h
    exact rf_op_ok hf
  · exact rf_opB_ok h
