/-! the frequent instructions do what the machine does -/
theorem rf_at_eq {α : Type} : ∀ (n : Nat) (l : List α), rf_at n l = l[n]? := by
  intro n
  induction n with
  | zero => intro l; cases l <;> rfl
  | succ n ih =>
    intro l
    cases l with
    | nil => rfl
    | cons x r => rw [List.getElem?_cons_succ]; exact ih r
theorem rf_set_eq {α : Type} : ∀ (n : Nat) (y : α) (l : List α) (k : List α → Bool), rf_set n y l k = k (l.set n y) := by
  intro n
  induction n with
  | zero => intro y l k; cases l <;> rfl
  | succ n ih =>
    intro y l k
    cases l with
    | nil => rfl
    | cons x r => exact ih y r fun r' => k (x :: r')
theorem rf_arr {α : Type} (l : List α) (n : Nat) : (Array.mk l)[n]? = l[n]? := List.getElem?_toArray
theorem rf_sib {α : Type} (l : List α) (n : Nat) (y : α) : (Array.mk l).setIfInBounds n y = Array.mk (l.set n y) := List.setIfInBounds_toArray ..
def rf_mk (h : List Cell) (ve : Vm) (w : World) (dr : Drawn) (u c i pc : Nat) (lo : List Slot) (st : List Value) (r : List Frame) : State :=
  ⟨⟨h⟩, ve, ⟨[⟨.java ⟨⟨c, i⟩, pc, ⟨lo⟩, st, none, [], 0⟩ :: r, .runnable, none, false, false, .other, none, .null, 0⟩]⟩, 0, w, dr, 0, u, .running⟩
abbrev rf_F (c i pc : Nat) (lo : List Slot) (st : List Value) : JFrame := ⟨⟨c, i⟩, pc, ⟨lo⟩, st, none, [], 0⟩
theorem rf_wok {t : Sem Unit} {e : Env} {s X : State} (h : wp t (fun _ _ _ s' => s' = X) (fun _ _ _ => False) e false [] s) : ∃ acts, t.run e s = .ok () X acts := by
  have h' := (Sem.wp_iff_go t (fun _ s' _ => s' = X) (fun _ _ _ => False) e false [] s).mp h
  unfold Sem.run
  split at h'
  · rename_i a s' as hg
    exact ⟨as, by rw [hg, h']⟩
  · cases h'
  · cases h'
theorem rf_wbr {t : Sem Unit} {e : Env} {s X : State} {o : Int} (h : wp t (fun _ _ _ _ => False) (fun q _ s' => q = .branch o ∧ s' = X) e false [] s) : ∃ acts, t.run e s = .ctl (.branch o) X acts := by
  have h' := (Sem.wp_iff_go t (fun _ _ _ => False) (fun q s' _ => q = .branch o ∧ s' = X) e false [] s).mp h
  unfold Sem.run
  split at h'
  · cases h'
  · cases h'
  · rename_i q s' as hn hg
    obtain ⟨rfl, rfl⟩ := h'
    exact ⟨as, hg⟩
theorem rf_fin {t : Sem Unit} {e : Env} {h h' : List Cell} {ve : Vm} {w : World} {dr : Drawn} {u u' c i pc len : Nat} {lo lo' : List Slot} {st st' : List Value} {r : List Frame}
    (hw : wp t (fun _ _ _ s' => s' = rf_mk h' ve w dr u' c i pc lo' st' r) (fun _ _ _ => False) e false [] (rf_mk h ve w dr u c i pc lo st r)) :
    (afterInstr e len (t.run e (rf_mk h ve w dr u c i pc lo st r))).1 = rf_mk h' ve w dr u' c i (pc + len) lo' st' r := by
  obtain ⟨acts, ha⟩ := rf_wok hw
  rw [ha]
  rfl
theorem rf_finb {t : Sem Unit} {e : Env} {h : List Cell} {ve : Vm} {w : World} {dr : Drawn} {u c i pc len q : Nat} {lo : List Slot} {st st' : List Value} {r : List Frame} {o : Int}
    (hw : wp t (fun _ _ _ _ => False) (fun q _ s' => q = .branch o ∧ s' = rf_mk h ve w dr u c i pc lo st' r) e false [] (rf_mk h ve w dr u c i pc lo st r)) (ho : (pc : Int) + o = .ofNat q) :
    (afterInstr e len (t.run e (rf_mk h ve w dr u c i pc lo st r))).1 = rf_mk h ve w dr u c i q lo st' r := by
  obtain ⟨acts, ha⟩ := rf_wbr hw
  rw [ha]
  have h1 : afterInstr e len (.ctl (.branch o) (rf_mk h ve w dr u c i pc lo st' r) acts) = if (pc : Int) + o < 0 then ((rf_mk h ve w dr u c i pc lo st' r).halt (.illTyped "a branch to a negative address"), acts) else (rf_mk h ve w dr u c i ((pc : Int) + o).toNat lo st' r, acts) := rfl
  rw [h1, if_neg (by rw [ho]; exact Int.not_lt.mpr (Int.natCast_nonneg q)), ho]
  rfl
def rf_Sd (ins : Instr) (f : RfF) : Prop := ∀ (h : List Cell) (ve : Vm) (w : World) (dr : Drawn) (u c i pc len : Nat) (lo : List Slot) (st : List Value) (r : List Frame) (K : RfK) (sl : Unit → Bool),
  f h ve u c pc len lo st K sl = true → sl () = true ∨ ∃ h' u' pc' lo' st', K h' u' pc' lo' st' = true ∧
    (afterInstr start1.e0 len ((start1.p0.tables.exec ins).run start1.e0 (rf_mk h ve w dr u c i pc lo st r))).1 = rf_mk h' ve w dr u' c i pc' lo' st' r
theorem rf_iload_ok {ins : Instr} {n : Nat} (hx : ∀ {Q : Unit → Pre} {E : CtlPost} {e : Env} {d : Bool} {acts : List Action} {s : State}, wp (start1.p0.tables.exec ins) Q E e d acts s ↔
    ∃ f, s.topJava? = some f ∧ ∃ v, f.locals[n]? = some (.val (.int v)) ∧ Q () true acts (s.setTop { f with stack := .int v :: f.stack })) : rf_Sd ins (rf_iload n) := by
  intro h ve w dr u c i pc len lo st r K sl hk
  unfold rf_iload at hk
  split at hk
  · rename_i v hv
    rw [rf_n_eq] at hk
    rw [rf_at_eq, ← rf_arr] at hv
    exact .inr ⟨_, _, _, _, _, hk, rf_fin (hx.mpr ⟨rf_F c i pc lo st, rfl, v, hv, rfl⟩)⟩
  · exact .inl hk
theorem rf_aload_ok {ins : Instr} {n : Nat} (hx : ∀ {Q : Unit → Pre} {E : CtlPost} {e : Env} {d : Bool} {acts : List Action} {s : State}, wp (start1.p0.tables.exec ins) Q E e d acts s ↔
    ∃ f, s.topJava? = some f ∧ ∃ x, f.locals[n]? = some (.val x) ∧ x.isRef = true ∧ Q () true acts (s.setTop { f with stack := x :: f.stack })) : rf_Sd ins (rf_aload n) := by
  intro h ve w dr u c i pc len lo st r K sl hk
  unfold rf_aload at hk
  split at hk
  · rename_i v hv
    rw [rf_n_eq] at hk
    rw [rf_at_eq, ← rf_arr] at hv
    exact .inr ⟨_, _, _, _, _, hk, rf_fin (hx.mpr ⟨rf_F c i pc lo st, rfl, _, hv, rfl, rfl⟩)⟩
  · rename_i hv
    rw [rf_n_eq] at hk
    rw [rf_at_eq, ← rf_arr] at hv
    exact .inr ⟨_, _, _, _, _, hk, rf_fin (hx.mpr ⟨rf_F c i pc lo st, rfl, _, hv, rfl, rfl⟩)⟩
  · exact .inl hk
theorem rf_stl {lo : List Slot} {n : Nat} {x : Int32} {y : Slot} (h : lo[n]? = some y) (hy : y = .unset ∨ ∃ v, y = .val (.int v)) : storeLocals ⟨lo⟩ n (.int x) = some ⟨lo.set n (.val (.int x))⟩ := by
  have hlt : n < lo.length := (List.getElem?_eq_some_iff.mp h).1
  have hs : storeSelf ⟨lo⟩ n (.int x) = some ⟨lo.set n (.val (.int x))⟩ := by
    unfold storeSelf setAt
    have hz : n < (Array.mk lo).size := hlt
    rw [if_pos hz, rf_sib]
    rfl
  unfold storeLocals
  rw [rf_arr, h]
  rcases hy with rfl | ⟨v, rfl⟩
  · exact hs
  · have hc : ¬ (Value.int v).category = 2 := by intro q; cases q
    simp only [Option.bind_eq_bind, Option.bind_some, hc, if_false]
    exact hs
theorem rf_istore_ok {ins : Instr} {n : Nat} (hx : ∀ {Q : Unit → Pre} {E : CtlPost} {e : Env} {d : Bool} {acts : List Action} {s : State}, wp (start1.p0.tables.exec ins) Q E e d acts s ↔
    ∃ f, s.topJava? = some f ∧ ∃ x rest, f.stack = .int x :: rest ∧ ∃ l', storeLocals f.locals n (.int x) = some l' ∧ Q () true acts (s.setTop { f with stack := rest, locals := l' })) : rf_Sd ins (rf_istore n) := by
  intro h ve w dr u c i pc len lo st r K sl hk
  unfold rf_istore at hk
  split at hk
  · rename_i x t
    split at hk
    · rename_i v hv
      rw [rf_set_eq, rf_n_eq] at hk
      rw [rf_at_eq] at hv
      exact .inr ⟨_, _, _, _, _, hk, rf_fin (hx.mpr ⟨rf_F c i pc lo (.int x :: t), rfl, x, t, rfl, _, rf_stl hv (.inr ⟨_, rfl⟩), rfl⟩)⟩
    · rename_i hv
      rw [rf_set_eq, rf_n_eq] at hk
      rw [rf_at_eq] at hv
      exact .inr ⟨_, _, _, _, _, hk, rf_fin (hx.mpr ⟨rf_F c i pc lo (.int x :: t), rfl, x, t, rfl, _, rf_stl hv (.inl rfl), rfl⟩)⟩
    · exact .inl hk
  · exact .inl hk
theorem rf_iinc_ok (n : Nat) (d : Int) : rf_Sd (.iinc n d) (rf_iinc n d) := by
  intro h ve w dr u c i pc len lo st r K sl hk
  unfold rf_iinc at hk
  split at hk
  · rename_i x hv
    rw [rf_i_eq, rf_set_eq, rf_n_eq] at hk
    rw [rf_at_eq] at hv
    exact .inr ⟨_, _, _, _, _, hk, rf_fin ((Op.iinc.wp_sem n d).mpr ⟨rf_F c i pc lo st, rfl, x, (rf_arr lo n).trans hv, _, rf_stl hv (.inr ⟨_, rfl⟩), rfl⟩)⟩
  · exact .inl hk
theorem rf_const_ok {ins : Instr} {v : Int32} (hx : ∀ {Q : Unit → Pre} {E : CtlPost} {e : Env} {d : Bool} {acts : List Action} {s : State}, wp (start1.p0.tables.exec ins) Q E e d acts s ↔
    ∃ f, s.topJava? = some f ∧ Q () true acts (s.setTop { f with stack := .int v :: f.stack })) : rf_Sd ins (rf_const v) := by
  intro h ve w dr u c i pc len lo st r K sl hk
  unfold rf_const at hk
  rw [rf_i_eq, rf_n_eq] at hk
  exact .inr ⟨_, _, _, _, _, hk, rf_fin (hx.mpr ⟨rf_F c i pc lo st, rfl, rfl⟩)⟩
theorem rf_bin_ok {ins : Instr} {g : Int32 → Int32 → Int32} (hx : ∀ {Q : Unit → Pre} {E : CtlPost} {e : Env} {d : Bool} {acts : List Action} {s : State}, wp (start1.p0.tables.exec ins) Q E e d acts s ↔
    ∃ f, s.topJava? = some f ∧ ∃ y x rest, f.stack = .int y :: .int x :: rest ∧ Q () true acts (s.setTop { f with stack := .int (g x y) :: rest })) : rf_Sd ins (rf_bin g) := by
  intro h ve w dr u c i pc len lo st r K sl hk
  unfold rf_bin at hk
  split at hk
  · rename_i y x t
    rw [rf_i_eq, rf_n_eq] at hk
    exact .inr ⟨_, _, _, _, _, hk, rf_fin (hx.mpr ⟨rf_F c i pc lo (.int y :: .int x :: t), rfl, y, x, t, rfl, rfl⟩)⟩
  · exact .inl hk
theorem rf_dup_ok : rf_Sd .dup rf_dup := by
  intro h ve w dr u c i pc len lo st r K sl hk
  unfold rf_dup at hk
  split at hk
  · rename_i a t
    rw [rf_n_eq] at hk
    exact .inr ⟨_, _, _, _, _, hk, rf_fin (Op.dup.wp_sem.mpr ⟨rf_F c i pc lo (.ref a :: t), rfl, _, t, rfl, rfl, rfl⟩)⟩
  · rename_i a t
    rw [rf_n_eq] at hk
    exact .inr ⟨_, _, _, _, _, hk, rf_fin (Op.dup.wp_sem.mpr ⟨rf_F c i pc lo (.int a :: t), rfl, _, t, rfl, rfl, rfl⟩)⟩
  · exact .inl hk
theorem rf_jump_of {pc : Nat} {o : Int} {k : Nat → Bool} {sl : Unit → Bool} (h : rf_jump pc o k sl = true) : sl () = true ∨ ∃ q, (pc : Int) + o = .ofNat q ∧ k q = true := by
  unfold rf_jump at h
  split at h
  · rename_i q hq
    rw [rf_n_eq] at h
    exact .inr ⟨q, hq, h⟩
  · exact .inl h
theorem rf_goto_ok (o : Int) : rf_Sd (.goto o) (rf_goto o) := by
  intro h ve w dr u c i pc len lo st r K sl hk
  unfold rf_goto at hk
  rcases rf_jump_of hk with hk | ⟨q, hq, hk⟩
  · exact .inl hk
  · exact .inr ⟨_, _, _, _, _, hk, rf_finb ((Op.goto.wp_sem o).mpr ⟨rfl, rfl⟩) hq⟩
theorem rf_if_ok (cn : ClassFile.Cond) (o : Int) : rf_Sd (.ifCond cn o) (rf_if cn o) := by
  intro h ve w dr u c i pc len lo st r K sl hk
  unfold rf_if at hk
  split at hk
  · rename_i x t
    split at hk
    · rename_i hc
      rcases rf_jump_of hk with hk | ⟨q, hq, hk⟩
      · exact .inl hk
      · refine .inr ⟨_, _, _, _, _, hk, rf_finb ((Op.ifCond.wp_sem cn o).mpr ⟨rf_F c i pc lo (.int x :: t), rfl, x, t, rfl, ?_⟩) hq⟩
        rw [if_pos hc]
        exact ⟨rfl, rfl⟩
    · rename_i hc
      rw [rf_n_eq] at hk
      refine .inr ⟨_, _, _, _, _, hk, rf_fin ((Op.ifCond.wp_sem cn o).mpr ⟨rf_F c i pc lo (.int x :: t), rfl, x, t, rfl, ?_⟩)⟩
      rw [if_neg (by rw [hc]; exact Bool.false_ne_true)]
      rfl
  · exact .inl hk
theorem rf_icmp_ok (cn : ClassFile.Cond) (o : Int) : rf_Sd (.if_icmp cn o) (rf_icmp cn o) := by
  intro h ve w dr u c i pc len lo st r K sl hk
  unfold rf_icmp at hk
  split at hk
  · rename_i y x t
    split at hk
    · rename_i hc
      rcases rf_jump_of hk with hk | ⟨q, hq, hk⟩
      · exact .inl hk
      · refine .inr ⟨_, _, _, _, _, hk, rf_finb ((Op.if_icmp.wp_sem cn o).mpr ⟨rf_F c i pc lo (.int y :: .int x :: t), rfl, y, x, t, rfl, ?_⟩) hq⟩
        rw [if_pos hc]
        exact ⟨rfl, rfl⟩
    · rename_i hc
      rw [rf_n_eq] at hk
      refine .inr ⟨_, _, _, _, _, hk, rf_fin ((Op.if_icmp.wp_sem cn o).mpr ⟨rf_F c i pc lo (.int y :: .int x :: t), rfl, y, x, t, rfl, ?_⟩)⟩
      rw [if_neg (by rw [hc]; exact Bool.false_ne_true)]
      rfl
  · exact .inl hk
theorem rf_fld_of {ve : Vm} {c ix j : Nat} {b : Bool} (h : rf_fld ve c ix = some (j, b)) : ∃ c' f, ve.fieldReady c ix c' f ∧ f.isStatic = false ∧ f.slot = j ∧ (b = true → hasFlag f.accessFlags Acc.final = false ∧ f.type = .int) := by
  unfold rf_fld at h
  split at h
  · rename_i k hk
    split at h
    · rename_i c' n hr
      split at h
      · rename_i kc hkc
        split at h
        · rename_i f hf
          split at h
          · cases h
          · rename_i hs
            simp only [Option.some.injEq, Prod.mk.injEq] at h
            obtain ⟨h1, h2⟩ := h
            refine ⟨c', f, ⟨k, n, kc, hk, hr, hkc, hf⟩, by simpa using hs, h1, fun hb => ?_⟩
            subst hb
            simpa using h2
        · cases h
      · cases h
    · cases h
  · cases h
theorem rf_getf_ok (ix : Nat) : rf_Sd (.getfield ix) (rf_getf ix) := by
  intro h ve w dr u c i pc len lo st r K sl hk
  unfold rf_getf at hk
  split at hk
  · rename_i a t
    split at hk
    · rename_i j b hf
      split at hk
      · rename_i cl sls mo ha hc
        split at hk
        · rename_i v hv
          rw [rf_v_eq, rf_n_eq] at hk
          obtain ⟨c', f, hr, hs, hj, -⟩ := rf_fld_of hf
          subst hj
          rw [rf_at_eq, ← rf_arr] at hc hv
          exact .inr ⟨_, _, _, _, _, hk, rf_fin ((Op.getfield.wp_ready (s := rf_mk h ve w dr u c i pc lo (.ref a :: t) r) (f := rf_F c i pc lo (.ref a :: t)) rfl hr hs rfl hc (by intro q; cases q) hv).mpr rfl)⟩
        · exact .inl hk
      · exact .inl hk
    · exact .inl hk
  · exact .inl hk
theorem rf_isI_of {s : State} {cl j : Nat} {x : Int32} (h : rf_isI s.vm cl j = true) : s.fitsSlot cl .none j (.int x) = true := by
  unfold rf_isI at h
  split at h
  · rename_i k hk
    split at h
    · cases h
    · rename_i hn
      split at h
      · rename_i hi
        have hq : s.slotType? cl .none j = some .int := by
          unfold State.slotType?
          rw [hk]
          show (match k.kind with
            | .array _ type => some type
            | _ => k.instanceTypes[j]?) = _
          split
          · rename_i a b hkd
            exact absurd hkd (hn a b)
          · exact hi
        unfold State.fitsSlot
        rw [hq]
        rfl
      · cases h
  · cases h
theorem rf_putf_ok (ix : Nat) : rf_Sd (.putfield ix) (rf_putf ix) := by
  intro h ve w dr u c i pc len lo st r K sl hk
  unfold rf_putf at hk
  split at hk
  · rename_i x a t
    split at hk
    · rename_i j hf
      split at hk
      · rename_i cl sls mo ha hc
        split at hk
        · rename_i hi
          split at hk
          · rename_i v hv
            rw [rf_set_eq, rf_set_eq, rf_n_eq] at hk
            obtain ⟨c', f, hr, hs, hj, hb⟩ := rf_fld_of hf
            obtain ⟨hfin, hty⟩ := hb rfl
            subst hj
            rw [rf_at_eq] at hv
            rw [rf_at_eq, ← rf_arr] at hc
            have hlt : f.slot < sls.length := (List.getElem?_eq_some_iff.mp hv).1
            refine .inr ⟨_, _, _, _, _, hk, rf_fin ((Op.putfield.wp_ready (s := rf_mk h ve w dr u c i pc lo (.int x :: .ref a :: t) r) (f := rf_F c i pc lo (.int x :: .ref a :: t)) rfl hr hs hfin rfl hc (by intro q; cases q)).mpr ⟨hlt, ?_, ?_⟩)⟩
            · rw [hty]
              exact rf_isI_of (s := rf_mk h ve w dr u c i pc lo (.int x :: .ref a :: t) r) hi
            · rw [hty]
              show State.setTop (State.setCell (rf_mk h ve w dr u c i pc lo (.int x :: .ref a :: t) r) a (Cell.setSlot ⟨cl, ⟨sls⟩, mo, ha, .none⟩ f.slot (.int x))) (rf_F c i pc lo t) = _
              unfold State.setCell Cell.setSlot
              show State.setTop { rf_mk h ve w dr u c i pc lo (.int x :: .ref a :: t) r with heap := (Array.mk h).setIfInBounds a ⟨cl, (Array.mk sls).setIfInBounds f.slot (.int x), mo, ha, .none⟩ } (rf_F c i pc lo t) = _
              rw [rf_sib, rf_sib]
              rfl
          · exact .inl hk
        · exact .inl hk
      · exact .inl hk
    · exact .inl hk
  · exact .inl hk
theorem rf_isA_of {s : State} {cl : Nat} (h : rf_isA s.vm cl = true) : ∃ k, s.vm.classes[cl]? = some k ∧ ∃ comp, k.kind = .array comp .int := by
  unfold rf_isA at h
  split at h
  · rename_i k hk
    split at h
    · rename_i comp hkd
      exact ⟨k, hk, comp, hkd⟩
    · cases h
  · cases h
theorem rf_ias_ok : rf_Sd .iastore rf_ias := by
  intro h ve w dr u c i pc len lo st r K sl hk
  unfold rf_ias at hk
  split at hk
  · rename_i x ix a t
    split at hk
    · rename_i cl sls mo ha hc
      split at hk
      · rename_i hi
        split at hk
        · rename_i hn _
          rw [rf_n_eq] at hk
          split at hk
          · rename_i v hv
            rw [rf_set_eq, rf_set_eq, rf_n_eq] at hk
            rw [rf_at_eq] at hv
            rw [rf_at_eq, ← rf_arr] at hc
            have hlt : ix.toNatClampNeg < sls.length := (List.getElem?_eq_some_iff.mp hv).1
            obtain ⟨k, hk1, comp, hkd⟩ := rf_isA_of (s := rf_mk h ve w dr u c i pc lo (.int x :: .int ix :: .ref a :: t) r) hi
            have hA : (rf_mk h ve w dr u c i pc lo (.int x :: .int ix :: .ref a :: t) r).isArrayOf ⟨cl, ⟨sls⟩, mo, ha, .none⟩ .int := ⟨fun q hq => (by cases hq), k, hk1, comp, hkd⟩
            refine .inr ⟨_, _, _, _, _, hk, rf_fin (Op.iastore.wp_sem.mpr ⟨rf_F c i pc lo (.int x :: .int ix :: .ref a :: t), rfl, x, ix, .ref a, t, rfl, ⟨cl, ⟨sls⟩, mo, ha, .none⟩, hc, hA.isArray, ?_⟩)⟩
            rw [if_neg (by
              rintro (h1 | h1)
              · exact hn h1
              · exact absurd hlt (Nat.not_lt.mpr h1))]
            refine ⟨hA, (by intro q; cases q), ?_, ?_⟩
            · unfold State.fitsSlot State.slotType?
              rw [hk1]
              show (match (match k.kind with
                | .array _ type => some type
                | _ => k.instanceTypes[ix.toNatClampNeg]?) with
                | some t => fits t (.int x)
                | none => false) = true
              rw [hkd]
              rfl
            · unfold State.setCell Cell.setSlot
              show State.setTop { rf_mk h ve w dr u c i pc lo (.int x :: .int ix :: .ref a :: t) r with heap := (Array.mk h).setIfInBounds a ⟨cl, (Array.mk sls).setIfInBounds ix.toNatClampNeg (.int x), mo, ha, .none⟩ } (rf_F c i pc lo t) = _
              rw [rf_sib, rf_sib]
              rfl
          · exact .inl hk
        · exact .inl hk
      · exact .inl hk
    · exact .inl hk
  · exact .inl hk
theorem rf_ial_ok : rf_Sd .iaload rf_ial := by
  intro h ve w dr u c i pc len lo st r K sl hk
  unfold rf_ial at hk
  split at hk
  · rename_i ix a t
    split at hk
    · rename_i cl sls mo ha hc
      split at hk
      · rename_i hi
        split at hk
        · rename_i hn _
          rw [rf_n_eq] at hk
          split at hk
          · rename_i v hv
            rw [rf_v_eq, rf_n_eq] at hk
            rw [rf_at_eq] at hv
            rw [rf_at_eq, ← rf_arr] at hc
            have hlt : ix.toNatClampNeg < sls.length := (List.getElem?_eq_some_iff.mp hv).1
            obtain ⟨k, hk1, comp, hkd⟩ := rf_isA_of (s := rf_mk h ve w dr u c i pc lo (.int ix :: .ref a :: t) r) hi
            have hA : (rf_mk h ve w dr u c i pc lo (.int ix :: .ref a :: t) r).isArrayOf ⟨cl, ⟨sls⟩, mo, ha, .none⟩ .int := ⟨fun q hq => (by cases hq), k, hk1, comp, hkd⟩
            refine .inr ⟨_, _, _, _, _, hk, rf_fin (Op.iaload.wp_sem.mpr ⟨rf_F c i pc lo (.int ix :: .ref a :: t), rfl, ix, .ref a, t, rfl, ⟨cl, ⟨sls⟩, mo, ha, .none⟩, hc, hA.isArray, ?_⟩)⟩
            rw [if_neg (by
              rintro (h1 | h1)
              · exact hn h1
              · exact absurd hlt (Nat.not_lt.mpr h1))]
            exact ⟨hA.1, ⟨k, hk1, comp, hkd⟩, (by intro q; cases q), v, (rf_arr sls _).trans hv, rfl⟩
          · exact .inl hk
        · exact .inl hk
      · exact .inl hk
    · exact .inl hk
  · exact .inl hk
theorem rf_op_ok {ins : Instr} {f : RfF} (h : rf_op ins = some f) : rf_Sd ins f := by
  unfold rf_op at h
  split at h
  · cases h; exact rf_iload_ok (Op.iload.wp_sem _)
  · cases h; exact rf_iload_ok (Op.iload_n.wp_sem _)
  · cases h; exact rf_aload_ok (Op.aload.wp_sem _)
  · cases h; exact rf_aload_ok (Op.aload_n.wp_sem _)
  · cases h; exact rf_istore_ok (Op.istore.wp_sem _)
  · cases h; exact rf_istore_ok (Op.istore_n.wp_sem _)
  · cases h; exact rf_iinc_ok _ _
  · cases h; exact rf_const_ok (Op.iconst.wp_sem _)
  · cases h; exact rf_const_ok (Op.bipush.wp_sem _)
  · cases h; exact rf_const_ok (Op.sipush.wp_sem _)
  · cases h; exact rf_bin_ok Op.iadd.wp_sem
  · cases h; exact rf_bin_ok Op.isub.wp_sem
  · cases h; exact rf_bin_ok Op.imul.wp_sem
  · cases h; exact rf_bin_ok Op.iand.wp_sem
  · cases h; exact rf_bin_ok Op.ior.wp_sem
  · cases h; exact rf_bin_ok Op.ishl.wp_sem
  · cases h; exact rf_bin_ok Op.ishr.wp_sem
  · cases h; exact rf_dup_ok
  · cases h; exact rf_goto_ok _
  · cases h; exact rf_if_ok _ _
  · cases h; exact rf_icmp_ok _ _
  · cases h; exact rf_getf_ok _
  · cases h; exact rf_putf_ok _
  · cases h; exact rf_ias_ok
  · cases h; exact rf_ial_ok
  · cases h
