/-! calls and returns -/
abbrev RfK2 := List Cell → Nat → Nat → Nat → Nat → List Slot → List Value → List Frame → Bool
abbrev RfF2 := List Cell → Vm → Nat → Nat → Nat → Nat → Nat → List Slot → List Value → List Frame → RfK2 → (Unit → Bool) → Bool
def rf_Sd2 (ins : Instr) (f : RfF2) : Prop := ∀ (h : List Cell) (ve : Vm) (w : World) (dr : Drawn) (u c i pc len : Nat) (lo : List Slot) (st : List Value) (r : List Frame) (K : RfK2) (sl : Unit → Bool),
  rf_last r = true → rf_Inv (rf_mk h ve w dr u c i pc lo st r) → f h ve u c i pc len lo st r K sl = true → sl () = true ∨ ∃ h' u' c' i' pc' lo' st' r', K h' u' c' i' pc' lo' st' r' = true ∧ rf_last r' = true ∧
    (afterInstr start1.e0 len ((start1.p0.tables.exec ins).run start1.e0 (rf_mk h ve w dr u c i pc lo st r))).1 = rf_mk h' ve w dr u' c' i' pc' lo' st' r'
theorem rf_wct {t : Sem Unit} {e : Env} {s X : State} {C : Control} (h : wp t (fun _ _ _ _ => False) (fun q _ s' => q = C ∧ s' = X) e false [] s) : ∃ acts, t.run e s = .ctl C X acts := by
  have h' := (Sem.wp_iff_go t (fun _ _ _ => False) (fun q s' _ => q = C ∧ s' = X) e false [] s).mp h
  unfold Sem.run
  split at h'
  · cases h'
  · cases h'
  · rename_i q s' as hn hg
    obtain ⟨rfl, rfl⟩ := h'
    exact ⟨as, hg⟩
theorem rf_finr {t : Sem Unit} {h : List Cell} {ve : Vm} {w : World} {dr : Drawn} {u c i pc len c2 i2 pc2 len2 : Nat} {lo lo2 : List Slot} {st st' st2 : List Value} {r2 : List Frame} {v : Option Value} {meth : Method} {cg : Code} {ig : Instr}
    (hw : wp t (fun _ _ _ _ => False) (fun q _ s' => q = .ret v ∧ s' = rf_mk h ve w dr u c i pc lo st' (.java (rf_F c2 i2 pc2 lo2 st2) :: r2)) start1.e0 false [] (rf_mk h ve w dr u c i pc lo st (.java (rf_F c2 i2 pc2 lo2 st2) :: r2)))
    (hm : ve.method? ⟨c, i⟩ = some meth) (hl : meth.locks = false) (hcg : (rf_mk h ve w dr u c i pc lo st (.java (rf_F c2 i2 pc2 lo2 st2) :: r2)).code? ⟨c2, i2⟩ = some cg) (hd : decode cg.code pc2 = .ok (ig, len2)) :
    (afterInstr start1.e0 len (t.run start1.e0 (rf_mk h ve w dr u c i pc lo st (.java (rf_F c2 i2 pc2 lo2 st2) :: r2)))).1 = rf_mk h ve w dr u c2 i2 (pc2 + len2) lo2 (v.toList ++ st2) r2 := by
  obtain ⟨acts, ha⟩ := rf_wct hw
  rw [ha]
  exact doReturn_leave (e := start1.e0) (u := rf_mk h ve w dr u c i pc lo st' (.java (rf_F c2 i2 pc2 lo2 st2) :: r2)) (f := rf_F c i pc lo st') (f₀ := rf_F c i pc lo st') (g := rf_F c2 i2 pc2 lo2 st2) (r := r2) (meth := meth) (cg := cg) (ig := ig) (len := len2) (v := v) acts rfl hm hl rfl rfl hcg hd
theorem rf_last_tl {f : JFrame} {r : List Frame} (h : rf_last (.java f :: r) = true) : rf_last r = true := by
  cases r with
  | nil => cases h
  | cons b r => exact h
def rf_mi (ve : Vm) (c i : Nat) : Option (Option FieldType) := match ve.method? ⟨c, i⟩ with
  | some meth => match meth.locks with
    | false => some meth.sig.returnType
    | true => none
  | none => none
theorem rf_mi_of {ve : Vm} {c i : Nat} {t : Option FieldType} (h : rf_mi ve c i = some t) : ∃ meth, ve.method? ⟨c, i⟩ = some meth ∧ meth.locks = false ∧ meth.sig.returnType = t := by
  unfold rf_mi at h
  split at h
  · rename_i meth hm
    split at h
    · rename_i hl
      cases h
      exact ⟨meth, hm, hl, rfl⟩
    · cases h
  · cases h
noncomputable def rf_back (g : List Value → List Value) (h : List Cell) (u : Nat) (r : List Frame) (K : RfK2) (sl : Unit → Bool) : Bool := match r with
  | .java ⟨⟨c2, i2⟩, pc2, ⟨lo2⟩, st2, none, [], 0⟩ :: r2 => match rf_dc c2 i2 pc2 with
    | some (_, len2) => rf_n (pc2 + len2) fun q => K h u c2 i2 q lo2 (g st2) r2
    | none => sl ()
  | _ => sl ()
theorem rf_back_of {g : List Value → List Value} {h : List Cell} {u : Nat} {r : List Frame} {K : RfK2} {sl : Unit → Bool} (hk : rf_back g h u r K sl = true) : sl () = true ∨ ∃ c2 i2 pc2 lo2 st2 r2 ig len2,
    r = .java (rf_F c2 i2 pc2 lo2 st2) :: r2 ∧ rf_dc c2 i2 pc2 = some (ig, len2) ∧ K h u c2 i2 (pc2 + len2) lo2 (g st2) r2 = true := by
  unfold rf_back at hk
  split at hk
  · split at hk
    · rename_i ig len2 hd
      rw [rf_n_eq] at hk
      exact .inr ⟨_, _, _, _, _, _, ig, len2, rfl, hd, hk⟩
    · exact .inl hk
  · exact .inl hk
noncomputable def rf_ret0 : RfF2 := fun h ve u c i _ _ _ _ r K sl => match rf_mi ve c i with
  | some _ => rf_back (fun s => s) h u r K sl
  | none => sl ()
theorem rf_ret0_ok : rf_Sd2 .return_ rf_ret0 := by
  intro h ve w dr u c i pc len lo st r K sl hl hI hk
  unfold rf_ret0 at hk
  split at hk
  · rename_i t hm
    obtain ⟨meth, h1, h2, -⟩ := rf_mi_of hm
    rcases rf_back_of hk with hk | ⟨c2, i2, pc2, lo2, st2, r2, ig, len2, rfl, hd, hk⟩
    · exact .inl hk
    · obtain ⟨cg, hc, -, hdc⟩ := rf_dc_of hI hd
      exact .inr ⟨_, _, _, _, _, _, _, _, hk, rf_last_tl hl, rf_finr (v := none) (Op.return_.wp_sem.mpr ⟨rfl, rfl⟩) h1 h2 hc hdc⟩
  · exact .inl hk
noncomputable def rf_ret1 : RfF2 := fun h ve u c i _ _ _ st r K sl => match st with
  | .int x :: _ => match rf_mi ve c i with
    | some (some ty) => rf_v (narrow ty (.int x)) fun v => rf_back (fun s => v :: s) h u r K sl
    | _ => sl ()
  | _ => sl ()
theorem rf_ret1_ok : rf_Sd2 .ireturn rf_ret1 := by
  intro h ve w dr u c i pc len lo st r K sl hl hI hk
  unfold rf_ret1 at hk
  split at hk
  · rename_i x t
    split at hk
    · rename_i ty hm
      rw [rf_v_eq] at hk
      obtain ⟨meth, h1, h2, h3⟩ := rf_mi_of hm
      rcases rf_back_of hk with hk | ⟨c2, i2, pc2, lo2, st2, r2, ig, len2, rfl, hd, hk⟩
      · exact .inl hk
      · obtain ⟨cg, hc, -, hdc⟩ := rf_dc_of hI hd
        exact .inr ⟨_, _, _, _, _, _, _, _, hk, rf_last_tl hl, rf_finr (v := some (narrow ty (.int x))) (st' := t) (Op.ireturn.wp_sem.mpr ⟨rf_F c i pc lo (.int x :: t), rfl, x, t, rfl, meth, h1, ty, h3, rfl, rfl⟩) h1 h2 hc hdc⟩
    · exact .inl hk
  · exact .inl hk
noncomputable def rf_ret2 : RfF2 := fun h ve u c i _ _ _ st r K sl => match st with
  | .ref a :: _ => match rf_mi ve c i with
    | some (some ty) => match ty.isReference with
      | true => rf_back (fun s => .ref a :: s) h u r K sl
      | false => sl ()
    | _ => sl ()
  | _ => sl ()
theorem rf_ret2_ok : rf_Sd2 .areturn rf_ret2 := by
  intro h ve w dr u c i pc len lo st r K sl hl hI hk
  unfold rf_ret2 at hk
  split at hk
  · rename_i a t
    split at hk
    · rename_i ty hm
      split at hk
      · rename_i hty
        obtain ⟨meth, h1, h2, h3⟩ := rf_mi_of hm
        rcases rf_back_of hk with hk | ⟨c2, i2, pc2, lo2, st2, r2, ig, len2, rfl, hd, hk⟩
        · exact .inl hk
        · obtain ⟨cg, hc, -, hdc⟩ := rf_dc_of hI hd
          exact .inr ⟨_, _, _, _, _, _, _, _, hk, rf_last_tl hl, rf_finr (v := some (.ref a)) (st' := t) (Op.areturn.wp_sem.mpr ⟨rf_F c i pc lo (.ref a :: t), rfl, _, t, rfl, rfl, meth, h1, ⟨ty, h3, hty⟩, rfl, rfl⟩) h1 h2 hc hdc⟩
      · exact .inl hk
    · exact .inl hk
  · exact .inl hk
noncomputable def rf_al (l : List Value) : List Slot := List.rec (motive := fun _ => List Slot) [] (fun v _ ih => match decide (v.category = 2) with
  | true => .val v :: .second :: ih
  | false => .val v :: ih) l
theorem rf_al_cons (v : Value) (l : List Value) : rf_al (v :: l) = if v.category = 2 then .val v :: .second :: rf_al l else .val v :: rf_al l := by
  show (match decide (v.category = 2) with
    | true => Slot.val v :: Slot.second :: rf_al l
    | false => Slot.val v :: rf_al l) = _
  by_cases hv : v.category = 2
  · rw [decide_eq_true hv, if_pos hv]
  · rw [decide_eq_false hv, if_neg hv]
theorem rf_fold (l : List Value) : ∀ acc : Array Slot, (List.foldl (fun (acc : Array Slot) (v : Value) => if v.category = 2 then (acc.push (.val v)).push .second else acc.push (.val v)) acc l).toList = acc.toList ++ rf_al l := by
  induction l with
  | nil => intro acc; exact (List.append_nil _).symm
  | cons v l ih =>
    intro acc
    rw [List.foldl_cons, ih, rf_al_cons]
    by_cases hv : v.category = 2
    · rw [if_pos hv, if_pos hv]; simp
    · rw [if_neg hv, if_neg hv]; simp
theorem rf_atl (l : List Value) (n : Nat) : argsToLocals l.toArray n = ⟨rf_al l ++ List.replicate (n - (rf_al l).length) .unset⟩ := by
  have h := rf_fold l #[]
  apply Array.ext'
  unfold argsToLocals
  rw [List.foldl_toArray]
  generalize List.foldl _ _ l = A at h ⊢
  simp only [List.nil_append] at h
  simp [Array.size, h]
theorem rf_fini {t : Sem Unit} {h : List Cell} {ve : Vm} {w : World} {dr : Drawn} {u c i pc len mc mi : Nat} {lo : List Slot} {st st' args : List Value} {r : List Frame} {meth : Method} {cd : Code}
    (hw : wp t (fun _ _ _ _ => False) (fun q _ s' => q = .invoke ⟨mc, mi⟩ args.toArray ∧ s' = rf_mk h ve w dr u c i pc lo st' r) start1.e0 false [] (rf_mk h ve w dr u c i pc lo st r))
    (hm : ve.method? ⟨mc, mi⟩ = some meth) (hc : meth.code = some cd) (hl : meth.locks = false)
    (hroom : start1.e0.platform.stackFull ⟨.java (rf_F c i pc lo st') :: r, .runnable, none, false, false, .other, none, .null, 0⟩ (.java (rf_F c i pc lo st') :: r) cd.maxLocals = false) :
    (afterInstr start1.e0 len (t.run start1.e0 (rf_mk h ve w dr u c i pc lo st r))).1 = rf_mk h ve w dr u mc mi 0 (rf_al args ++ List.replicate (cd.maxLocals - (rf_al args).length) .unset) [] (.java (rf_F c i pc lo st') :: r) := by
  obtain ⟨acts, ha⟩ := rf_wct hw
  rw [ha]
  have h1 := (doInvoke_java (e := start1.e0) (s := rf_mk h ve w dr u c i pc lo st' r) (acts := acts) (m := ⟨mc, mi⟩) (args := args.toArray) hm hc hl hroom).1
  rw [rf_atl] at h1
  exact h1
noncomputable def rf_split (n : Nat) : List Value → List Value → (List Value → List Value → Bool) → (Unit → Bool) → Bool :=
  Nat.rec (motive := fun _ => List Value → List Value → (List Value → List Value → Bool) → (Unit → Bool) → Bool) (fun acc st k _ => k acc st) (fun _ ih acc st k sl => match st with
    | v :: t => ih (v :: acc) t k sl
    | [] => sl ()) n
theorem rf_split_of : ∀ (n : Nat) (acc st : List Value) (k : List Value → List Value → Bool) (sl : Unit → Bool), rf_split n acc st k sl = true →
    sl () = true ∨ ∃ args rest, st = args.reverse ++ rest ∧ args.length = n ∧ k (args ++ acc) rest = true := by
  intro n
  induction n with
  | zero => intro acc st k sl h; exact .inr ⟨[], st, rfl, rfl, h⟩
  | succ n ih =>
    intro acc st k sl h
    cases st with
    | nil => exact .inl h
    | cons v t =>
      rcases ih (v :: acc) t k sl h with h1 | ⟨args, rest, h1, h2, h3⟩
      · exact .inl h1
      · refine .inr ⟨args ++ [v], rest, by rw [h1]; simp, by simp [h2], ?_⟩
        rw [List.append_assoc]
        exact h3
noncomputable def rf_ent (h : List Cell) (u c i pc : Nat) (lo : List Slot) (rest : List Value) (r : List Frame) (mc mi ml : Nat) (args : List Value) (K : RfK2) (sl : Unit → Bool) : Bool :=
  match start1.e0.platform.stackFull ⟨.java ⟨⟨c, i⟩, pc, ⟨lo⟩, rest, none, [], 0⟩ :: r, .runnable, none, false, false, .other, none, .null, 0⟩ (.java ⟨⟨c, i⟩, pc, ⟨lo⟩, rest, none, [], 0⟩ :: r) ml with
  | false => rf_ss (rf_al args ++ List.replicate (ml - (rf_al args).length) .unset) fun lo' => K h u mc mi 0 lo' [] (.java ⟨⟨c, i⟩, pc, ⟨lo⟩, rest, none, [], 0⟩ :: r)
  | true => sl ()
theorem rf_last_cons {f : JFrame} {r : List Frame} (h : rf_last r = true) : rf_last (.java f :: r) = true := by
  cases r with
  | nil => cases h
  | cons b r => exact h
/-- the parts of a reference to a method as invokestatic's entry looks at them -/
def rf_plr (ve : Vm) (c ix : Nat) : Bool := match ((memberRef c ix).ask start1.e0.toSetting ve).1 with
  | .ok (ci, name, _, _) => match ve.classes[c]? with
    | some kc => match kc.resolved[ci]? with
      | some (some (.cls c')) => match ve.classes[c']? with
        | some k' => !(k'.methods.any fun x => x.name == name && !x.isStatic && signaturePolymorphic k' x)
        | none => false
      | _ => false
    | none => false
  | _ => false
theorem rf_plr_of {s : State} {c ix : Nat} (h : rf_plr s.vm c ix = true) : Op.plainRef s start1.e0 c ix := by
  unfold rf_plr at h
  split at h
  · rename_i ci name desc b hq
    split at h
    · rename_i kc hkc
      split at h
      · rename_i c' hr
        split at h
        · rename_i k' hk'
          exact ⟨ci, name, desc, b, c', k', hq, ⟨kc, hkc, hr⟩, hk', by simpa using h⟩
        · cases h
      · cases h
    · cases h
  · cases h
def rf_ss1 (ve : Vm) (c ix : Nat) : Option (Nat × Nat × Nat × Nat) := match ve.classes[c]? with
  | some kc => match kc.resolved[ix]? with
    | some (some (.method ⟨mc, mi⟩)) => match ve.classes[mc]? with
      | some k => match ve.method? ⟨mc, mi⟩ with
        | some meth => match meth.code with
          | some cd => match rf_plr ve c ix && (!signaturePolymorphic k meth && (meth.isStatic && (decide (k.init = .initialized) && !meth.locks))) with
            | true => some (mc, mi, meth.sig.parameters.length, cd.maxLocals)
            | false => none
          | none => none
        | none => none
      | none => none
    | _ => none
  | none => none
noncomputable def rf_ivs (ix : Nat) : RfF2 := fun h ve u c i pc _ lo st r K sl => match rf_ss1 ve c ix with
  | some (mc, mi, np, ml) => rf_split np [] st (fun args rest => rf_ent h u c i pc lo rest r mc mi ml args K sl) sl
  | none => sl ()
theorem rf_ivs_ok (ix : Nat) : rf_Sd2 (.invokestatic ix) (rf_ivs ix) := by
  intro h ve w dr u c i pc len lo st r K sl hl hI hk
  unfold rf_ivs at hk
  split at hk
  · rename_i mc mi np ml hs
    rcases rf_split_of _ _ _ _ _ hk with hz | ⟨args, rest, hst, hlen, hz⟩
    · exact .inl hz
    · rw [List.append_nil] at hz
      unfold rf_ent at hz
      split at hz
      · rename_i hroom
        rw [rf_ss_eq] at hz
        unfold rf_ss1 at hs
        split at hs
        · rename_i kc hkc
          split at hs
          · rename_i mc' mi' hr
            split at hs
            · rename_i k hk1
              split at hs
              · rename_i meth hm
                split at hs
                · rename_i cd hcd
                  split at hs
                  · rename_i hb
                    simp only [Option.some.injEq, Prod.mk.injEq] at hs
                    obtain ⟨rfl, rfl, rfl, rfl⟩ := hs
                    simp only [Bool.and_eq_true, Bool.not_eq_true', decide_eq_true_eq] at hb
                    obtain ⟨b1, b2, b3, b4, b5⟩ := hb
                    refine .inr ⟨_, _, _, _, _, _, _, _, hz, rf_last_cons hl, rf_fini (st' := rest) ?_ hm hcd b5 hroom⟩
                    exact (Op.invokestatic.wp_ready (s := rf_mk h ve w dr u c i pc lo st r) (f := rf_F c i pc lo st) (m := ⟨mc', mi'⟩) (args := args) (rest := rest) rfl
                      (rf_plr_of (s := rf_mk h ve w dr u c i pc lo st r) b1) ⟨kc, hkc, hr⟩ hk1 hm b2 b3 b4 hlen hst).mpr ⟨rfl, rfl⟩
                  · cases hs
                · cases hs
              · cases hs
            · cases hs
          · cases hs
        · cases hs
      · exact .inl hz
  · exact .inl hk
def rf_nam (ve : Vm) (c ix : Nat) : Bool := match ve.classes[c]? with
  | some kc => match kc.cf with
    | some cf => match cf.constantPool[ix]? with
      | some (.methodref ci _) => match kc.resolved[ci]? with
        | some (some (.cls c')) => match ve.classes[c']? with
          | some k' => !k'.isInterface
          | none => false
        | _ => false
      | _ => false
    | none => false
  | none => false
theorem rf_nam_of {s : State} {c ix : Nat} (h : rf_nam s.vm c ix = true) : Op.namesAClass s c ix := by
  unfold rf_nam at h
  split at h
  · rename_i kc hkc
    split at h
    · rename_i cf hcf
      split at h
      · rename_i ci n hp
        split at h
        · rename_i c' hr
          split at h
          · rename_i k' hk'
            exact ⟨kc, cf, ci, n, c', k', hkc, hcf, hp, ⟨kc, hkc, hr⟩, hk', by simpa using h⟩
          · cases h
        · cases h
      · cases h
    · cases h
  · cases h
def rf_vnp (ve : Vm) (c ix : Nat) : Option Nat := match ve.classes[c]? with
  | some kc => match kc.resolved[ix]? with
    | some (some (.method r0)) => match ve.method? r0 with
      | some rm => some rm.sig.parameters.length
      | none => none
    | _ => none
  | none => none
def rf_vs1 (ve : Vm) (c ix cl : Nat) : Option (Nat × Nat × Nat × Nat) := match ve.classes[c]? with
  | some kc => match kc.resolved[ix]? with
    | some (some (.method r0)) => match ve.classes[r0.cls]? with
      | some k => match ve.method? r0 with
        | some rm => match selectMethod start1.e0.platform ve cl r0 with
          | .method ⟨mc, mi⟩ => match ve.method? ⟨mc, mi⟩ with
            | some meth => match ve.classes[mc]? with
              | some kq => match meth.code with
                | some cd => match rf_nam ve c ix && (!signaturePolymorphic k rm && (!rm.isStatic && (!meth.isAbstract && (!kq.isInterface && !meth.locks)))) with
                  | true => some (mc, mi, rm.sig.parameters.length, cd.maxLocals)
                  | false => none
                | none => none
              | none => none
            | none => none
          | _ => none
        | none => none
      | none => none
    | _ => none
  | none => none
noncomputable def rf_ivv (ix : Nat) : RfF2 := fun h ve u c i pc _ lo st r K sl => match rf_vnp ve c ix with
  | some n => rf_split n [] st (fun args rest => match rest with
    | .ref a :: t => match rf_at a h with
      | some ⟨cl, _, _, _, .none⟩ => match rf_vs1 ve c ix cl with
        | some (mc, mi, np, ml) => match Nat.beq n np with
          | true => rf_ent h u c i pc lo t r mc mi ml (.ref a :: args) K sl
          | false => sl ()
        | none => sl ()
      | _ => sl ()
    | _ => sl ()) sl
  | none => sl ()
theorem rf_ivv_ok (ix : Nat) : rf_Sd2 (.invokevirtual ix) (rf_ivv ix) := by
  intro h ve w dr u c i pc len lo st r K sl hl hI hk
  unfold rf_ivv at hk
  split at hk
  · rename_i n hn
    rcases rf_split_of _ _ _ _ _ hk with hz | ⟨args, rest, hst, hlen, hz⟩
    · exact .inl hz
    · rw [List.append_nil] at hz
      split at hz
      · rename_i a t
        split at hz
        · rename_i cl sls mo ha hc
          split at hz
          · rename_i mc mi np ml hs
            split at hz
            · rename_i hnp
              have hnp' := Nat.eq_of_beq_eq_true hnp
              subst hnp'
              unfold rf_ent at hz
              split at hz
              · rename_i hroom
                rw [rf_ss_eq] at hz
                rw [rf_at_eq, ← rf_arr] at hc
                unfold rf_vs1 at hs
                split at hs
                · rename_i kc hkc
                  split at hs
                  · rename_i r0 hr
                    split at hs
                    · rename_i k hk1
                      split at hs
                      · rename_i rm hrm
                        split at hs
                        · rename_i mc' mi' hsel
                          split at hs
                          · rename_i meth hm
                            split at hs
                            · rename_i kq hmk
                              split at hs
                              · rename_i cd hcd
                                split at hs
                                · rename_i hb
                                  simp only [Option.some.injEq, Prod.mk.injEq] at hs
                                  obtain ⟨rfl, rfl, h3, rfl⟩ := hs
                                  simp only [Bool.and_eq_true, Bool.not_eq_true'] at hb
                                  obtain ⟨b1, b2, b3, b4, b5, b6⟩ := hb
                                  refine .inr ⟨_, _, _, _, _, _, _, _, hz, rf_last_cons hl, rf_fini (st' := t) ?_ hm hcd b6 hroom⟩
                                  exact (Op.invokevirtual.wp_ready (s := rf_mk h ve w dr u c i pc lo st r) (f := rf_F c i pc lo st) (r := r0) (m := ⟨mc', mi'⟩) (args := args) (rest := t) rfl
                                    (rf_nam_of (s := rf_mk h ve w dr u c i pc lo st r) b1) ⟨kc, hkc, hr⟩ hk1 hrm b2 b3 (hlen.trans h3.symm) hst hc (by intro q hq; cases hq) hsel hm b4 hmk b5).mpr ⟨rfl, rfl⟩
                                · cases hs
                              · cases hs
                            · cases hs
                          · cases hs
                        · cases hs
                      · cases hs
                    · cases hs
                  · cases hs
                · cases hs
              · exact .inl hz
            · exact .inl hz
          · exact .inl hz
        · exact .inl hz
      · exact .inl hz
  · exact .inl hk
def rf_is1 (ve : Vm) (c ix : Nat) : Option (Nat × Nat × Nat × Nat) := match ve.classes[c]? with
  | some kc => match kc.cf with
    | some cf => match cf.constantPool[ix]? with
      | some (.methodref ci _) => match kc.resolved[ci]? with
        | some (some (.cls c')) => match kc.resolved[ix]? with
          | some (some (.method ⟨mc, mi⟩)) => match ve.classes[mc]? with
            | some _ => match ve.method? ⟨mc, mi⟩ with
              | some meth => match meth.code with
                | some cd => match lookupSpecial ve mc "<init>" meth.desc with
                  | .method m' => match decide (m' = ⟨mc, mi⟩) && (decide (c' = mc) && (decide (meth.name = "<init>") && (!meth.isStatic && (!meth.isAbstract && !meth.locks)))) with
                    | true => some (mc, mi, meth.sig.parameters.length, cd.maxLocals)
                    | false => none
                  | _ => none
                | none => none
              | none => none
            | none => none
          | _ => none
        | _ => none
      | _ => none
    | none => none
  | none => none
noncomputable def rf_ivi (ix : Nat) : RfF2 := fun h ve u c i pc _ lo st r K sl => match rf_is1 ve c ix with
  | some (mc, mi, np, ml) => rf_split np [] st (fun args rest => match rest with
    | .ref a :: t => rf_ent h u c i pc lo t r mc mi ml (.ref a :: args) K sl
    | _ => sl ()) sl
  | none => sl ()
theorem rf_ivi_ok (ix : Nat) : rf_Sd2 (.invokespecial ix) (rf_ivi ix) := by
  intro h ve w dr u c i pc len lo st r K sl hl hI hk
  unfold rf_ivi at hk
  split at hk
  · rename_i mc mi np ml hs
    rcases rf_split_of _ _ _ _ _ hk with hz | ⟨args, rest, hst, hlen, hz⟩
    · exact .inl hz
    · rw [List.append_nil] at hz
      split at hz
      · rename_i a t
        unfold rf_ent at hz
        split at hz
        · rename_i hroom
          rw [rf_ss_eq] at hz
          unfold rf_is1 at hs
          split at hs
          · rename_i kc hkc
            split at hs
            · rename_i cf hcf
              split at hs
              · rename_i ci n hp
                split at hs
                · rename_i c' hrc
                  split at hs
                  · rename_i mc' mi' hr
                    split at hs
                    · rename_i k hk1
                      split at hs
                      · rename_i meth hm
                        split at hs
                        · rename_i cd hcd
                          split at hs
                          · rename_i m' hfound
                            split at hs
                            · rename_i hb
                              simp only [Option.some.injEq, Prod.mk.injEq] at hs
                              obtain ⟨rfl, rfl, rfl, rfl⟩ := hs
                              simp only [Bool.and_eq_true, Bool.not_eq_true', decide_eq_true_eq] at hb
                              obtain ⟨b1, b2, b3, b4, b5, b6⟩ := hb
                              subst b1
                              subst b2
                              refine .inr ⟨_, _, _, _, _, _, _, _, hz, rf_last_cons hl, rf_fini (st' := t) ?_ hm hcd b6 hroom⟩
                              exact (Op.invokespecial.wp_init (s := rf_mk h ve w dr u c i pc lo st r) (f := rf_F c i pc lo st) (args := args) (rest := t) rfl
                                ⟨kc, cf, ci, n, hkc, hcf, .inl hp, ⟨kc, hkc, hrc⟩⟩ ⟨kc, hkc, hr⟩ hk1 hm b3 b4 b5 hfound hlen hst).mpr ⟨rfl, rfl⟩
                            · cases hs
                          · cases hs
                        · cases hs
                      · cases hs
                    · cases hs
                  · cases hs
                · cases hs
              · cases hs
            · cases hs
          · cases hs
        · exact .inl hz
      · exact .inl hz
  · exact .inl hk
noncomputable def rf_opC (ins : Instr) : Option RfF2 := match ins with
  | .return_ => some rf_ret0
  | .ireturn => some rf_ret1
  | .areturn => some rf_ret2
  | .invokestatic ix => some (rf_ivs ix)
  | .invokevirtual ix => some (rf_ivv ix)
  | .invokespecial ix => some (rf_ivi ix)
  | _ => none
theorem rf_opC_ok {ins : Instr} {f : RfF2} (h : rf_opC ins = some f) : rf_Sd2 ins f := by
  unfold rf_opC at h
  split at h
  · cases h; exact rf_ret0_ok
  · cases h; exact rf_ret1_ok
  · cases h; exact rf_ret2_ok
  · cases h; exact rf_ivs_ok _
  · cases h; exact rf_ivv_ok _
  · cases h; exact rf_ivi_ok _
  · cases h
