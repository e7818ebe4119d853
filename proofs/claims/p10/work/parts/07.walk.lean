/-! the run: instruction by instruction, by the table; what is not frequent goes the machine's own way -/
abbrev RfR := List Cell → Vm → World → Drawn → Nat → Nat → Nat → Nat → List Slot → List Value → List Frame → Bool
/-- on with a state whose top is a bytecode frame -/
noncomputable def rf_in (s : State) (k : RfR) (other : Unit → Bool) : Bool := match s with
  | ⟨⟨h⟩, ve, ⟨[⟨fr, .runnable, none, false, false, .other, none, .null, 0⟩]⟩, 0, w, dr, 0, u, .running⟩ => match fr with
    | .java ⟨⟨c, i⟩, pc, ⟨lo⟩, st, none, [], 0⟩ :: r => match rf_last r with
      | true => k h ve w dr u c i pc lo st r
      | false => false
    | _ => other ()
  | _ => false
noncomputable def rf_slow (dp : Nat) (s : State) (k : RfR) : Bool :=
  rf_st dp s fun s1 => rf_in s1 k fun _ => match rf_end s1 with
    | true => true
    | false => match rf_go s1 with
      | true => rf_st 2 (stepThread start1.p0.tables start1.e0 s1).1 fun s2 => rf_in s2 k fun _ => false
      | false => false
noncomputable def rf_R (z : Bool) (n : Nat) : RfR :=
  Nat.rec (motive := fun _ => RfR) (fun _ _ _ _ _ _ _ _ _ _ _ => z) (fun _ ih h ve w dr u c i pc lo st r => match rf_dc c i pc with
    | some (ins, len) => match rf_opA ins with
      | some f => f h ve u c pc len lo st (fun h' u' pc' lo' st' => ih h' ve w dr u' c i pc' lo' st' r) fun _ =>
          rf_slow (rf_dp ins) (afterInstr start1.e0 len ((start1.p0.tables.exec ins).run start1.e0 (rf_mk h ve w dr u c i pc lo st r))).1 ih
      | none => match rf_opC ins with
        | some g => g h ve u c i pc len lo st r (fun h' u' c' i' pc' lo' st' r' => ih h' ve w dr u' c' i' pc' lo' st' r') fun _ => rf_slow (rf_dp ins) (afterInstr start1.e0 len ((start1.p0.tables.exec ins).run start1.e0 (rf_mk h ve w dr u c i pc lo st r))).1 ih
        | none => rf_slow (rf_dp ins) (afterInstr start1.e0 len ((start1.p0.tables.exec ins).run start1.e0 (rf_mk h ve w dr u c i pc lo st r))).1 ih
    | none => rf_slow 1 (stepThread start1.p0.tables start1.e0 (rf_mk h ve w dr u c i pc lo st r)).1 ih) n
noncomputable def rf_start (z : Bool) (n : Nat) (s : State) : Bool := match rf_go s with
  | true => rf_st 0 (stepThread start1.p0.tables start1.e0 s).1 fun s1 => rf_in s1 (rf_R z n) fun _ => false
  | false => false
/-- from s on the call ends, with the answer 0 -/
def rf_G (s : State) : Prop := ∃ k, (∀ j, j < k → Within (stepsAlone start1.p0.tables start1.e0 j s) Lib.HandBits.below0) ∧ (stepsAlone start1.p0.tables start1.e0 k s).status = .running ∧
  Ended (stepsAlone start1.p0.tables start1.e0 k s) Lib.HandBits.below0 (.returned (some (.int 0)))
theorem rf_G_step {s : State} (hg : rf_go s = true) (h : rf_G (stepThread start1.p0.tables start1.e0 s).1) : rf_G s := by
  obtain ⟨hw, h1, h2, h3⟩ := rf_go_of hg
  obtain ⟨k, hk, hs, he⟩ := h
  have hq : ∀ j, stepsAlone start1.p0.tables start1.e0 (j + 1) s = stepsAlone start1.p0.tables start1.e0 j (stepThread start1.p0.tables start1.e0 s).1 := by
    intro j
    rw [stepsAlone, h1, h2, h3]
  refine ⟨k + 1, ?_, by rw [hq]; exact hs, by rw [hq]; exact he⟩
  intro j hj
  cases j with
  | zero => exact hw
  | succ i => rw [hq]; exact hk i (by omega)
theorem rf_G_end {s : State} (h : rf_end s = true) : rf_G s := by
  obtain ⟨hs, he⟩ := rf_end_of h
  exact ⟨0, fun j hj => absurd hj (by omega), hs, he⟩
def rf_Gk (k : RfR) : Prop := ∀ (h : List Cell) (ve : Vm) (w : World) (dr : Drawn) (u c i pc : Nat) (lo : List Slot) (st : List Value) (r : List Frame),
  rf_last r = true → rf_Inv (rf_mk h ve w dr u c i pc lo st r) → k h ve w dr u c i pc lo st r = true → rf_G (rf_mk h ve w dr u c i pc lo st r)
theorem rf_in_of {s : State} {k : RfR} {other : Unit → Bool} (hk : rf_Gk k) (hI : rf_Inv s) (h : rf_in s k other = true) : rf_G s ∨ other () = true := by
  unfold rf_in at h
  split at h
  · split at h
    · split at h
      · rename_i hl
        exact .inl (hk _ _ _ _ _ _ _ _ _ _ _ hl hI h)
      · cases h
    · exact .inr h
  · cases h
theorem rf_slow_of {dp : Nat} {s : State} {k : RfR} (hk : rf_Gk k) (hI : rf_Inv s) (h : rf_slow dp s k = true) : rf_G s := by
  unfold rf_slow at h
  have h1 := rf_st_of h
  rcases rf_in_of hk hI h1 with h2 | h2
  · exact h2
  · split at h2
    · rename_i he
      exact rf_G_end he
    · split at h2
      · rename_i hg
        have h3 := rf_st_of h2
        rcases rf_in_of hk (rf_Inv_step hI) h3 with h4 | h4
        · exact rf_G_step hg h4
        · cases h4
      · cases h2
theorem rf_mk_go {h : List Cell} {ve : Vm} {w : World} {dr : Drawn} {u c i pc : Nat} {lo : List Slot} {st : List Value} {r : List Frame} (hl : rf_last r = true) : rf_go (rf_mk h ve w dr u c i pc lo st r) = true := hl
theorem rf_tab {h : List Cell} {ve : Vm} {w : World} {dr : Drawn} {u c i pc : Nat} {lo : List Slot} {st : List Value} {r : List Frame} {ins : Instr} {len : Nat} (hI : rf_Inv (rf_mk h ve w dr u c i pc lo st r))
    (hd : rf_dc c i pc = some (ins, len)) : (afterInstr start1.e0 len ((start1.p0.tables.exec ins).run start1.e0 (rf_mk h ve w dr u c i pc lo st r))).1 = (stepThread start1.p0.tables start1.e0 (rf_mk h ve w dr u c i pc lo st r)).1 := by
  rw [← rf_step_eq hI]
  have hf : (rf_mk h ve w dr u c i pc lo st r).frames = .java ⟨⟨c, i⟩, pc, ⟨lo⟩, st, none, [], 0⟩ :: r := rfl
  unfold rf_step
  rw [hf]
  show _ = match rf_dc c i pc with
    | some (i', len') => (afterInstr start1.e0 len' ((start1.p0.tables.exec i').run start1.e0 (rf_mk h ve w dr u c i pc lo st r))).1
    | none => (stepThread start1.p0.tables start1.e0 (rf_mk h ve w dr u c i pc lo st r)).1
  rw [hd]
theorem rf_R_of : ∀ n, rf_Gk (rf_R false n) := by
  intro n
  induction n with
  | zero => intro h ve w dr u c i pc lo st r _ _ hk; cases hk
  | succ n ih =>
    intro h ve w dr u c i pc lo st r hl hI hk
    refine rf_G_step (rf_mk_go hl) ?_
    have hk' : (match rf_dc c i pc with
      | some (ins, len) => match rf_opA ins with
        | some f => f h ve u c pc len lo st (fun h' u' pc' lo' st' => rf_R false n h' ve w dr u' c i pc' lo' st' r) fun _ =>
            rf_slow (rf_dp ins) (afterInstr start1.e0 len ((start1.p0.tables.exec ins).run start1.e0 (rf_mk h ve w dr u c i pc lo st r))).1 (rf_R false n)
        | none => match rf_opC ins with
          | some g => g h ve u c i pc len lo st r (fun h' u' c' i' pc' lo' st' r' => rf_R false n h' ve w dr u' c' i' pc' lo' st' r') fun _ => rf_slow (rf_dp ins) (afterInstr start1.e0 len ((start1.p0.tables.exec ins).run start1.e0 (rf_mk h ve w dr u c i pc lo st r))).1 (rf_R false n)
          | none => rf_slow (rf_dp ins) (afterInstr start1.e0 len ((start1.p0.tables.exec ins).run start1.e0 (rf_mk h ve w dr u c i pc lo st r))).1 (rf_R false n)
      | none => rf_slow 1 (stepThread start1.p0.tables start1.e0 (rf_mk h ve w dr u c i pc lo st r)).1 (rf_R false n)) = true := hk
    have hI' := rf_Inv_step hI
    split at hk'
    · rename_i ins len hd
      have ht := rf_tab hI hd
      split at hk'
      · rename_i f hf
        rcases rf_opA_ok hf h ve w dr u c i pc len lo st r _ _ hk' with h1 | ⟨h', u', pc', lo', st', h1, h2⟩
        · rw [ht] at h1
          exact rf_slow_of ih hI' h1
        · rw [ht] at h2
          rw [h2]
          rw [h2] at hI'
          exact ih _ _ _ _ _ _ _ _ _ _ _ hl hI' h1
      · split at hk'
        · rename_i g hg
          rcases rf_opC_ok hg h ve w dr u c i pc len lo st r _ _ hl hI hk' with h1 | ⟨h', u', c', i', pc', lo', st', r', h1, h2, h3⟩
          · rw [ht] at h1
            exact rf_slow_of ih hI' h1
          · rw [ht] at h3
            rw [h3]
            rw [h3] at hI'
            exact ih _ _ _ _ _ _ _ _ _ _ _ h2 hI' h1
        · rw [ht] at hk'
          exact rf_slow_of ih hI' hk'
    · exact rf_slow_of ih hI' hk'
theorem rf_start_of {n : Nat} {s : State} (hI : rf_Inv s) (h : rf_start false n s = true) : rf_G s := by
  unfold rf_start at h
  split at h
  · rename_i hg
    rcases rf_in_of (rf_R_of n) (rf_Inv_step hI) (rf_st_of h) with h1 | h1
    · exact rf_G_step hg h1
    · cases h1
  · cases h
