/-! the answer of such a call, by its kind; what the throw asks where it stands -/
section NX3
variable {p : Program} {l : Launch} {e : Env} {R : Room} {s : State} {m : MethodId} {args : Array Value} {below : List Frame} {meth : Method} {c : Code} {T : State} {H : Heap} {locs : List Loc} {cells slots : Nat} {Q : State → Prop}
variable {mc ms : Nat} {free : Addr → Prop} {rest : List Value} {Qx : Heap → Prop} {A1 : Nat → Prop}
variable {pc : Nat} {ls : Array Slot} {st0 : List Value} {a : Array Value} {A0 : Nat → Prop} {Qr' : Array Value → State → Outcome → State → Prop} {Qx' : Heap → Prop} {A' : Nat → Prop} {mc' ms' : Nat} {free' : Addr → Prop}
theorem nx_callv {S : Type} {post : S → Prop} {B : S → State → Prop} (hr : nx_Run p l e R s m args below meth c H locs cells slots mc ms (F0 m pc ls st0) rest (va_Qv post B A1 a) Qx A1 free) (hnh : c.exceptionTable.isEmpty = true) (hlocks : meth.locks = false)
    (hS : va_S A0 s.heap H locs) (hA : ∀ q, q < H.size → A1 q → A0 q) (hf : ∀ q, free q → A0 q) (hA0 : ∀ q, A0 q → free' q) (hA2 : ∀ q, A0 q → A' q) (hmc : cells + mc ≤ mc') (hms : slots + ms ≤ ms')
    (hthr : ∀ (H1 : Heap), Qx H1 → H.size ≤ H1.size → (∀ q : Nat, q < H.size → ¬ A1 q → H1[q]? = H[q]?) → Qx' H1)
    (kk : ∀ (u : S) (t : State) (H1 : Heap) (locs1 : List Loc), t.heap = H1 → s.vm.Alike t.vm → post u → B u t → H.size ≤ H1.size → (∀ q : Nat, q < H.size → ¬ A1 q → H1[q]? = H[q]?) → va_S A0 s.heap H1 locs1 → W p l e R s m args below meth c H1 locs1 cells slots (nx_MQ below Qr' Qx' A' args s mc' ms' free') (F0 m (pc + 3) ls rest)) : W p l e R s m args below meth c H locs cells slots (nx_MQ below Qr' Qx' A' args s mc' ms' free') (F0 m pc ls st0) := by
  refine nx_call (Qv := fun v t => ∃ u : S, v = none ∧ post u ∧ B u t) hr (fun st v t h => ?_) hnh hlocks hS hA hf hA0 hA2 hmc hms hthr (fun v t H1 locs1 h1 h2 h3 h4 h5 h6 => ?_)
  · obtain ⟨⟨u, hv, h1, h2⟩, h3⟩ := h
    cases hv
    exact ⟨⟨u, rfl, h1, h2⟩, h3⟩
  · obtain ⟨u, rfl, g1, g2⟩ := h3
    exact kk u t H1 locs1 h1 h2 g1 g2 h4 h5 h6
theorem nx_calli {S : Type} {post : Int32 → S → Prop} {B : S → State → Prop} (hr : nx_Run p l e R s m args below meth c H locs cells slots mc ms (F0 m pc ls st0) rest (va_Qi post B A1 a) Qx A1 free) (hnh : c.exceptionTable.isEmpty = true) (hlocks : meth.locks = false)
    (hS : va_S A0 s.heap H locs) (hA : ∀ q, q < H.size → A1 q → A0 q) (hf : ∀ q, free q → A0 q) (hA0 : ∀ q, A0 q → free' q) (hA2 : ∀ q, A0 q → A' q) (hmc : cells + mc ≤ mc') (hms : slots + ms ≤ ms')
    (hthr : ∀ (H1 : Heap), Qx H1 → H.size ≤ H1.size → (∀ q : Nat, q < H.size → ¬ A1 q → H1[q]? = H[q]?) → Qx' H1)
    (kk : ∀ (r : Int32) (u : S) (t : State) (H1 : Heap) (locs1 : List Loc), t.heap = H1 → s.vm.Alike t.vm → post r u → B u t → H.size ≤ H1.size → (∀ q : Nat, q < H.size → ¬ A1 q → H1[q]? = H[q]?) → va_S A0 s.heap H1 locs1 → W p l e R s m args below meth c H1 locs1 cells slots (nx_MQ below Qr' Qx' A' args s mc' ms' free') (F0 m (pc + 3) ls (.int r :: rest))) : W p l e R s m args below meth c H locs cells slots (nx_MQ below Qr' Qx' A' args s mc' ms' free') (F0 m pc ls st0) := by
  refine nx_call (Qv := fun v t => ∃ (r : Int32) (u : S), v = some (.int r) ∧ post r u ∧ B u t) hr (fun st v t h => ?_) hnh hlocks hS hA hf hA0 hA2 hmc hms hthr (fun v t H1 locs1 h1 h2 h3 h4 h5 h6 => ?_)
  · obtain ⟨⟨r, u, hv, h1, h2⟩, h3⟩ := h
    cases hv
    exact ⟨⟨r, u, rfl, h1, h2⟩, h3⟩
  · obtain ⟨r, u, rfl, g1, g2⟩ := h3
    exact kk r u t H1 locs1 h1 h2 g1 g2 h4 h5 h6
theorem nx_callr {S : Type} {post : S → Prop} {B : S → Nat → State → Prop} (hr : nx_Run p l e R s m args below meth c H locs cells slots mc ms (F0 m pc ls st0) rest (va_Qr post B A1 a) Qx A1 free) (hnh : c.exceptionTable.isEmpty = true) (hlocks : meth.locks = false)
    (hS : va_S A0 s.heap H locs) (hA : ∀ q, q < H.size → A1 q → A0 q) (hf : ∀ q, free q → A0 q) (hA0 : ∀ q, A0 q → free' q) (hA2 : ∀ q, A0 q → A' q) (hmc : cells + mc ≤ mc') (hms : slots + ms ≤ ms')
    (hthr : ∀ (H1 : Heap), Qx H1 → H.size ≤ H1.size → (∀ q : Nat, q < H.size → ¬ A1 q → H1[q]? = H[q]?) → Qx' H1)
    (kk : ∀ (r : Nat) (u : S) (t : State) (H1 : Heap) (locs1 : List Loc), t.heap = H1 → s.vm.Alike t.vm → post u → B u r t → H.size ≤ H1.size → (∀ q : Nat, q < H.size → ¬ A1 q → H1[q]? = H[q]?) → va_S A0 s.heap H1 locs1 → W p l e R s m args below meth c H1 locs1 cells slots (nx_MQ below Qr' Qx' A' args s mc' ms' free') (F0 m (pc + 3) ls (.ref r :: rest))) : W p l e R s m args below meth c H locs cells slots (nx_MQ below Qr' Qx' A' args s mc' ms' free') (F0 m pc ls st0) := by
  refine nx_call (Qv := fun v t => ∃ (r : Nat) (u : S), v = some (.ref r) ∧ post u ∧ B u r t) hr (fun st v t h => ?_) hnh hlocks hS hA hf hA0 hA2 hmc hms hthr (fun v t H1 locs1 h1 h2 h3 h4 h5 h6 => ?_)
  · obtain ⟨⟨u, r, hv, h1, h2⟩, h3⟩ := h
    cases hv
    exact ⟨⟨r, u, rfl, h1, h2⟩, h3⟩
  · obtain ⟨r, u, rfl, g1, g2⟩ := h3
    exact kk r u t H1 locs1 h1 h2 g1 g2 h4 h5 h6
end NX3
theorem nz_own {args : Array Value} {s : State} {A : Nat → Prop} {tk : Nat → Nat} {H : Heap} {locs : List Loc} {at0 : List Cond} (h0 : ∀ a ∈ at0, a ∈ nn_gw ∨ a ∈ ns_ex) (hg : ∀ w ∈ nn_gw, w.before args s = true) (hE : nz_E tk A s s.heap) (hS : va_S A s.heap H locs) :
    ∀ U : State, U.heap = H → s.WarmedH U.vm → ∀ a ∈ at0, a.before args U = true := by
  intro U hU hW a ha
  rcases h0 a ha with h | h
  · exact word_at hW (good_of_word (List.mem_filter.mp h).2) (hg a h)
  · have hE' : ns_E (nz_pm tk) A U U.heap := by rw [hU]; exact (hE.1.kept hS.2.1).warm hW
    exact ns_exs hE' a h
theorem nz_ins {args : Array Value} {s : State} (hg : ∀ w ∈ nn_gw, w.before args s = true) : (Cond.instantiable nt_IAE 6).before args s = true := hg _ (by decide +kernel)
/-! the compiler's state: tokens, names, the code made, deep, the error -/
abbrev nC : Type := (Nat → Option Nat) × (Nat → Int32) × (Nat → Int32) × (Nat → Int32) × (Nat → Int32) × (Nat → Int32) × (Nat → Int32) × Nat × Nat × Nat × Nat × Nat × Nat × Int32 × Int32 × (Nat → Nat → Int32)
def nc_I (tk : Nat → Nat) (q : Nat → Option Nat) (ca : Nat → Int32) (tc ta nc lv cn : Nat) : Prop := tc ≤ 181 ∧ ta < tc ∧ (∀ j, j < tc → ∃ i, i < 31 ∧ q j = some (tk i)) ∧ nc ≤ 90 ∧ lv ≤ 4 ∧ (∀ j, 1 ≤ j → j ≤ lv → ∃ n, n ≤ 90 ∧ ca j = nI n) ∧ cn ≤ 180
