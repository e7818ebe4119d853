/-! contracts (by wip/p1/gen.py) -/
/-- the byte of w with number j, from the lowest on -/
def nb_by (w : Int64) (j : Nat) : Int32 := (w.toUInt64 >>> ((nI (8 * j)).toInt64.toUInt64 &&& Int64.toUInt64 63)).toInt64.toInt32 &&& 255
def nb_okc (c : Int32) : Bool := decide (c = 0) || (!decide (c < 32) && decide (c ≤ 126))
/-- the j lowest bytes are all 0 or characters -/
def nb_ok (w : Int64) : Nat → Bool
  | 0 => true
  | j + 1 => nb_okc (nb_by w j) && nb_ok w j
def nb_wr (w : Int64) : Int32 := if nb_ok w 8 = true then 1 else 0
theorem nb_bad {w : Int64} {j : Nat} (hok : nb_ok w 8 = nb_ok w (j + 1)) (h0 : ¬ nb_by w j = 0) (h : nb_by w j < 32 ∨ ¬ nb_by w j ≤ 126) : 0 = nb_wr w := by
  have h1 : nb_okc (nb_by w j) = false := by
    unfold nb_okc
    rcases h with h | h <;> simp [h0, h]
  have h2 : nb_ok w (j + 1) = false := by simp [nb_ok, h1]
  rw [h2] at hok
  simp [nb_wr, hok]
theorem nb_good {w : Int64} {j : Nat} (hok : nb_ok w 8 = nb_ok w (j + 1)) (h : nb_by w j = 0 ∨ (¬ nb_by w j < 32 ∧ nb_by w j ≤ 126)) : nb_ok w 8 = nb_ok w j := by
  have h1 : nb_okc (nb_by w j) = true := by
    unfold nb_okc
    rcases h with h | h
    · rw [h]; decide
    · simp [h.1, h.2]
  rw [hok]
  simp [nb_ok, h1]
theorem nb_end {w : Int64} (hok : nb_ok w 8 = nb_ok w 0) : 1 = nb_wr w := by
  have h1 : nb_ok w 8 = true := hok
  simp [nb_wr, h1]
theorem nb_m8 (j : Nat) : nI (8 * (j + 1)) + (-8) = nI (8 * j) := by
  rw [show 8 * (j + 1) = 8 * j + 8 by omega, ← nI_add]
  rw [show nI 8 = 8 from rfl, Int32.add_assoc, show (8 : Int32) + (-8) = 0 by decide, Int32.add_zero]
theorem nb_mlt (m : Nat) (h : m ≤ 8) (n : Int32) (k : Nat) (hk : n = nI k) (h8 : 8 ≤ k) (hb : k < 2 ^ 31) : nI m ≤ n := by
  rw [hk]; exact nI_le (by omega) hb
theorem nb_pos {j : Nat} (h : j < 2 ^ 31) : ¬ nI j < 0 := nI_pos h

/-- how many of the j lowest bytes are not 0 -/
def nb_cnt (w : Int64) : Nat → Nat
  | 0 => 0
  | j + 1 => (if nb_by w j = 0 then 0 else 1) + nb_cnt w j
/-- write's answer when n characters are there, and how many there are then -/
def nb_wrn (w : Int64) (n : Nat) : Int32 := if nb_ok w 8 = true ∧ n + nb_cnt w 8 ≤ 180 then 1 else 0
def nb_tn (w : Int64) (n : Nat) : Nat := if nb_ok w 8 = true ∧ n + nb_cnt w 8 ≤ 180 then n + nb_cnt w 8 else n
theorem nb_c0 {w : Int64} {j : Nat} (h : nb_by w j = 0) : nb_cnt w (j + 1) = nb_cnt w j := by simp [nb_cnt, h]
theorem nb_c1 {w : Int64} {j : Nat} (h : ¬ nb_by w j = 0) : nb_cnt w (j + 1) = nb_cnt w j + 1 := by simp [nb_cnt, h]; omega
theorem nb_badF {w : Int64} {j : Nat} (hok : nb_ok w 8 = nb_ok w (j + 1)) (h0 : ¬ nb_by w j = 0) (h : nb_by w j < 32 ∨ ¬ nb_by w j ≤ 126) : nb_ok w 8 = false := by
  have h1 : nb_okc (nb_by w j) = false := by
    unfold nb_okc
    rcases h with h | h <;> simp [h0, h]
  rw [hok]
  simp [nb_ok, h1]
theorem nb_w0 {w : Int64} {n : Nat} (h : nb_ok w 8 = false ∨ 180 < n + nb_cnt w 8) : 0 = nb_wrn w n ∧ n = nb_tn w n := by
  rcases h with h | h
  · simp [nb_wrn, nb_tn, h]
  · have : ¬ (n + nb_cnt w 8 ≤ 180) := by omega
    simp [nb_wrn, nb_tn, this]
theorem nb_w1 {w : Int64} {n : Nat} (h1 : nb_ok w 8 = true) (h2 : n + nb_cnt w 8 ≤ 180) : 1 = nb_wrn w n ∧ n + nb_cnt w 8 = nb_tn w n := by simp [nb_wrn, nb_tn, h1, h2]
theorem nb_le8 (w : Int64) : nb_cnt w 8 ≤ 8 := by
  have key : ∀ j, nb_cnt w j ≤ j := by
    intro j
    induction j with
    | zero => exact Nat.le_refl _
    | succ j ih => unfold nb_cnt; split <;> omega
  exact key 8

theorem d_NP_byteOf_0 : decode b_NP_byteOf 0 = .ok (.lload_n 0, 1) := by decide +kernel
theorem d_NP_byteOf_1 : decode b_NP_byteOf 1 = .ok (.iload_n 2, 1) := by decide +kernel
theorem d_NP_byteOf_2 : decode b_NP_byteOf 2 = .ok (.lushr, 1) := by decide +kernel
theorem d_NP_byteOf_3 : decode b_NP_byteOf 3 = .ok (.l2i, 1) := by decide +kernel
theorem d_NP_byteOf_4 : decode b_NP_byteOf 4 = .ok (.sipush 255, 3) := by decide +kernel
theorem d_NP_byteOf_7 : decode b_NP_byteOf 7 = .ok (.iand, 1) := by decide +kernel
theorem d_NP_byteOf_8 : decode b_NP_byteOf 8 = .ok (.ireturn, 1) := by decide +kernel

set_option maxHeartbeats 4000000 in
set_option maxRecDepth 100000 in
theorem g_NP_byteOf (l : Launch) (G : nn_G) (sz : Nat) (w : Int64) (k : Int32) : Met l y_NP_byteOf w_NP_byteOf ({ frames := 0, cells := 0, slots := 0, locals := 0 }) (nn_P G [.long w, .int k] [] sz) (vp_Si (fun r => r = (w.toUInt64 >>> (k.toInt64.toUInt64 &&& Int64.toUInt64 63)).toInt64.toInt32 &&& 255)) 0 0 (fun _ => False) := by
  refine Met.ofW (cc := b_NP_byteOf) (maxL := 3) (ret := some .int) (by decide) rfl ?_
  intro p e s m args below meth c s₁ B hml hv
  obtain ⟨rfl, hsz, hP, hK, hD0, hN⟩ := hv
  have hx := B.exec
  have hb := B.bytes
  have hr := B.returns
  have hts := atoms_spec (ws := w_NP_byteOf) B.pre
  have hg : ∀ w ∈ nn_gw, w.before _ s = true := fun w h => hts w (List.mem_cons_of_mem _ h)
  have hown : s.vm.findClass R_NP = some m.cls := findClass_of_methodNamed B.named
  have hlocks := B.notSynchronized
  subst hsz
  have hD := hD0
  generalize hAe : (fun _ : Nat => True) = A at hD
  have hA : ∀ q : Nat, s.heap.size ≤ q → A q := fun q h => by rw [← hAe]; trivial
  have hS : va_S A s.heap s.heap [] := va_S.rf
  have hP : va_P G.1 nn_cls [] s.heap := hP
  have hl := lv_entry ([.long w, .int k]) (n := 3) (Nat.le_of_ble_eq_true rfl)
  rw [lg_entry_eq]
  generalize (lg_sl ([.long w, .int k]) ++ List.replicate (3 - (lg_sl ([.long w, .int k])).length) Slot.unset).toArray = ls at hl ⊢
  have hl : lv_has ls 3 [(0, .long w), (2, .int k)] := hl
  refine lv_lload_n hx hb d_NP_byteOf_0 rfl (lv_at hl 0 rfl) ?_
  refine lv_iload_n hx hb d_NP_byteOf_1 rfl (lv_at hl 1 rfl) ?_
  refine lv_lushr (v := (w.toUInt64 >>> (k.toInt64.toUInt64 &&& Int64.toUInt64 63)).toInt64) hx hb d_NP_byteOf_2 rfl ?_
  refine lv_l2i (v := ((w.toUInt64 >>> (k.toInt64.toUInt64 &&& Int64.toUInt64 63)).toInt64).toInt32) hx hb d_NP_byteOf_3 rfl ?_
  refine lv_sipush (v := 255) hx hb d_NP_byteOf_4 (by decide) ?_
  refine lv_iand hx hb d_NP_byteOf_7 ?_
  exact W.iret (v := (((w.toUInt64 >>> (k.toInt64.toUInt64 &&& Int64.toUInt64 63)).toInt64).toInt32) &&& 255) hx hb hr (fun t ht hW => ⟨(((w.toUInt64 >>> (k.toInt64.toUInt64 &&& Int64.toUInt64 63)).toInt64).toInt32) &&& 255, rfl, rfl, ht⟩) (fun q h => by cases h) d_NP_byteOf_8

theorem mw_87 : (.initialized R_NP : Cond) ∈ nn_gw := nn_at 87 (by decide +kernel) (by decide +kernel)
theorem mw_271 : (.fieldLink R_NP 9 R_NP "text" "[C" : Cond) ∈ nn_gw := nn_at 271 (by decide +kernel) (by decide +kernel)
theorem mw_272 : (.fieldLink R_NP 13 R_NP "textLength" "I" : Cond) ∈ nn_gw := nn_at 272 (by decide +kernel) (by decide +kernel)
theorem mw_291 : (.methodLink R_NP 38 y_NP_byteOf : Cond) ∈ nn_gw := nn_at 291 (by decide +kernel) (by decide +kernel)
theorem mw_292 : (.static y_NP_byteOf : Cond) ∈ nn_gw := nn_at 292 (by decide +kernel) (by decide +kernel)
theorem mw_293 : (.code y_NP_byteOf b_NP_byteOf 3 (some .int) : Cond) ∈ nn_gw := nn_at 293 (by decide +kernel) (by decide +kernel)
theorem d_NP_append_0 : decode b_NP_append 0 = .ok (.bipush 56, 2) := by decide +kernel
theorem d_NP_append_2 : decode b_NP_append 2 = .ok (.istore_n 3, 1) := by decide +kernel
theorem d_NP_append_3 : decode b_NP_append 3 = .ok (.iload_n 3, 1) := by decide +kernel
theorem d_NP_append_4 : decode b_NP_append 4 = .ok (.ifCond .lt 53, 3) := by decide +kernel
theorem d_NP_append_7 : decode b_NP_append 7 = .ok (.lload_n 1, 1) := by decide +kernel
theorem d_NP_append_8 : decode b_NP_append 8 = .ok (.iload_n 3, 1) := by decide +kernel
theorem d_NP_append_9 : decode b_NP_append 9 = .ok (.invokestatic 38, 3) := by decide +kernel
theorem d_NP_append_12 : decode b_NP_append 12 = .ok (.istore 4, 2) := by decide +kernel
theorem d_NP_append_14 : decode b_NP_append 14 = .ok (.iload 4, 2) := by decide +kernel
theorem d_NP_append_16 : decode b_NP_append 16 = .ok (.ifCond .eq 35, 3) := by decide +kernel
theorem d_NP_append_19 : decode b_NP_append 19 = .ok (.aload_n 0, 1) := by decide +kernel
theorem d_NP_append_20 : decode b_NP_append 20 = .ok (.getfield 13, 3) := by decide +kernel
theorem d_NP_append_23 : decode b_NP_append 23 = .ok (.sipush 180, 3) := by decide +kernel
theorem d_NP_append_26 : decode b_NP_append 26 = .ok (.if_icmp .ge 25, 3) := by decide +kernel
theorem d_NP_append_29 : decode b_NP_append 29 = .ok (.aload_n 0, 1) := by decide +kernel
theorem d_NP_append_30 : decode b_NP_append 30 = .ok (.getfield 9, 3) := by decide +kernel
theorem d_NP_append_33 : decode b_NP_append 33 = .ok (.aload_n 0, 1) := by decide +kernel
theorem d_NP_append_34 : decode b_NP_append 34 = .ok (.getfield 13, 3) := by decide +kernel
theorem d_NP_append_37 : decode b_NP_append 37 = .ok (.iload 4, 2) := by decide +kernel
theorem d_NP_append_39 : decode b_NP_append 39 = .ok (.i2c, 1) := by decide +kernel
theorem d_NP_append_40 : decode b_NP_append 40 = .ok (.castore, 1) := by decide +kernel
theorem d_NP_append_41 : decode b_NP_append 41 = .ok (.aload_n 0, 1) := by decide +kernel
theorem d_NP_append_42 : decode b_NP_append 42 = .ok (.dup, 1) := by decide +kernel
theorem d_NP_append_43 : decode b_NP_append 43 = .ok (.getfield 13, 3) := by decide +kernel
theorem d_NP_append_46 : decode b_NP_append 46 = .ok (.iconst 1, 1) := by decide +kernel
theorem d_NP_append_47 : decode b_NP_append 47 = .ok (.iadd, 1) := by decide +kernel
theorem d_NP_append_48 : decode b_NP_append 48 = .ok (.putfield 13, 3) := by decide +kernel
theorem d_NP_append_51 : decode b_NP_append 51 = .ok (.iinc 3 (-8), 3) := by decide +kernel
theorem d_NP_append_54 : decode b_NP_append 54 = .ok (.goto (-51), 3) := by decide +kernel
theorem d_NP_append_57 : decode b_NP_append 57 = .ok (.return_, 1) := by decide +kernel

set_option maxHeartbeats 4000000 in
set_option maxRecDepth 100000 in
theorem g_NP_append (l : Launch) (G : nn_G) (sz : Nat) (h9 tx cm h1 h0 : Nat) (tn : Nat) (tf : Nat → Int32) (w : Int64) (ht : tn + nb_cnt w 8 ≤ 180) : Met l y_NP_append w_NP_append ({ frames := 1, cells := 0, slots := 0, locals := 22 }) (nn_P G [.ref h9, .long w] [(h9, .inr (0, [.ref tx, .int (nI tn), .ref cm, .ref h1, .ref h0])), (tx, .inl (G.2 1, 180, .inl (tf)))] sz) (va_Qv (fun u : Nat → Int32 => True) (fun u t => va_P G.1 nn_cls [(h9, .inr (0, [.ref tx, .int (nI (tn + nb_cnt w 8)), .ref cm, .ref h1, .ref h0])), (tx, .inl (G.2 1, 180, .inl (u)))] t.heap ∧ va_D (va_A [(h9, .inr (0, [.ref tx, .int (nI tn), .ref cm, .ref h1, .ref h0])), (tx, .inl (G.2 1, 180, .inl (tf)))] sz) [(h9, .inr (0, [.ref tx, .int (nI (tn + nb_cnt w 8)), .ref cm, .ref h1, .ref h0])), (tx, .inl (G.2 1, 180, .inl (u)))]) (va_A [(h9, .inr (0, [.ref tx, .int (nI tn), .ref cm, .ref h1, .ref h0])), (tx, .inl (G.2 1, 180, .inl (tf)))] sz)) 0 0 (va_A [(h9, .inr (0, [.ref tx, .int (nI tn), .ref cm, .ref h1, .ref h0])), (tx, .inl (G.2 1, 180, .inl (tf)))] sz) := by
  refine Met.ofW (cc := b_NP_append) (maxL := 5) (ret := none) (by decide) rfl ?_
  intro p e s m args below meth c s₁ B hml hv
  obtain ⟨rfl, hsz, hP, hK, hD0, hN⟩ := hv
  have hx := B.exec
  have hb := B.bytes
  have hr := B.returns
  have hts := atoms_spec (ws := w_NP_append) B.pre
  have hg : ∀ w ∈ nn_gw, w.before _ s = true := fun w h => hts w (List.mem_cons_of_mem _ h)
  have hown : s.vm.findClass R_NP = some m.cls := findClass_of_methodNamed B.named
  have hlocks := B.notSynchronized
  subst hsz
  have hD := hD0.self (sz := s.heap.size)
  generalize hAe : va_A [(h9, .inr (0, [.ref tx, .int (nI tn), .ref cm, .ref h1, .ref h0])), (tx, .inl (G.2 1, 180, .inl (tf)))] s.heap.size = A at hD ⊢
  have hA : ∀ q : Nat, s.heap.size ≤ q → A q := fun q h => by rw [← hAe]; exact Or.inr h
  have hS : va_S A s.heap s.heap [] := va_S.rf
  have hP : va_P G.1 nn_cls [(h9, .inr (0, [.ref tx, .int (nI tn), .ref cm, .ref h1, .ref h0])), (tx, .inl (G.2 1, 180, .inl (tf)))] s.heap := hP
  have hl := lv_entry ([.ref h9, .long w]) (n := 5) (Nat.le_of_ble_eq_true rfl)
  rw [lg_entry_eq]
  generalize (lg_sl ([.ref h9, .long w]) ++ List.replicate (5 - (lg_sl ([.ref h9, .long w])).length) Slot.unset).toArray = ls at hl ⊢
  have hl : lv_has ls 5 [(0, .ref h9), (1, .long w)] := hl
  refine lv_bipush (v := 56) hx hb d_NP_append_0 (by decide) ?_
  refine lv_istore_n (lv' := [(3, .int 56), (0, .ref h9), (1, .long w)]) hx hb d_NP_append_2 rfl hl (by decide) rfl (fun ls hl => ?_)
  rw [show (56 : Int32) = nI (8 * 8) + (-8) by decide] at hl
  have hl := lv_sub (l' := [(3, .int 56), (0, .ref h9), (1, .long w)]) hl [0, 1, 2] rfl
  have hP := hP.sub (ws' := [(h9, .inr (0, [.ref tx, .int (nI tn), .ref cm, .ref h1, .ref h0])), (tx, .inl (G.2 1, 180, .inl (tf)))]) [0, 1] rfl
  have hD := hD.sub (ws' := [(h9, .inr (0, [.ref tx, .int (nI tn), .ref cm, .ref h1, .ref h0])), (tx, .inl (G.2 1, 180, .inl (tf)))]) [0, 1] (by decide) rfl
  suffices loop : ∀ (j : Nat) (k : Nat) (tg : Nat → Int32) (ls : Array Slot) (H : Heap) (locs : List Loc), k + nb_cnt w j = nb_cnt w 8 → j ≤ 8 → lv_has ls 5 [(3, .int (nI (8 * j) + (-8))), (0, .ref h9), (1, .long w)] → va_P G.1 nn_cls [(h9, .inr (0, [.ref tx, .int (nI (tn + k)), .ref cm, .ref h1, .ref h0])), (tx, .inl (G.2 1, 180, .inl (tg)))] H → va_D A [(h9, .inr (0, [.ref tx, .int (nI (tn + k)), .ref cm, .ref h1, .ref h0])), (tx, .inl (G.2 1, 180, .inl (tg)))] → va_S A s.heap H locs → W p l e (headSpec w_NP_append ({ frames := 1, cells := 0, slots := 0, locals := 22 })).room s m [.ref h9, .long w].toArray below meth c H locs 0 0 (MQ below (va_Qv (fun u : Nat → Int32 => True) (fun u t => va_P G.1 nn_cls [(h9, .inr (0, [.ref tx, .int (nI (tn + nb_cnt w 8)), .ref cm, .ref h1, .ref h0])), (tx, .inl (G.2 1, 180, .inl (u)))] t.heap ∧ va_D A [(h9, .inr (0, [.ref tx, .int (nI (tn + nb_cnt w 8)), .ref cm, .ref h1, .ref h0])), (tx, .inl (G.2 1, 180, .inl (u)))]) A) [.ref h9, .long w].toArray s 0 0 A) (F0 m 3 ls []) by
    exact loop 8 0 _ ls _ _ (by omega) (by decide) hl hP hD hS
  intro j
  induction j with
  | zero =>
    intro k tg ls H locs hk hj8 hl hP hD hS
    rw [show nI (8 * 0) + (-8) = (-8 : Int32) by decide] at hl
    refine lv_iload_n hx hb d_NP_append_3 rfl (lv_at hl 0 rfl) ?_
    refine lv_if_lt (tgt := 57) hx hb d_NP_append_4 rfl (fun _ => ?_) (fun h => absurd (by decide) h)
    refine W.widen (k := 0) (n := 0) (Nat.le_of_ble_eq_true rfl) (Nat.le_of_ble_eq_true rfl) ?_
    have hkz : k = nb_cnt w 8 := by have hk0 : k + 0 = nb_cnt w 8 := hk; omega
    rw [hkz] at hP hD
    have hP9 := hP.sub (ws' := [(h9, .inr (0, [.ref tx, .int (nI (tn + nb_cnt w 8)), .ref cm, .ref h1, .ref h0])), (tx, .inl (G.2 1, 180, .inl (tg)))]) [0, 1] rfl
    have hD9 := hD.sub (ws' := [(h9, .inr (0, [.ref tx, .int (nI (tn + nb_cnt w 8)), .ref cm, .ref h1, .ref h0])), (tx, .inl (G.2 1, 180, .inl (tg)))]) [0, 1] (by decide) rfl
    exact W.vret hx hb hr (fun t ht hW => ⟨⟨tg, rfl, trivial, ⟨by rw [ht]; exact hP9, hD9⟩⟩, hS.F ht⟩) hS.2.2 d_NP_append_57
  | succ j ih =>
    intro k tg ls H locs hk hj8 hl hP hD hS
    rw [nb_m8 j] at hl
    refine lv_iload_n hx hb d_NP_append_3 rfl (lv_at hl 0 rfl) ?_
    refine lv_if_lt (tgt := 57) hx hb d_NP_append_4 rfl (fun h => absurd h (nI_pos (by omega))) (fun _ => ?_)
    refine lv_lload_n hx hb d_NP_append_7 rfl (lv_at hl 2 rfl) ?_
    refine lv_iload_n hx hb d_NP_append_8 rfl (lv_at hl 0 rfl) ?_
    have hPc := hP.sub (ws' := []) [] rfl
    have hDc := hD.sub (ws' := []) [] (by decide) rfl
    refine vp_callSi (va_Run.run (va_runS (As := [.long w, .int (nI (8 * j))]) (rest := []) ⟨hx, hb, hml, hown, hts⟩ (g_NP_byteOf l G _ w (nI (8 * j))) (va_cwS 2 hts (nn_gS mw_293 mw_291 mw_292 mw_87) rfl rfl rfl (by decide +kernel) ⟨Nat.le_of_ble_eq_true rfl, Nat.le_of_ble_eq_true rfl⟩) (nn_preS hPc hDc hK hN) rfl rfl hl.1 rfl (lv_room (Nat.le_of_ble_eq_true rfl)) d_NP_append_9 ⟨(Nat.le_of_ble_eq_true rfl), (Nat.le_of_ble_eq_true rfl)⟩)) (fun r1 er1 => ?_)
    have er1 : r1 = nb_by w j := er1
    subst er1
    refine lv_istore (lv' := [(4, .int (nb_by w j)), (3, .int (nI (8 * j))), (0, .ref h9), (1, .long w)]) hx hb d_NP_append_12 hl (by decide) rfl (fun ls hl => ?_)
    refine lv_iload hx hb d_NP_append_14 (lv_at hl 0 rfl) ?_
    refine lv_if_eq (tgt := 51) hx hb d_NP_append_16 rfl (fun hc16 => ?_) (fun hc16 => ?_)
    · skip
      refine lv_iinc (k := 1) (v := nI (8 * j) + (-8)) (lv' := [(3, .int (nI (8 * j) + (-8))), (4, .int (nb_by w j)), (0, .ref h9), (1, .long w)]) hx hb d_NP_append_51 hl rfl (by rw [show Int32.ofInt (-8) = (-8 : Int32) by decide]) (by decide) rfl (fun ls hl => ?_)
      refine lv_goto (tgt := 3) hx hb d_NP_append_54 rfl ?_
      have hl := lv_sub (l' := [(3, .int (nI (8 * j) + (-8))), (0, .ref h9), (1, .long w)]) hl [0, 2, 3] rfl
      have hP := hP.sub (ws' := [(h9, .inr (0, [.ref tx, .int (nI (tn + k)), .ref cm, .ref h1, .ref h0])), (tx, .inl (G.2 1, 180, .inl (tg)))]) [0, 1] rfl
      have hD := hD.sub (ws' := [(h9, .inr (0, [.ref tx, .int (nI (tn + k)), .ref cm, .ref h1, .ref h0])), (tx, .inl (G.2 1, 180, .inl (tg)))]) [0, 1] (by decide) rfl
      exact ih k _ ls H locs (by have := nb_c0 hc16; omega) (by omega) hl hP hD hS
    · skip
      refine lv_aload_n hx hb d_NP_append_19 rfl (lv_at hl 2 rfl) ?_
      refine va_get (D := G.1) (ci := 0) (v := .int (nI (tn + k))) (C := R_NP) (T := T_NP) (N := 5) hx hb hg in_NP hown hK hP 0 rfl rfl 1 (by decide) (hg _ mw_272) (fun _ h9 => h9) rfl d_NP_append_20 ?_
      refine lv_sipush (v := 180) hx hb d_NP_append_23 (by decide) ?_
      refine lv_icmp_ge (tgt := 51) hx hb d_NP_append_26 rfl (fun h => absurd h (nI_ge (b := 180) (by have := nb_c1 hc16; omega) (by decide))) (fun _ => ?_)
      refine lv_aload_n hx hb d_NP_append_29 rfl (lv_at hl 2 rfl) ?_
      refine va_get (D := G.1) (ci := 0) (v := .ref tx) (C := R_NP) (T := T_NP) (N := 5) hx hb hg in_NP hown hK hP 0 rfl rfl 0 (by decide) (hg _ mw_271) (fun _ h9 => h9) rfl d_NP_append_30 ?_
      refine lv_aload_n hx hb d_NP_append_33 rfl (lv_at hl 2 rfl) ?_
      refine va_get (D := G.1) (ci := 0) (v := .int (nI (tn + k))) (C := R_NP) (T := T_NP) (N := 5) hx hb hg in_NP hown hK hP 0 rfl rfl 1 (by decide) (hg _ mw_272) (fun _ h9 => h9) rfl d_NP_append_34 ?_
      refine lv_iload hx hb d_NP_append_37 (lv_at hl 0 rfl) ?_
      refine lv_i2c (v := ((nb_by w j).toUInt32 % 65536).toInt32) hx hb d_NP_append_39 rfl ?_
      refine va_cast hx hb hK hP hD hS 1 1 rfl rfl (vp_in_nI (by have := nb_c1 hc16; omega) (by decide)) d_NP_append_40 (fun H locs hP hD hS => ?_)
      have hP : va_P G.1 nn_cls [(h9, .inr (0, [.ref tx, .int (nI (tn + k)), .ref cm, .ref h1, .ref h0])), (tx, .inl (G.2 1, 180, .inl (upd (tg) (nI (tn + k)).toNatClampNeg (vp_nar .char (((nb_by w j).toUInt32 % 65536).toInt32)))))] H := hP
      have hD : va_D A [(h9, .inr (0, [.ref tx, .int (nI (tn + k)), .ref cm, .ref h1, .ref h0])), (tx, .inl (G.2 1, 180, .inl (upd (tg) (nI (tn + k)).toNatClampNeg (vp_nar .char (((nb_by w j).toUInt32 % 65536).toInt32)))))] := hD
      refine lv_aload_n hx hb d_NP_append_41 rfl (lv_at hl 2 rfl) ?_
      refine lv_dup hx hb d_NP_append_42 rfl ?_
      refine va_get (D := G.1) (ci := 0) (v := .int (nI (tn + k))) (C := R_NP) (T := T_NP) (N := 5) hx hb hg in_NP hown hK hP 0 rfl rfl 1 (by decide) (hg _ mw_272) (fun _ h9 => h9) rfl d_NP_append_43 ?_
      refine lv_iconst (v := 1) hx hb d_NP_append_46 (by decide) ?_
      refine lv_iadd hx hb d_NP_append_47 ?_
      refine nb_top (nI (tn + k + 1)) (nI_1 (tn + k)) ?_
      refine va_put (D := G.1) (ci := 0) (v := .int (nI (tn + k + 1))) (ty := .int) (C := R_NP) (T := T_NP) (N := 5) hx hb hg in_NP t_NP ok_NP nm_NP hown hK hP hD hS 0 rfl rfl 1 (by decide) (hg _ mw_272) (fun _ h9 => h9) rfl (by decide +kernel) rfl rfl (Nat.le_of_ble_eq_true rfl) d_NP_append_48 (fun H locs hP hD hS => ?_)
      have hP : va_P G.1 nn_cls [(h9, .inr (0, [.ref tx, .int (nI (tn + k + 1)), .ref cm, .ref h1, .ref h0])), (tx, .inl (G.2 1, 180, .inl (upd (tg) (nI (tn + k)).toNatClampNeg (vp_nar .char (((nb_by w j).toUInt32 % 65536).toInt32)))))] H := hP
      have hD : va_D A [(h9, .inr (0, [.ref tx, .int (nI (tn + k + 1)), .ref cm, .ref h1, .ref h0])), (tx, .inl (G.2 1, 180, .inl (upd (tg) (nI (tn + k)).toNatClampNeg (vp_nar .char (((nb_by w j).toUInt32 % 65536).toInt32)))))] := hD
      refine lv_iinc (k := 1) (v := nI (8 * j) + (-8)) (lv' := [(3, .int (nI (8 * j) + (-8))), (4, .int (nb_by w j)), (0, .ref h9), (1, .long w)]) hx hb d_NP_append_51 hl rfl (by rw [show Int32.ofInt (-8) = (-8 : Int32) by decide]) (by decide) rfl (fun ls hl => ?_)
      refine lv_goto (tgt := 3) hx hb d_NP_append_54 rfl ?_
      have hl := lv_sub (l' := [(3, .int (nI (8 * j) + (-8))), (0, .ref h9), (1, .long w)]) hl [0, 2, 3] rfl
      have hP := hP.sub (ws' := [(h9, .inr (0, [.ref tx, .int (nI (tn + k + 1)), .ref cm, .ref h1, .ref h0])), (tx, .inl (G.2 1, 180, .inl (upd (tg) (nI (tn + k)).toNatClampNeg (vp_nar .char (((nb_by w j).toUInt32 % 65536).toInt32)))))]) [0, 1] rfl
      have hD := hD.sub (ws' := [(h9, .inr (0, [.ref tx, .int (nI (tn + k + 1)), .ref cm, .ref h1, .ref h0])), (tx, .inl (G.2 1, 180, .inl (upd (tg) (nI (tn + k)).toNatClampNeg (vp_nar .char (((nb_by w j).toUInt32 % 65536).toInt32)))))]) [0, 1] (by decide) rfl
      exact ih (k + 1) _ ls H locs (by have := nb_c1 hc16; omega) (by omega) hl hP hD hS

theorem nb_leI {a b : Nat} (h : nI a ≤ nI b) (ha : a < 2 ^ 31) (hb : b < 2 ^ 31) : a ≤ b := (nI_leI ha hb).mp h

theorem mw_0 : (.selects R_NP y_NP_append y_NP_append : Cond) ∈ nn_gw := nn_at 0 (by decide +kernel) (by decide +kernel)
theorem mw_294 : (.methodLink R_NP 42 y_NP_append : Cond) ∈ nn_gw := nn_at 294 (by decide +kernel) (by decide +kernel)
theorem mw_296 : (.instanceMethod y_NP_append : Cond) ∈ nn_gw := nn_at 296 (by decide +kernel) (by decide +kernel)
theorem mw_297 : (.code y_NP_append b_NP_append 5 none : Cond) ∈ nn_gw := nn_at 297 (by decide +kernel) (by decide +kernel)
theorem d_NP_write_0 : decode b_NP_write 0 = .ok (.iconst 0, 1) := by decide +kernel
theorem d_NP_write_1 : decode b_NP_write 1 = .ok (.istore_n 3, 1) := by decide +kernel
theorem d_NP_write_2 : decode b_NP_write 2 = .ok (.bipush 56, 2) := by decide +kernel
theorem d_NP_write_4 : decode b_NP_write 4 = .ok (.istore 4, 2) := by decide +kernel
theorem d_NP_write_6 : decode b_NP_write 6 = .ok (.iload 4, 2) := by decide +kernel
theorem d_NP_write_8 : decode b_NP_write 8 = .ok (.ifCond .lt 41, 3) := by decide +kernel
theorem d_NP_write_11 : decode b_NP_write 11 = .ok (.lload_n 1, 1) := by decide +kernel
theorem d_NP_write_12 : decode b_NP_write 12 = .ok (.iload 4, 2) := by decide +kernel
theorem d_NP_write_14 : decode b_NP_write 14 = .ok (.invokestatic 38, 3) := by decide +kernel
theorem d_NP_write_17 : decode b_NP_write 17 = .ok (.istore 5, 2) := by decide +kernel
theorem d_NP_write_19 : decode b_NP_write 19 = .ok (.iload 5, 2) := by decide +kernel
theorem d_NP_write_21 : decode b_NP_write 21 = .ok (.ifCond .eq 22, 3) := by decide +kernel
theorem d_NP_write_24 : decode b_NP_write 24 = .ok (.iload 5, 2) := by decide +kernel
theorem d_NP_write_26 : decode b_NP_write 26 = .ok (.bipush 32, 2) := by decide +kernel
theorem d_NP_write_28 : decode b_NP_write 28 = .ok (.if_icmp .lt 10, 3) := by decide +kernel
theorem d_NP_write_31 : decode b_NP_write 31 = .ok (.iload 5, 2) := by decide +kernel
theorem d_NP_write_33 : decode b_NP_write 33 = .ok (.bipush 126, 2) := by decide +kernel
theorem d_NP_write_35 : decode b_NP_write 35 = .ok (.if_icmp .le 5, 3) := by decide +kernel
theorem d_NP_write_38 : decode b_NP_write 38 = .ok (.iconst 0, 1) := by decide +kernel
theorem d_NP_write_39 : decode b_NP_write 39 = .ok (.ireturn, 1) := by decide +kernel
theorem d_NP_write_40 : decode b_NP_write 40 = .ok (.iinc 3 1, 3) := by decide +kernel
theorem d_NP_write_43 : decode b_NP_write 43 = .ok (.iinc 4 (-8), 3) := by decide +kernel
theorem d_NP_write_46 : decode b_NP_write 46 = .ok (.goto (-40), 3) := by decide +kernel
theorem d_NP_write_49 : decode b_NP_write 49 = .ok (.iload_n 3, 1) := by decide +kernel
theorem d_NP_write_50 : decode b_NP_write 50 = .ok (.sipush 180, 3) := by decide +kernel
theorem d_NP_write_53 : decode b_NP_write 53 = .ok (.aload_n 0, 1) := by decide +kernel
theorem d_NP_write_54 : decode b_NP_write 54 = .ok (.getfield 13, 3) := by decide +kernel
theorem d_NP_write_57 : decode b_NP_write 57 = .ok (.isub, 1) := by decide +kernel
theorem d_NP_write_58 : decode b_NP_write 58 = .ok (.if_icmp .le 5, 3) := by decide +kernel
theorem d_NP_write_61 : decode b_NP_write 61 = .ok (.iconst 0, 1) := by decide +kernel
theorem d_NP_write_62 : decode b_NP_write 62 = .ok (.ireturn, 1) := by decide +kernel
theorem d_NP_write_63 : decode b_NP_write 63 = .ok (.aload_n 0, 1) := by decide +kernel
theorem d_NP_write_64 : decode b_NP_write 64 = .ok (.lload_n 1, 1) := by decide +kernel
theorem d_NP_write_65 : decode b_NP_write 65 = .ok (.invokevirtual 42, 3) := by decide +kernel
theorem d_NP_write_68 : decode b_NP_write 68 = .ok (.iconst 1, 1) := by decide +kernel
theorem d_NP_write_69 : decode b_NP_write 69 = .ok (.ireturn, 1) := by decide +kernel

set_option maxHeartbeats 4000000 in
set_option maxRecDepth 100000 in
theorem g_NP_write (l : Launch) (G : nn_G) (sz : Nat) (h9 tx cm h1 h0 : Nat) (tn : Nat) (tf : Nat → Int32) (w : Int64) (ht : tn ≤ 180) : Met l y_NP_write w_NP_write ({ frames := 2, cells := 0, slots := 0, locals := 46 }) (nn_P G [.ref h9, .long w] [(h9, .inr (0, [.ref tx, .int (nI tn), .ref cm, .ref h1, .ref h0])), (tx, .inl (G.2 1, 180, .inl (tf)))] sz) (va_Qi (fun (r : Int32) (u : (Nat → Int32) × Nat) => r = nb_wrn w tn ∧ u.2 = nb_tn w tn) (fun u t => va_P G.1 nn_cls [(h9, .inr (0, [.ref tx, .int (nI u.2), .ref cm, .ref h1, .ref h0])), (tx, .inl (G.2 1, 180, .inl (u.1)))] t.heap ∧ va_D (va_A [(h9, .inr (0, [.ref tx, .int (nI tn), .ref cm, .ref h1, .ref h0])), (tx, .inl (G.2 1, 180, .inl (tf)))] sz) [(h9, .inr (0, [.ref tx, .int (nI u.2), .ref cm, .ref h1, .ref h0])), (tx, .inl (G.2 1, 180, .inl (u.1)))]) (va_A [(h9, .inr (0, [.ref tx, .int (nI tn), .ref cm, .ref h1, .ref h0])), (tx, .inl (G.2 1, 180, .inl (tf)))] sz)) 0 0 (va_A [(h9, .inr (0, [.ref tx, .int (nI tn), .ref cm, .ref h1, .ref h0])), (tx, .inl (G.2 1, 180, .inl (tf)))] sz) := by
  refine Met.ofW (cc := b_NP_write) (maxL := 6) (ret := some .boolean) (by decide) rfl ?_
  intro p e s m args below meth c s₁ B hml hv
  obtain ⟨rfl, hsz, hP, hK, hD0, hN⟩ := hv
  have hx := B.exec
  have hb := B.bytes
  have hr := B.returns
  have hts := atoms_spec (ws := w_NP_write) B.pre
  have hg : ∀ w ∈ nn_gw, w.before _ s = true := fun w h => hts w (List.mem_cons_of_mem _ h)
  have hown : s.vm.findClass R_NP = some m.cls := findClass_of_methodNamed B.named
  have hlocks := B.notSynchronized
  subst hsz
  have hD := hD0.self (sz := s.heap.size)
  generalize hAe : va_A [(h9, .inr (0, [.ref tx, .int (nI tn), .ref cm, .ref h1, .ref h0])), (tx, .inl (G.2 1, 180, .inl (tf)))] s.heap.size = A at hD ⊢
  have hA : ∀ q : Nat, s.heap.size ≤ q → A q := fun q h => by rw [← hAe]; exact Or.inr h
  have hS : va_S A s.heap s.heap [] := va_S.rf
  have hP : va_P G.1 nn_cls [(h9, .inr (0, [.ref tx, .int (nI tn), .ref cm, .ref h1, .ref h0])), (tx, .inl (G.2 1, 180, .inl (tf)))] s.heap := hP
  have hl := lv_entry ([.ref h9, .long w]) (n := 6) (Nat.le_of_ble_eq_true rfl)
  rw [lg_entry_eq]
  generalize (lg_sl ([.ref h9, .long w]) ++ List.replicate (6 - (lg_sl ([.ref h9, .long w])).length) Slot.unset).toArray = ls at hl ⊢
  have hl : lv_has ls 6 [(0, .ref h9), (1, .long w)] := hl
  refine lv_iconst (v := 0) hx hb d_NP_write_0 (by decide) ?_
  refine lv_istore_n (lv' := [(3, .int 0), (0, .ref h9), (1, .long w)]) hx hb d_NP_write_1 rfl hl (by decide) rfl (fun ls hl => ?_)
  refine lv_bipush (v := 56) hx hb d_NP_write_2 (by decide) ?_
  refine lv_istore (lv' := [(4, .int 56), (3, .int 0), (0, .ref h9), (1, .long w)]) hx hb d_NP_write_4 hl (by decide) rfl (fun ls hl => ?_)
  rw [show (56 : Int32) = nI (8 * 8) + (-8) by decide] at hl
  have hl := lv_sub (l' := [(4, .int 56), (3, .int 0), (0, .ref h9), (1, .long w)]) hl [0, 1, 2, 3] rfl
  suffices loop : ∀ (j : Nat) (mm : Nat) (ls : Array Slot), mm + nb_cnt w j = nb_cnt w 8 → j ≤ 8 → nb_ok w 8 = nb_ok w j → lv_has ls 6 [(4, .int (nI (8 * j) + (-8))), (3, .int (nI mm)), (0, .ref h9), (1, .long w)] → W p l e (headSpec w_NP_write ({ frames := 2, cells := 0, slots := 0, locals := 46 })).room s m [.ref h9, .long w].toArray below meth c s.heap [] 0 0 (MQ below (va_Qi (fun (r : Int32) (u : (Nat → Int32) × Nat) => r = nb_wrn w tn ∧ u.2 = nb_tn w tn) (fun u t => va_P G.1 nn_cls [(h9, .inr (0, [.ref tx, .int (nI u.2), .ref cm, .ref h1, .ref h0])), (tx, .inl (G.2 1, 180, .inl (u.1)))] t.heap ∧ va_D A [(h9, .inr (0, [.ref tx, .int (nI u.2), .ref cm, .ref h1, .ref h0])), (tx, .inl (G.2 1, 180, .inl (u.1)))]) A) [.ref h9, .long w].toArray s 0 0 A) (F0 m 6 ls []) by
    exact loop 8 0 ls (by omega) (by decide) rfl hl
  intro j
  induction j with
  | zero =>
    intro mm ls hm hj8 hok hl
    rw [show nI (8 * 0) + (-8) = (-8 : Int32) by decide] at hl
    have hmm : mm = nb_cnt w 8 := by have hm0 : mm + 0 = nb_cnt w 8 := hm; omega
    have hw8 := nb_le8 w
    refine lv_iload hx hb d_NP_write_6 (lv_at hl 0 rfl) ?_
    refine lv_if_lt (tgt := 49) hx hb d_NP_write_8 rfl (fun _ => ?_) (fun h => absurd (by decide) h)
    refine lv_iload_n hx hb d_NP_write_49 rfl (lv_at hl 1 rfl) ?_
    refine lv_sipush (v := 180) hx hb d_NP_write_50 (by decide) ?_
    refine lv_aload_n hx hb d_NP_write_53 rfl (lv_at hl 2 rfl) ?_
    refine va_get (D := G.1) (ci := 0) (v := .int (nI tn)) (C := R_NP) (T := T_NP) (N := 5) hx hb hg in_NP hown hK hP 0 rfl rfl 1 (by decide) (hg _ mw_272) (fun _ h9 => h9) rfl d_NP_write_54 ?_
    refine lv_isub hx hb d_NP_write_57 ?_
    refine nb_top (nI (180 - tn)) (pk_sub (a := 180) (by omega)) ?_
    refine lv_icmp_le (tgt := 63) hx hb d_NP_write_58 rfl (fun hc58 => ?_) (fun hc58 => ?_)
    · skip
      refine lv_aload_n hx hb d_NP_write_63 rfl (lv_at hl 2 rfl) ?_
      refine lv_lload_n hx hb d_NP_write_64 rfl (lv_at hl 3 rfl) ?_
      have hPc := hP.sub (ws' := [(h9, .inr (0, [.ref tx, .int (nI tn), .ref cm, .ref h1, .ref h0])), (tx, .inl (G.2 1, 180, .inl (tf)))]) [0, 1] rfl
      have hDc := hD.sub (ws' := [(h9, .inr (0, [.ref tx, .int (nI tn), .ref cm, .ref h1, .ref h0])), (tx, .inl (G.2 1, 180, .inl (tf)))]) [0, 1] (by decide) rfl
      have hFc := va_free (wc := [(h9, .inr (0, [.ref tx, .int (nI tn), .ref cm, .ref h1, .ref h0])), (tx, .inl (G.2 1, 180, .inl (tf)))]) hD hS hA [0, 1] rfl
      refine va_callv (va_runV (As := [.long w]) (rest := []) ⟨hx, hb, hml, hown, hts⟩ (g_NP_append l G _ h9 tx cm h1 h0 tn tf w (by have := nb_leI hc58 (by omega) (by omega); omega)) (cwV 1 hts (nn_gV mw_297 mw_294 mw_296 mw_0 mw_87) rfl rfl rfl (by decide +kernel) ⟨Nat.le_of_ble_eq_true rfl, Nat.le_of_ble_eq_true rfl⟩) (nn_preV (va_recv hK hP rfl (q0 := 0) rfl) hPc hDc hK hN) rfl rfl hl.1 rfl (lv_room (Nat.le_of_ble_eq_true rfl)) d_NP_write_65 ⟨(Nat.le_of_ble_eq_true rfl), (Nat.le_of_ble_eq_true rfl)⟩) hS (fun q _ h => hFc q h) hFc (fun u1 t H locs ht hvm hw hB hz1 hk1 hS => ?_)
      obtain ⟨hP1, hD1⟩ := hB
      rw [ht] at hP1
      obtain ⟨hP, hD⟩ := va_join (wr := []) (w1 := [(h9, .inr (0, [.ref tx, .int (nI (tn + nb_cnt w 8)), .ref cm, .ref h1, .ref h0])), (tx, .inl (G.2 1, 180, .inl (u1)))]) hP hD [0, 1] [] rfl rfl (by decide) (by decide) hk1 hFc hP1 hD1
      have hP : va_P G.1 nn_cls [(h9, .inr (0, [.ref tx, .int (nI (tn + nb_cnt w 8)), .ref cm, .ref h1, .ref h0])), (tx, .inl (G.2 1, 180, .inl (u1)))] H := hP
      have hD : va_D A [(h9, .inr (0, [.ref tx, .int (nI (tn + nb_cnt w 8)), .ref cm, .ref h1, .ref h0])), (tx, .inl (G.2 1, 180, .inl (u1)))] := hD
      refine W.widen (k := 0) (n := 0) (Nat.le_of_ble_eq_true rfl) (Nat.le_of_ble_eq_true rfl) ?_
      refine lv_iconst (v := 1) hx hb d_NP_write_68 (by decide) ?_
      refine W.widen (k := 0) (n := 0) (Nat.le_of_ble_eq_true rfl) (Nat.le_of_ble_eq_true rfl) ?_
      have hP9 := hP.sub (ws' := [(h9, .inr (0, [.ref tx, .int (nI (tn + nb_cnt w 8)), .ref cm, .ref h1, .ref h0])), (tx, .inl (G.2 1, 180, .inl (u1)))]) [0, 1] rfl
      have hD9 := hD.sub (ws' := [(h9, .inr (0, [.ref tx, .int (nI (tn + nb_cnt w 8)), .ref cm, .ref h1, .ref h0])), (tx, .inl (G.2 1, 180, .inl (u1)))]) [0, 1] (by decide) rfl
      exact W.zret (v := 1) hx hb hr rfl (fun t ht hW => ⟨⟨1, (u1, tn + nb_cnt w 8), rfl, ⟨(nb_w1 (n := tn) hok (by have := nb_leI hc58 (by omega) (by omega); omega)).1, (nb_w1 (n := tn) hok (by have := nb_leI hc58 (by omega) (by omega); omega)).2⟩, ⟨by rw [ht]; exact hP9, hD9⟩⟩, hS.F ht⟩) hS.2.2 d_NP_write_69
    · skip
      refine lv_iconst (v := 0) hx hb d_NP_write_61 (by decide) ?_
      refine W.widen (k := 0) (n := 0) (Nat.le_of_ble_eq_true rfl) (Nat.le_of_ble_eq_true rfl) ?_
      have hP9 := hP.sub (ws' := [(h9, .inr (0, [.ref tx, .int (nI tn), .ref cm, .ref h1, .ref h0])), (tx, .inl (G.2 1, 180, .inl (tf)))]) [0, 1] rfl
      have hD9 := hD.sub (ws' := [(h9, .inr (0, [.ref tx, .int (nI tn), .ref cm, .ref h1, .ref h0])), (tx, .inl (G.2 1, 180, .inl (tf)))]) [0, 1] (by decide) rfl
      exact W.zret (v := 0) hx hb hr rfl (fun t ht hW => ⟨⟨0, (tf, tn), rfl, nb_w0 (Or.inr (by have h9 : ¬ mm ≤ 180 - tn := fun q => hc58 (nI_le q (by omega)); omega)), ⟨by rw [ht]; exact hP9, hD9⟩⟩, hS.F ht⟩) hS.2.2 d_NP_write_62
  | succ j ih =>
    intro mm ls hm hj8 hok hl
    rw [nb_m8 j] at hl
    refine lv_iload hx hb d_NP_write_6 (lv_at hl 0 rfl) ?_
    refine lv_if_lt (tgt := 49) hx hb d_NP_write_8 rfl (fun h => absurd h (nI_pos (by omega))) (fun _ => ?_)
    refine lv_lload_n hx hb d_NP_write_11 rfl (lv_at hl 3 rfl) ?_
    refine lv_iload hx hb d_NP_write_12 (lv_at hl 0 rfl) ?_
    have hPc := hP.sub (ws' := []) [] rfl
    have hDc := hD.sub (ws' := []) [] (by decide) rfl
    refine vp_callSi (va_Run.run (va_runS (As := [.long w, .int (nI (8 * j))]) (rest := []) ⟨hx, hb, hml, hown, hts⟩ (g_NP_byteOf l G _ w (nI (8 * j))) (va_cwS 2 hts (nn_gS mw_293 mw_291 mw_292 mw_87) rfl rfl rfl (by decide +kernel) ⟨Nat.le_of_ble_eq_true rfl, Nat.le_of_ble_eq_true rfl⟩) (nn_preS hPc hDc hK hN) rfl rfl hl.1 rfl (lv_room (Nat.le_of_ble_eq_true rfl)) d_NP_write_14 ⟨(Nat.le_of_ble_eq_true rfl), (Nat.le_of_ble_eq_true rfl)⟩)) (fun r2 er2 => ?_)
    have er2 : r2 = nb_by w j := er2
    subst er2
    refine lv_istore (lv' := [(5, .int (nb_by w j)), (4, .int (nI (8 * j))), (3, .int (nI mm)), (0, .ref h9), (1, .long w)]) hx hb d_NP_write_17 hl (by decide) rfl (fun ls hl => ?_)
    refine lv_iload hx hb d_NP_write_19 (lv_at hl 0 rfl) ?_
    refine lv_if_eq (tgt := 43) hx hb d_NP_write_21 rfl (fun hc21 => ?_) (fun hc21 => ?_)
    · skip
      refine lv_iinc (k := 1) (v := nI (8 * j) + (-8)) (lv' := [(4, .int (nI (8 * j) + (-8))), (5, .int (nb_by w j)), (3, .int (nI mm)), (0, .ref h9), (1, .long w)]) hx hb d_NP_write_43 hl rfl (by rw [show Int32.ofInt (-8) = (-8 : Int32) by decide]) (by decide) rfl (fun ls hl => ?_)
      refine lv_goto (tgt := 6) hx hb d_NP_write_46 rfl ?_
      have hl := lv_sub (l' := [(4, .int (nI (8 * j) + (-8))), (3, .int (nI mm)), (0, .ref h9), (1, .long w)]) hl [0, 2, 3, 4] rfl
      exact ih mm ls (by have := nb_c0 hc21; omega) (by omega) (nb_good hok (Or.inl hc21)) hl
    · skip
      refine lv_iload hx hb d_NP_write_24 (lv_at hl 0 rfl) ?_
      refine lv_bipush (v := 32) hx hb d_NP_write_26 (by decide) ?_
      refine lv_icmp_lt (tgt := 38) hx hb d_NP_write_28 rfl (fun hc28 => ?_) (fun hc28 => ?_)
      · skip
        refine lv_iconst (v := 0) hx hb d_NP_write_38 (by decide) ?_
        refine W.widen (k := 0) (n := 0) (Nat.le_of_ble_eq_true rfl) (Nat.le_of_ble_eq_true rfl) ?_
        have hP9 := hP.sub (ws' := [(h9, .inr (0, [.ref tx, .int (nI tn), .ref cm, .ref h1, .ref h0])), (tx, .inl (G.2 1, 180, .inl (tf)))]) [0, 1] rfl
        have hD9 := hD.sub (ws' := [(h9, .inr (0, [.ref tx, .int (nI tn), .ref cm, .ref h1, .ref h0])), (tx, .inl (G.2 1, 180, .inl (tf)))]) [0, 1] (by decide) rfl
        exact W.zret (v := 0) hx hb hr rfl (fun t ht hW => ⟨⟨0, (tf, tn), rfl, nb_w0 (Or.inl (nb_badF hok hc21 (Or.inl hc28))), ⟨by rw [ht]; exact hP9, hD9⟩⟩, hS.F ht⟩) hS.2.2 d_NP_write_39
      · skip
        refine lv_iload hx hb d_NP_write_31 (lv_at hl 0 rfl) ?_
        refine lv_bipush (v := 126) hx hb d_NP_write_33 (by decide) ?_
        refine lv_icmp_le (tgt := 40) hx hb d_NP_write_35 rfl (fun hc35 => ?_) (fun hc35 => ?_)
        · skip
          refine lv_iinc (k := 2) (v := nI (mm + 1)) (lv' := [(3, .int (nI (mm + 1))), (5, .int (nb_by w j)), (4, .int (nI (8 * j))), (0, .ref h9), (1, .long w)]) hx hb d_NP_write_40 hl rfl ((nI_succ mm).symm) (by decide) rfl (fun ls hl => ?_)
          refine lv_iinc (k := 2) (v := nI (8 * j) + (-8)) (lv' := [(4, .int (nI (8 * j) + (-8))), (3, .int (nI (mm + 1))), (5, .int (nb_by w j)), (0, .ref h9), (1, .long w)]) hx hb d_NP_write_43 hl rfl (by rw [show Int32.ofInt (-8) = (-8 : Int32) by decide]) (by decide) rfl (fun ls hl => ?_)
          refine lv_goto (tgt := 6) hx hb d_NP_write_46 rfl ?_
          have hl := lv_sub (l' := [(4, .int (nI (8 * j) + (-8))), (3, .int (nI (mm + 1))), (0, .ref h9), (1, .long w)]) hl [0, 1, 3, 4] rfl
          exact ih (mm + 1) ls (by have := nb_c1 hc21; omega) (by omega) (nb_good hok (Or.inr ⟨hc28, hc35⟩)) hl
        · skip
          refine lv_iconst (v := 0) hx hb d_NP_write_38 (by decide) ?_
          refine W.widen (k := 0) (n := 0) (Nat.le_of_ble_eq_true rfl) (Nat.le_of_ble_eq_true rfl) ?_
          have hP9 := hP.sub (ws' := [(h9, .inr (0, [.ref tx, .int (nI tn), .ref cm, .ref h1, .ref h0])), (tx, .inl (G.2 1, 180, .inl (tf)))]) [0, 1] rfl
          have hD9 := hD.sub (ws' := [(h9, .inr (0, [.ref tx, .int (nI tn), .ref cm, .ref h1, .ref h0])), (tx, .inl (G.2 1, 180, .inl (tf)))]) [0, 1] (by decide) rfl
          exact W.zret (v := 0) hx hb hr rfl (fun t ht hW => ⟨⟨0, (tf, tn), rfl, nb_w0 (Or.inl (nb_badF hok hc21 (Or.inr hc35))), ⟨by rw [ht]; exact hP9, hD9⟩⟩, hS.F ht⟩) hS.2.2 d_NP_write_39
