/-! contracts (by wip/p1/gen.py) -/
/-! the pool of names as the constructor makes it -/
def nl_dn (L : List Nat) (f : Nat → Option Nat) (i : Nat) : Prop := ∀ j, j < i → ∃ a, a ∈ L ∧ f j = some a
theorem nl_p0 (X : va_W) (pf : Nat → Nat → Int32) : X ++ nz_pl [] pf = X := List.append_nil X
theorem nl_push {X : va_W} {L : List Nat} {q : Nat} (h : q ∉ L) : (X ++ nz_pl L (fun _ _ => 0)) ++ [(q, .inr (4, [.int 0, .int 0, .int 0, .int 0, .int 0]))] = X ++ nz_pl (L ++ [q]) (fun _ _ => 0) := by
  rw [List.append_assoc]
  congr 1
  refine (va_pl_push h).trans (va_pl_congr fun a => ?_)
  unfold va_up
  split <;> rfl
theorem nl_dnS {L : List Nat} {f : Nat → Option Nat} {i q : Nat} (h : nl_dn L f i) (hi : i < 90) : nl_dn (L ++ [q]) (va_up f (nI i).toNatClampNeg (some q)) (i + 1) := by
  intro j hj
  rw [nI_clamp (by omega)]
  by_cases e : j = i
  · exact ⟨q, List.mem_append_right _ (List.mem_singleton.mpr rfl), by unfold va_up; rw [if_pos e]⟩
  · obtain ⟨a, h1, h2⟩ := h j (by omega)
    exact ⟨a, List.mem_append_left _ h1, by unfold va_up; rw [if_neg e]; exact h2⟩
theorem nl_dn.get {L : List Nat} {f : Nat → Option Nat} (h : nl_dn L f 90) : ∃ dn : Nat → Nat, (∀ j, j < 90 → dn j ∈ L) ∧ ∀ j, j < 90 → f j = some (dn j) := by
  refine ⟨fun j => (f j).getD 0, fun j hj => ?_, fun j hj => ?_⟩
  · obtain ⟨a, h1, h2⟩ := h j hj
    show (f j).getD 0 ∈ L
    rw [h2]; exact h1
  · obtain ⟨a, h1, h2⟩ := h j hj
    show f j = some ((f j).getD 0)
    rw [h2]; rfl
theorem nl_cell {c : ClassId} {n : Nat} {f g : Nat → Option Nat} (h : ∀ j, j < n → f j = g j) : vp_cell c (n, .inr (.inr (.inr (.inr f)))) = vp_cell c (n, .inr (.inr (.inr (.inr g)))) := by
  rw [vp_cell_q, vp_cell_q]
  unfold arrV
  congr 1
  congr 1
  funext j
  show va_rf (f j.val) = va_rf (g j.val)
  rw [h j.val j.isLt]
theorem nl_qP {D : va_G} {cl : List vw_C} {p : Nat × va_E} {ws : va_W} {a : Nat} {c : ClassId} {f : Nat → Option Nat} {dn : Nat → Nat} {H : Heap} (h : va_P D cl (p :: (a, .inl (c, 90, .inr (.inr (.inr (.inr f))))) :: ws) H) (hf : ∀ j, j < 90 → f j = some (dn j)) : va_P D cl (p :: (a, .inl (c, 90, .inr (.inr (.inr (.inr (fun j => some (dn j))))))) :: ws) H := by
  intro k q hk
  match k with
  | 0 => exact h 0 q hk
  | 1 =>
    have e : (a, (Sum.inl (c, 90, .inr (.inr (.inr (.inr (fun j => some (dn j)))))) : va_E)) = q := Option.some.inj hk
    rw [← e]
    have h1 := h 1 _ rfl
    show H[a]? = some (vp_cell c (90, _))
    rw [← nl_cell hf]
    exact h1
  | k + 2 => exact h (k + 2) q hk
theorem nl_qD {A : Nat → Prop} {p : Nat × va_E} {ws : va_W} {a : Nat} {e e' : va_E} (h : va_D A (p :: (a, e) :: ws)) : va_D A (p :: (a, e') :: ws) := h.set (p := 1) rfl

/-- the reference as its constructor leaves it -/
def m_x0 : nM := (fun k => if k = 9 ∨ k = 10 ∨ k = 37 then -1 else 0, fun _ _ => 0)
def nl_ad (a0 a1 a2 a3 a4 a5 a6 a7 a8 a9 a10 a11 a12 a13 a14 a15 a16 : Nat) : Nat → Nat := fun k => match k with
  | 2 => a0 | 12 => a1 | 13 => a2 | 14 => a3 | 16 => a4 | 17 => a5 | 18 => a6 | 19 => a7 | 20 => a8 | 26 => a9 | 27 => a10 | 28 => a11 | 30 => a12 | 31 => a13 | 32 => a14 | 40 => a15 | _ => a16
theorem m_x0I : q_RI m_x0 0 := ⟨rfl, Nat.zero_le _, Or.inl ⟨rfl, by decide, rfl⟩⟩


theorem mw_115 : (.instanceMethod ⟨"java/lang/Object", "<init>", "()V"⟩ : Cond) ∈ nn_gw := nn_at 115 (by decide +kernel) (by decide +kernel)
theorem mw_148 : (.arrayClass .int : Cond) ∈ nn_gw := nn_at 148 (by decide +kernel) (by decide +kernel)
theorem mw_205 : (.methodLink R_Co 3 ⟨"java/lang/Object", "<init>", "()V"⟩ : Cond) ∈ nn_gw := nn_at 205 (by decide +kernel) (by decide +kernel)
theorem d_Co_init_0 : decode b_Co_init 0 = .ok (.aload_n 0, 1) := by decide +kernel
theorem d_Co_init_1 : decode b_Co_init 1 = .ok (.invokespecial 3, 3) := by decide +kernel
theorem d_Co_init_4 : decode b_Co_init 4 = .ok (.aload_n 0, 1) := by decide +kernel
theorem d_Co_init_5 : decode b_Co_init 5 = .ok (.sipush 180, 3) := by decide +kernel
theorem d_Co_init_8 : decode b_Co_init 8 = .ok (.newarray .int, 2) := by decide +kernel
theorem d_Co_init_10 : decode b_Co_init 10 = .ok (.putfield 11, 3) := by decide +kernel
theorem d_Co_init_13 : decode b_Co_init 13 = .ok (.aload_n 0, 1) := by decide +kernel
theorem d_Co_init_14 : decode b_Co_init 14 = .ok (.sipush 180, 3) := by decide +kernel
theorem d_Co_init_17 : decode b_Co_init 17 = .ok (.newarray .int, 2) := by decide +kernel
theorem d_Co_init_19 : decode b_Co_init 19 = .ok (.putfield 15, 3) := by decide +kernel
theorem d_Co_init_22 : decode b_Co_init 22 = .ok (.aload_n 0, 1) := by decide +kernel
theorem d_Co_init_23 : decode b_Co_init 23 = .ok (.sipush 180, 3) := by decide +kernel
theorem d_Co_init_26 : decode b_Co_init 26 = .ok (.newarray .int, 2) := by decide +kernel
theorem d_Co_init_28 : decode b_Co_init 28 = .ok (.putfield 18, 3) := by decide +kernel
theorem d_Co_init_31 : decode b_Co_init 31 = .ok (.aload_n 0, 1) := by decide +kernel
theorem d_Co_init_32 : decode b_Co_init 32 = .ok (.iconst 0, 1) := by decide +kernel
theorem d_Co_init_33 : decode b_Co_init 33 = .ok (.putfield 21, 3) := by decide +kernel
theorem d_Co_init_36 : decode b_Co_init 36 = .ok (.return_, 1) := by decide +kernel

set_option maxHeartbeats 4000000 in
set_option maxRecDepth 100000 in
theorem i_Co (l : Launch) (G : nn_G) (sz : Nat) (h0 : Nat) : Met l y_Co_init w_Co_init ({ frames := 1, cells := 3, slots := 540, locals := 12 }) (nn_P G [.ref h0] [nc_o h0 1 [.null, .null, .null, .int 0]] sz) (va_Qv (fun u : Nat × Nat × Nat => True) (fun u t => va_P G.1 nn_cls [nc_o h0 1 [.ref u.1, .ref u.2.1, .ref u.2.2, .int 0], nc_i u.1 (G.2 0) 180 (fun _ => 0), nc_i u.2.1 (G.2 0) 180 (fun _ => 0), nc_i u.2.2 (G.2 0) 180 (fun _ => 0)] t.heap ∧ va_D (va_A [nc_o h0 1 [.null, .null, .null, .int 0]] sz) [nc_o h0 1 [.ref u.1, .ref u.2.1, .ref u.2.2, .int 0], nc_i u.1 (G.2 0) 180 (fun _ => 0), nc_i u.2.1 (G.2 0) 180 (fun _ => 0), nc_i u.2.2 (G.2 0) 180 (fun _ => 0)]) (va_A [nc_o h0 1 [.null, .null, .null, .int 0]] sz)) 3 540 (va_A [nc_o h0 1 [.null, .null, .null, .int 0]] sz) := by
  refine Met.ofW (cc := b_Co_init) (maxL := 1) (ret := none) (by decide) rfl ?_
  intro p e s m args below meth c s₁ B hml hv
  obtain ⟨rfl, hsz, hP, hK, hD0, hN⟩ := hv
  have hx := B.exec
  have hb := B.bytes
  have hr := B.returns
  have hts := atoms_spec (ws := w_Co_init) B.pre
  have hg : ∀ w ∈ nn_gw, w.before _ s = true := fun w h => hts w (List.mem_cons_of_mem _ h)
  have hown : s.vm.findClass R_Co = some m.cls := findClass_of_methodNamed B.named
  have hlocks := B.notSynchronized
  have hin : meth.name = "<init>" := (name_of_methodNamed B.named B.method).1
  subst hsz
  have hD := hD0.self (sz := s.heap.size)
  generalize hAe : va_A [nc_o h0 1 [.null, .null, .null, .int 0]] s.heap.size = A at hD ⊢
  have hA : ∀ q : Nat, s.heap.size ≤ q → A q := fun q h => by rw [← hAe]; exact Or.inr h
  have hS : va_S A s.heap s.heap [] := va_S.rf
  have hP : va_P G.1 nn_cls [nc_o h0 1 [.null, .null, .null, .int 0]] s.heap := hP
  have hl := lv_entry ([.ref h0]) (n := 1) (Nat.le_of_ble_eq_true rfl)
  rw [lg_entry_eq]
  generalize (lg_sl ([.ref h0]) ++ List.replicate (1 - (lg_sl ([.ref h0])).length) Slot.unset).toArray = ls at hl ⊢
  have hl : lv_has ls 1 [(0, .ref h0)] := hl
  refine lv_aload_n hx hb d_Co_init_0 rfl (lv_at hl 0 rfl) ?_
  refine W.objInit hx hb hown (hg _ mw_205) (hg _ mw_115) (hg _ nn_oc) rfl (by rw [hml]; exact hl.1) rfl d_Co_init_1 (Nat.le_of_ble_eq_true rfl) (Nat.le_of_ble_eq_true rfl) ?_
  refine W.eq (g2 := F0 m 4 ls []) rfl ?_
  refine lv_aload_n hx hb d_Co_init_4 rfl (lv_at hl 0 rfl) ?_
  refine lv_sipush (v := 180) hx hb d_Co_init_5 (by decide) ?_
  refine nb_newa (atype := .int) (a0 := (180, .inl (fun _ => 0))) (N' := 180) (ty := .int) (cA := G.2 0) hx hb (hg _ mw_148) rfl hK hP hD hS hA 0 rfl (fun _ => rfl) (by decide) (by decide) (by decide) (Nat.le_of_ble_eq_true rfl) (Nat.le_of_ble_eq_true rfl) d_Co_init_8 (fun q1 H hP hD hS => ?_)
  have hP : va_P G.1 nn_cls [nc_o h0 1 [.null, .null, .null, .int 0], nc_i q1 (G.2 0) 180 (fun _ => 0)] H := hP
  have hD : va_D A [nc_o h0 1 [.null, .null, .null, .int 0], nc_i q1 (G.2 0) 180 (fun _ => 0)] := hD
  refine W.widen (k := 1) (n := 180) (Nat.le_of_ble_eq_true rfl) (Nat.le_of_ble_eq_true rfl) ?_
  refine va_putF (D := G.1) (ci := 1) (v := .ref q1) (ty := .array .int) (C := R_Co) (T := T_Co) (N := 4) hx hb hg in_Co t_Co ok_Co nm_Co hown hK hP hD hS 0 rfl rfl 0 (by decide) (hg _ mw_206) (fun _ h9 => h9) rfl hin rfl (by decide +kernel) rfl rfl (Nat.le_of_ble_eq_true rfl) d_Co_init_10 (fun H locs hP hD hS => ?_)
  have hP : va_P G.1 nn_cls [nc_o h0 1 [.ref q1, .null, .null, .int 0], nc_i q1 (G.2 0) 180 (fun _ => 0)] H := hP
  have hD : va_D A [nc_o h0 1 [.ref q1, .null, .null, .int 0], nc_i q1 (G.2 0) 180 (fun _ => 0)] := hD
  refine lv_aload_n hx hb d_Co_init_13 rfl (lv_at hl 0 rfl) ?_
  refine lv_sipush (v := 180) hx hb d_Co_init_14 (by decide) ?_
  refine nb_newa (atype := .int) (a0 := (180, .inl (fun _ => 0))) (N' := 180) (ty := .int) (cA := G.2 0) hx hb (hg _ mw_148) rfl hK hP hD hS hA 0 rfl (fun _ => rfl) (by decide) (by decide) (by decide) (Nat.le_of_ble_eq_true rfl) (Nat.le_of_ble_eq_true rfl) d_Co_init_17 (fun q2 H hP hD hS => ?_)
  have hP : va_P G.1 nn_cls [nc_o h0 1 [.ref q1, .null, .null, .int 0], nc_i q1 (G.2 0) 180 (fun _ => 0), nc_i q2 (G.2 0) 180 (fun _ => 0)] H := hP
  have hD : va_D A [nc_o h0 1 [.ref q1, .null, .null, .int 0], nc_i q1 (G.2 0) 180 (fun _ => 0), nc_i q2 (G.2 0) 180 (fun _ => 0)] := hD
  refine W.widen (k := 2) (n := 360) (Nat.le_of_ble_eq_true rfl) (Nat.le_of_ble_eq_true rfl) ?_
  refine va_putF (D := G.1) (ci := 1) (v := .ref q2) (ty := .array .int) (C := R_Co) (T := T_Co) (N := 4) hx hb hg in_Co t_Co ok_Co nm_Co hown hK hP hD hS 0 rfl rfl 1 (by decide) (hg _ mw_207) (fun _ h9 => h9) rfl hin rfl (by decide +kernel) rfl rfl (Nat.le_of_ble_eq_true rfl) d_Co_init_19 (fun H locs hP hD hS => ?_)
  have hP : va_P G.1 nn_cls [nc_o h0 1 [.ref q1, .ref q2, .null, .int 0], nc_i q1 (G.2 0) 180 (fun _ => 0), nc_i q2 (G.2 0) 180 (fun _ => 0)] H := hP
  have hD : va_D A [nc_o h0 1 [.ref q1, .ref q2, .null, .int 0], nc_i q1 (G.2 0) 180 (fun _ => 0), nc_i q2 (G.2 0) 180 (fun _ => 0)] := hD
  refine lv_aload_n hx hb d_Co_init_22 rfl (lv_at hl 0 rfl) ?_
  refine lv_sipush (v := 180) hx hb d_Co_init_23 (by decide) ?_
  refine nb_newa (atype := .int) (a0 := (180, .inl (fun _ => 0))) (N' := 180) (ty := .int) (cA := G.2 0) hx hb (hg _ mw_148) rfl hK hP hD hS hA 0 rfl (fun _ => rfl) (by decide) (by decide) (by decide) (Nat.le_of_ble_eq_true rfl) (Nat.le_of_ble_eq_true rfl) d_Co_init_26 (fun q3 H hP hD hS => ?_)
  have hP : va_P G.1 nn_cls [nc_o h0 1 [.ref q1, .ref q2, .null, .int 0], nc_i q1 (G.2 0) 180 (fun _ => 0), nc_i q2 (G.2 0) 180 (fun _ => 0), nc_i q3 (G.2 0) 180 (fun _ => 0)] H := hP
  have hD : va_D A [nc_o h0 1 [.ref q1, .ref q2, .null, .int 0], nc_i q1 (G.2 0) 180 (fun _ => 0), nc_i q2 (G.2 0) 180 (fun _ => 0), nc_i q3 (G.2 0) 180 (fun _ => 0)] := hD
  refine W.widen (k := 3) (n := 540) (Nat.le_of_ble_eq_true rfl) (Nat.le_of_ble_eq_true rfl) ?_
  refine va_putF (D := G.1) (ci := 1) (v := .ref q3) (ty := .array .int) (C := R_Co) (T := T_Co) (N := 4) hx hb hg in_Co t_Co ok_Co nm_Co hown hK hP hD hS 0 rfl rfl 2 (by decide) (hg _ mw_208) (fun _ h9 => h9) rfl hin rfl (by decide +kernel) rfl rfl (Nat.le_of_ble_eq_true rfl) d_Co_init_28 (fun H locs hP hD hS => ?_)
  have hP : va_P G.1 nn_cls [nc_o h0 1 [.ref q1, .ref q2, .ref q3, .int 0], nc_i q1 (G.2 0) 180 (fun _ => 0), nc_i q2 (G.2 0) 180 (fun _ => 0), nc_i q3 (G.2 0) 180 (fun _ => 0)] H := hP
  have hD : va_D A [nc_o h0 1 [.ref q1, .ref q2, .ref q3, .int 0], nc_i q1 (G.2 0) 180 (fun _ => 0), nc_i q2 (G.2 0) 180 (fun _ => 0), nc_i q3 (G.2 0) 180 (fun _ => 0)] := hD
  refine lv_aload_n hx hb d_Co_init_31 rfl (lv_at hl 0 rfl) ?_
  refine lv_iconst (v := 0) hx hb d_Co_init_32 (by decide) ?_
  refine va_put (D := G.1) (ci := 1) (v := .int 0) (ty := .int) (C := R_Co) (T := T_Co) (N := 4) hx hb hg in_Co t_Co ok_Co nm_Co hown hK hP hD hS 0 rfl rfl 3 (by decide) (hg _ mw_209) (fun _ h9 => h9) rfl (by decide +kernel) rfl rfl (Nat.le_of_ble_eq_true rfl) d_Co_init_33 (fun H locs hP hD hS => ?_)
  have hP : va_P G.1 nn_cls [nc_o h0 1 [.ref q1, .ref q2, .ref q3, .int 0], nc_i q1 (G.2 0) 180 (fun _ => 0), nc_i q2 (G.2 0) 180 (fun _ => 0), nc_i q3 (G.2 0) 180 (fun _ => 0)] H := hP
  have hD : va_D A [nc_o h0 1 [.ref q1, .ref q2, .ref q3, .int 0], nc_i q1 (G.2 0) 180 (fun _ => 0), nc_i q2 (G.2 0) 180 (fun _ => 0), nc_i q3 (G.2 0) 180 (fun _ => 0)] := hD
  refine W.widen (k := 3) (n := 540) (Nat.le_of_ble_eq_true rfl) (Nat.le_of_ble_eq_true rfl) ?_
  have hP9 := hP.sub (ws' := [nc_o h0 1 [.ref q1, .ref q2, .ref q3, .int 0], nc_i q1 (G.2 0) 180 (fun _ => 0), nc_i q2 (G.2 0) 180 (fun _ => 0), nc_i q3 (G.2 0) 180 (fun _ => 0)]) [0, 1, 2, 3] rfl
  have hD9 := hD.sub (ws' := [nc_o h0 1 [.ref q1, .ref q2, .ref q3, .int 0], nc_i q1 (G.2 0) 180 (fun _ => 0), nc_i q2 (G.2 0) 180 (fun _ => 0), nc_i q3 (G.2 0) 180 (fun _ => 0)]) [0, 1, 2, 3] (by decide) rfl
  exact W.vret hx hb hr (fun t ht hW => ⟨⟨(q1, q2, q3), rfl, trivial, ⟨by rw [ht]; exact hP9, hD9⟩⟩, hS.F ht⟩) hS.2.2 d_Co_init_36

theorem mw_128 : (.methodLink R_Ts 3 ⟨"java/lang/Object", "<init>", "()V"⟩ : Cond) ∈ nn_gw := nn_at 128 (by decide +kernel) (by decide +kernel)
theorem mw_129 : (.classLink R_Ts 11 R_To : Cond) ∈ nn_gw := nn_at 129 (by decide +kernel) (by decide +kernel)
theorem d_Ts_init_0 : decode b_Ts_init 0 = .ok (.aload_n 0, 1) := by decide +kernel
theorem d_Ts_init_1 : decode b_Ts_init 1 = .ok (.invokespecial 3, 3) := by decide +kernel
theorem d_Ts_init_4 : decode b_Ts_init 4 = .ok (.aload_n 0, 1) := by decide +kernel
theorem d_Ts_init_5 : decode b_Ts_init 5 = .ok (.sipush 181, 3) := by decide +kernel
theorem d_Ts_init_8 : decode b_Ts_init 8 = .ok (.anewarray 11, 3) := by decide +kernel
theorem d_Ts_init_11 : decode b_Ts_init 11 = .ok (.putfield 13, 3) := by decide +kernel
theorem d_Ts_init_14 : decode b_Ts_init 14 = .ok (.aload_n 0, 1) := by decide +kernel
theorem d_Ts_init_15 : decode b_Ts_init 15 = .ok (.sipush 181, 3) := by decide +kernel
theorem d_Ts_init_18 : decode b_Ts_init 18 = .ok (.newarray .int, 2) := by decide +kernel
theorem d_Ts_init_20 : decode b_Ts_init 20 = .ok (.putfield 17, 3) := by decide +kernel
theorem d_Ts_init_23 : decode b_Ts_init 23 = .ok (.aload_n 0, 1) := by decide +kernel
theorem d_Ts_init_24 : decode b_Ts_init 24 = .ok (.sipush 181, 3) := by decide +kernel
theorem d_Ts_init_27 : decode b_Ts_init 27 = .ok (.newarray .int, 2) := by decide +kernel
theorem d_Ts_init_29 : decode b_Ts_init 29 = .ok (.putfield 21, 3) := by decide +kernel
theorem d_Ts_init_32 : decode b_Ts_init 32 = .ok (.aload_n 0, 1) := by decide +kernel
theorem d_Ts_init_33 : decode b_Ts_init 33 = .ok (.iconst 0, 1) := by decide +kernel
theorem d_Ts_init_34 : decode b_Ts_init 34 = .ok (.putfield 24, 3) := by decide +kernel
theorem d_Ts_init_37 : decode b_Ts_init 37 = .ok (.aload_n 0, 1) := by decide +kernel
theorem d_Ts_init_38 : decode b_Ts_init 38 = .ok (.iconst 0, 1) := by decide +kernel
theorem d_Ts_init_39 : decode b_Ts_init 39 = .ok (.putfield 28, 3) := by decide +kernel
theorem d_Ts_init_42 : decode b_Ts_init 42 = .ok (.return_, 1) := by decide +kernel

set_option maxHeartbeats 4000000 in
set_option maxRecDepth 100000 in
theorem i_Ts (l : Launch) (G : nn_G) (sz : Nat) (h0 : Nat) : Met l y_Ts_init w_Ts_init ({ frames := 1, cells := 3, slots := 543, locals := 12 }) (nn_P G [.ref h0] [nc_o h0 6 [.null, .null, .null, .int 0, .int 0]] sz) (va_Qv (fun u : Nat × Nat × Nat => True) (fun u t => va_P G.1 nn_cls [nc_o h0 6 [.ref u.1, .ref u.2.1, .ref u.2.2, .int 0, .int 0], nc_q u.1 (G.2 3) 181 (fun _ => none), nc_i u.2.1 (G.2 0) 181 (fun _ => 0), nc_i u.2.2 (G.2 0) 181 (fun _ => 0)] t.heap ∧ va_D (va_A [nc_o h0 6 [.null, .null, .null, .int 0, .int 0]] sz) [nc_o h0 6 [.ref u.1, .ref u.2.1, .ref u.2.2, .int 0, .int 0], nc_q u.1 (G.2 3) 181 (fun _ => none), nc_i u.2.1 (G.2 0) 181 (fun _ => 0), nc_i u.2.2 (G.2 0) 181 (fun _ => 0)]) (va_A [nc_o h0 6 [.null, .null, .null, .int 0, .int 0]] sz)) 3 543 (va_A [nc_o h0 6 [.null, .null, .null, .int 0, .int 0]] sz) := by
  refine Met.ofW (cc := b_Ts_init) (maxL := 1) (ret := none) (by decide) rfl ?_
  intro p e s m args below meth c s₁ B hml hv
  obtain ⟨rfl, hsz, hP, hK, hD0, hN⟩ := hv
  have hx := B.exec
  have hb := B.bytes
  have hr := B.returns
  have hts := atoms_spec (ws := w_Ts_init) B.pre
  have hg : ∀ w ∈ nn_gw, w.before _ s = true := fun w h => hts w (List.mem_cons_of_mem _ h)
  have hown : s.vm.findClass R_Ts = some m.cls := findClass_of_methodNamed B.named
  have hlocks := B.notSynchronized
  have hin : meth.name = "<init>" := (name_of_methodNamed B.named B.method).1
  subst hsz
  have hD := hD0.self (sz := s.heap.size)
  generalize hAe : va_A [nc_o h0 6 [.null, .null, .null, .int 0, .int 0]] s.heap.size = A at hD ⊢
  have hA : ∀ q : Nat, s.heap.size ≤ q → A q := fun q h => by rw [← hAe]; exact Or.inr h
  have hS : va_S A s.heap s.heap [] := va_S.rf
  have hP : va_P G.1 nn_cls [nc_o h0 6 [.null, .null, .null, .int 0, .int 0]] s.heap := hP
  have hl := lv_entry ([.ref h0]) (n := 1) (Nat.le_of_ble_eq_true rfl)
  rw [lg_entry_eq]
  generalize (lg_sl ([.ref h0]) ++ List.replicate (1 - (lg_sl ([.ref h0])).length) Slot.unset).toArray = ls at hl ⊢
  have hl : lv_has ls 1 [(0, .ref h0)] := hl
  refine lv_aload_n hx hb d_Ts_init_0 rfl (lv_at hl 0 rfl) ?_
  refine W.objInit hx hb hown (hg _ mw_128) (hg _ mw_115) (hg _ nn_oc) rfl (by rw [hml]; exact hl.1) rfl d_Ts_init_1 (Nat.le_of_ble_eq_true rfl) (Nat.le_of_ble_eq_true rfl) ?_
  refine W.eq (g2 := F0 m 4 ls []) rfl ?_
  refine lv_aload_n hx hb d_Ts_init_4 rfl (lv_at hl 0 rfl) ?_
  refine lv_sipush (v := 181) hx hb d_Ts_init_5 (by decide) ?_
  refine nb_newq (N' := 181) (C := "NestPascal$Token") (cA := G.2 3) hx hb hown (hg _ mw_129) (hN _ (by decide)) hK hP hD hS hA 3 rfl (by decide) (by decide) (by decide) (Nat.le_of_ble_eq_true rfl) (Nat.le_of_ble_eq_true rfl) d_Ts_init_8 (fun q1 H hP hD hS => ?_)
  have hP : va_P G.1 nn_cls [nc_o h0 6 [.null, .null, .null, .int 0, .int 0], nc_q q1 (G.2 3) 181 (fun _ => none)] H := hP
  have hD : va_D A [nc_o h0 6 [.null, .null, .null, .int 0, .int 0], nc_q q1 (G.2 3) 181 (fun _ => none)] := hD
  refine W.widen (k := 1) (n := 181) (Nat.le_of_ble_eq_true rfl) (Nat.le_of_ble_eq_true rfl) ?_
  refine va_putF (D := G.1) (ci := 6) (v := .ref q1) (ty := .array (.object "NestPascal$Token")) (C := R_Ts) (T := T_Ts) (N := 5) hx hb hg in_Ts t_Ts ok_Ts nm_Ts hown hK hP hD hS 0 rfl rfl 0 (by decide) (hg _ mw_131) (fun _ h9 => h9) rfl hin rfl (by decide +kernel) rfl rfl (Nat.le_of_ble_eq_true rfl) d_Ts_init_11 (fun H locs hP hD hS => ?_)
  have hP : va_P G.1 nn_cls [nc_o h0 6 [.ref q1, .null, .null, .int 0, .int 0], nc_q q1 (G.2 3) 181 (fun _ => none)] H := hP
  have hD : va_D A [nc_o h0 6 [.ref q1, .null, .null, .int 0, .int 0], nc_q q1 (G.2 3) 181 (fun _ => none)] := hD
  refine lv_aload_n hx hb d_Ts_init_14 rfl (lv_at hl 0 rfl) ?_
  refine lv_sipush (v := 181) hx hb d_Ts_init_15 (by decide) ?_
  refine nb_newa (atype := .int) (a0 := (181, .inl (fun _ => 0))) (N' := 181) (ty := .int) (cA := G.2 0) hx hb (hg _ mw_148) rfl hK hP hD hS hA 0 rfl (fun _ => rfl) (by decide) (by decide) (by decide) (Nat.le_of_ble_eq_true rfl) (Nat.le_of_ble_eq_true rfl) d_Ts_init_18 (fun q2 H hP hD hS => ?_)
  have hP : va_P G.1 nn_cls [nc_o h0 6 [.ref q1, .null, .null, .int 0, .int 0], nc_q q1 (G.2 3) 181 (fun _ => none), nc_i q2 (G.2 0) 181 (fun _ => 0)] H := hP
  have hD : va_D A [nc_o h0 6 [.ref q1, .null, .null, .int 0, .int 0], nc_q q1 (G.2 3) 181 (fun _ => none), nc_i q2 (G.2 0) 181 (fun _ => 0)] := hD
  refine W.widen (k := 2) (n := 362) (Nat.le_of_ble_eq_true rfl) (Nat.le_of_ble_eq_true rfl) ?_
  refine va_putF (D := G.1) (ci := 6) (v := .ref q2) (ty := .array .int) (C := R_Ts) (T := T_Ts) (N := 5) hx hb hg in_Ts t_Ts ok_Ts nm_Ts hown hK hP hD hS 0 rfl rfl 1 (by decide) (hg _ mw_132) (fun _ h9 => h9) rfl hin rfl (by decide +kernel) rfl rfl (Nat.le_of_ble_eq_true rfl) d_Ts_init_20 (fun H locs hP hD hS => ?_)
  have hP : va_P G.1 nn_cls [nc_o h0 6 [.ref q1, .ref q2, .null, .int 0, .int 0], nc_q q1 (G.2 3) 181 (fun _ => none), nc_i q2 (G.2 0) 181 (fun _ => 0)] H := hP
  have hD : va_D A [nc_o h0 6 [.ref q1, .ref q2, .null, .int 0, .int 0], nc_q q1 (G.2 3) 181 (fun _ => none), nc_i q2 (G.2 0) 181 (fun _ => 0)] := hD
  refine lv_aload_n hx hb d_Ts_init_23 rfl (lv_at hl 0 rfl) ?_
  refine lv_sipush (v := 181) hx hb d_Ts_init_24 (by decide) ?_
  refine nb_newa (atype := .int) (a0 := (181, .inl (fun _ => 0))) (N' := 181) (ty := .int) (cA := G.2 0) hx hb (hg _ mw_148) rfl hK hP hD hS hA 0 rfl (fun _ => rfl) (by decide) (by decide) (by decide) (Nat.le_of_ble_eq_true rfl) (Nat.le_of_ble_eq_true rfl) d_Ts_init_27 (fun q3 H hP hD hS => ?_)
  have hP : va_P G.1 nn_cls [nc_o h0 6 [.ref q1, .ref q2, .null, .int 0, .int 0], nc_q q1 (G.2 3) 181 (fun _ => none), nc_i q2 (G.2 0) 181 (fun _ => 0), nc_i q3 (G.2 0) 181 (fun _ => 0)] H := hP
  have hD : va_D A [nc_o h0 6 [.ref q1, .ref q2, .null, .int 0, .int 0], nc_q q1 (G.2 3) 181 (fun _ => none), nc_i q2 (G.2 0) 181 (fun _ => 0), nc_i q3 (G.2 0) 181 (fun _ => 0)] := hD
  refine W.widen (k := 3) (n := 543) (Nat.le_of_ble_eq_true rfl) (Nat.le_of_ble_eq_true rfl) ?_
  refine va_putF (D := G.1) (ci := 6) (v := .ref q3) (ty := .array .int) (C := R_Ts) (T := T_Ts) (N := 5) hx hb hg in_Ts t_Ts ok_Ts nm_Ts hown hK hP hD hS 0 rfl rfl 2 (by decide) (hg _ mw_133) (fun _ h9 => h9) rfl hin rfl (by decide +kernel) rfl rfl (Nat.le_of_ble_eq_true rfl) d_Ts_init_29 (fun H locs hP hD hS => ?_)
  have hP : va_P G.1 nn_cls [nc_o h0 6 [.ref q1, .ref q2, .ref q3, .int 0, .int 0], nc_q q1 (G.2 3) 181 (fun _ => none), nc_i q2 (G.2 0) 181 (fun _ => 0), nc_i q3 (G.2 0) 181 (fun _ => 0)] H := hP
  have hD : va_D A [nc_o h0 6 [.ref q1, .ref q2, .ref q3, .int 0, .int 0], nc_q q1 (G.2 3) 181 (fun _ => none), nc_i q2 (G.2 0) 181 (fun _ => 0), nc_i q3 (G.2 0) 181 (fun _ => 0)] := hD
  refine lv_aload_n hx hb d_Ts_init_32 rfl (lv_at hl 0 rfl) ?_
  refine lv_iconst (v := 0) hx hb d_Ts_init_33 (by decide) ?_
  refine va_put (D := G.1) (ci := 6) (v := .int 0) (ty := .int) (C := R_Ts) (T := T_Ts) (N := 5) hx hb hg in_Ts t_Ts ok_Ts nm_Ts hown hK hP hD hS 0 rfl rfl 3 (by decide) (hg _ mw_134) (fun _ h9 => h9) rfl (by decide +kernel) rfl rfl (Nat.le_of_ble_eq_true rfl) d_Ts_init_34 (fun H locs hP hD hS => ?_)
  have hP : va_P G.1 nn_cls [nc_o h0 6 [.ref q1, .ref q2, .ref q3, .int 0, .int 0], nc_q q1 (G.2 3) 181 (fun _ => none), nc_i q2 (G.2 0) 181 (fun _ => 0), nc_i q3 (G.2 0) 181 (fun _ => 0)] H := hP
  have hD : va_D A [nc_o h0 6 [.ref q1, .ref q2, .ref q3, .int 0, .int 0], nc_q q1 (G.2 3) 181 (fun _ => none), nc_i q2 (G.2 0) 181 (fun _ => 0), nc_i q3 (G.2 0) 181 (fun _ => 0)] := hD
  refine lv_aload_n hx hb d_Ts_init_37 rfl (lv_at hl 0 rfl) ?_
  refine lv_iconst (v := 0) hx hb d_Ts_init_38 (by decide) ?_
  refine va_put (D := G.1) (ci := 6) (v := .int 0) (ty := .int) (C := R_Ts) (T := T_Ts) (N := 5) hx hb hg in_Ts t_Ts ok_Ts nm_Ts hown hK hP hD hS 0 rfl rfl 4 (by decide) (hg _ mw_135) (fun _ h9 => h9) rfl (by decide +kernel) rfl rfl (Nat.le_of_ble_eq_true rfl) d_Ts_init_39 (fun H locs hP hD hS => ?_)
  have hP : va_P G.1 nn_cls [nc_o h0 6 [.ref q1, .ref q2, .ref q3, .int 0, .int 0], nc_q q1 (G.2 3) 181 (fun _ => none), nc_i q2 (G.2 0) 181 (fun _ => 0), nc_i q3 (G.2 0) 181 (fun _ => 0)] H := hP
  have hD : va_D A [nc_o h0 6 [.ref q1, .ref q2, .ref q3, .int 0, .int 0], nc_q q1 (G.2 3) 181 (fun _ => none), nc_i q2 (G.2 0) 181 (fun _ => 0), nc_i q3 (G.2 0) 181 (fun _ => 0)] := hD
  refine W.widen (k := 3) (n := 543) (Nat.le_of_ble_eq_true rfl) (Nat.le_of_ble_eq_true rfl) ?_
  have hP9 := hP.sub (ws' := [nc_o h0 6 [.ref q1, .ref q2, .ref q3, .int 0, .int 0], nc_q q1 (G.2 3) 181 (fun _ => none), nc_i q2 (G.2 0) 181 (fun _ => 0), nc_i q3 (G.2 0) 181 (fun _ => 0)]) [0, 1, 2, 3] rfl
  have hD9 := hD.sub (ws' := [nc_o h0 6 [.ref q1, .ref q2, .ref q3, .int 0, .int 0], nc_q q1 (G.2 3) 181 (fun _ => none), nc_i q2 (G.2 0) 181 (fun _ => 0), nc_i q3 (G.2 0) 181 (fun _ => 0)]) [0, 1, 2, 3] (by decide) rfl
  exact W.vret hx hb hr (fun t ht hW => ⟨⟨(q1, q2, q3), rfl, trivial, ⟨by rw [ht]; exact hP9, hD9⟩⟩, hS.F ht⟩) hS.2.2 d_Ts_init_42

theorem mw_161 : (.methodLink R_Nm 1 ⟨"java/lang/Object", "<init>", "()V"⟩ : Cond) ∈ nn_gw := nn_at 161 (by decide +kernel) (by decide +kernel)
theorem mw_162 : (.fieldLink R_Nm 7 R_Nm "id" "I" : Cond) ∈ nn_gw := nn_at 162 (by decide +kernel) (by decide +kernel)
theorem mw_164 : (.fieldLink R_Nm 13 R_Nm "kind" "I" : Cond) ∈ nn_gw := nn_at 164 (by decide +kernel) (by decide +kernel)
theorem mw_167 : (.fieldLink R_Nm 16 R_Nm "level" "I" : Cond) ∈ nn_gw := nn_at 167 (by decide +kernel) (by decide +kernel)
theorem mw_170 : (.fieldLink R_Nm 19 R_Nm "place" "I" : Cond) ∈ nn_gw := nn_at 170 (by decide +kernel) (by decide +kernel)
theorem mw_173 : (.fieldLink R_Nm 22 R_Nm "size" "I" : Cond) ∈ nn_gw := nn_at 173 (by decide +kernel) (by decide +kernel)
theorem d_Nm_init_0 : decode b_Nm_init 0 = .ok (.aload_n 0, 1) := by decide +kernel
theorem d_Nm_init_1 : decode b_Nm_init 1 = .ok (.invokespecial 1, 3) := by decide +kernel
theorem d_Nm_init_4 : decode b_Nm_init 4 = .ok (.aload_n 0, 1) := by decide +kernel
theorem d_Nm_init_5 : decode b_Nm_init 5 = .ok (.iconst 0, 1) := by decide +kernel
theorem d_Nm_init_6 : decode b_Nm_init 6 = .ok (.putfield 7, 3) := by decide +kernel
theorem d_Nm_init_9 : decode b_Nm_init 9 = .ok (.aload_n 0, 1) := by decide +kernel
theorem d_Nm_init_10 : decode b_Nm_init 10 = .ok (.iconst 0, 1) := by decide +kernel
theorem d_Nm_init_11 : decode b_Nm_init 11 = .ok (.putfield 13, 3) := by decide +kernel
theorem d_Nm_init_14 : decode b_Nm_init 14 = .ok (.aload_n 0, 1) := by decide +kernel
theorem d_Nm_init_15 : decode b_Nm_init 15 = .ok (.iconst 0, 1) := by decide +kernel
theorem d_Nm_init_16 : decode b_Nm_init 16 = .ok (.putfield 16, 3) := by decide +kernel
theorem d_Nm_init_19 : decode b_Nm_init 19 = .ok (.aload_n 0, 1) := by decide +kernel
theorem d_Nm_init_20 : decode b_Nm_init 20 = .ok (.iconst 0, 1) := by decide +kernel
theorem d_Nm_init_21 : decode b_Nm_init 21 = .ok (.putfield 19, 3) := by decide +kernel
theorem d_Nm_init_24 : decode b_Nm_init 24 = .ok (.aload_n 0, 1) := by decide +kernel
theorem d_Nm_init_25 : decode b_Nm_init 25 = .ok (.iconst 0, 1) := by decide +kernel
theorem d_Nm_init_26 : decode b_Nm_init 26 = .ok (.putfield 22, 3) := by decide +kernel
theorem d_Nm_init_29 : decode b_Nm_init 29 = .ok (.return_, 1) := by decide +kernel

set_option maxHeartbeats 4000000 in
set_option maxRecDepth 100000 in
theorem i_Nm (l : Launch) (G : nn_G) (sz : Nat) (h0 : Nat) : Met l y_Nm_init w_Nm_init ({ frames := 1, cells := 0, slots := 0, locals := 12 }) (nn_P G [.ref h0] [nc_o h0 4 [.int 0, .int 0, .int 0, .int 0, .int 0]] sz) (va_Qv (fun u : Unit => True) (fun u t => va_P G.1 nn_cls [nc_o h0 4 [.int 0, .int 0, .int 0, .int 0, .int 0]] t.heap ∧ va_D (va_A [nc_o h0 4 [.int 0, .int 0, .int 0, .int 0, .int 0]] sz) [nc_o h0 4 [.int 0, .int 0, .int 0, .int 0, .int 0]]) (va_A [nc_o h0 4 [.int 0, .int 0, .int 0, .int 0, .int 0]] sz)) 0 0 (va_A [nc_o h0 4 [.int 0, .int 0, .int 0, .int 0, .int 0]] sz) := by
  refine Met.ofW (cc := b_Nm_init) (maxL := 1) (ret := none) (by decide) rfl ?_
  intro p e s m args below meth c s₁ B hml hv
  obtain ⟨rfl, hsz, hP, hK, hD0, hN⟩ := hv
  have hx := B.exec
  have hb := B.bytes
  have hr := B.returns
  have hts := atoms_spec (ws := w_Nm_init) B.pre
  have hg : ∀ w ∈ nn_gw, w.before _ s = true := fun w h => hts w (List.mem_cons_of_mem _ h)
  have hown : s.vm.findClass R_Nm = some m.cls := findClass_of_methodNamed B.named
  have hlocks := B.notSynchronized
  have hin : meth.name = "<init>" := (name_of_methodNamed B.named B.method).1
  subst hsz
  have hD := hD0.self (sz := s.heap.size)
  generalize hAe : va_A [nc_o h0 4 [.int 0, .int 0, .int 0, .int 0, .int 0]] s.heap.size = A at hD ⊢
  have hA : ∀ q : Nat, s.heap.size ≤ q → A q := fun q h => by rw [← hAe]; exact Or.inr h
  have hS : va_S A s.heap s.heap [] := va_S.rf
  have hP : va_P G.1 nn_cls [nc_o h0 4 [.int 0, .int 0, .int 0, .int 0, .int 0]] s.heap := hP
  have hl := lv_entry ([.ref h0]) (n := 1) (Nat.le_of_ble_eq_true rfl)
  rw [lg_entry_eq]
  generalize (lg_sl ([.ref h0]) ++ List.replicate (1 - (lg_sl ([.ref h0])).length) Slot.unset).toArray = ls at hl ⊢
  have hl : lv_has ls 1 [(0, .ref h0)] := hl
  refine lv_aload_n hx hb d_Nm_init_0 rfl (lv_at hl 0 rfl) ?_
  refine W.objInit hx hb hown (hg _ mw_161) (hg _ mw_115) (hg _ nn_oc) rfl (by rw [hml]; exact hl.1) rfl d_Nm_init_1 (Nat.le_of_ble_eq_true rfl) (Nat.le_of_ble_eq_true rfl) ?_
  refine W.eq (g2 := F0 m 4 ls []) rfl ?_
  refine lv_aload_n hx hb d_Nm_init_4 rfl (lv_at hl 0 rfl) ?_
  refine lv_iconst (v := 0) hx hb d_Nm_init_5 (by decide) ?_
  refine va_put (D := G.1) (ci := 4) (v := .int 0) (ty := .int) (C := R_Nm) (T := T_Nm) (N := 5) hx hb hg in_Nm t_Nm ok_Nm nm_Nm hown hK hP hD hS 0 rfl rfl 0 (by decide) (hg _ mw_162) (fun _ h9 => h9) rfl (by decide +kernel) rfl rfl (Nat.le_of_ble_eq_true rfl) d_Nm_init_6 (fun H locs hP hD hS => ?_)
  have hP : va_P G.1 nn_cls [nc_o h0 4 [.int 0, .int 0, .int 0, .int 0, .int 0]] H := hP
  have hD : va_D A [nc_o h0 4 [.int 0, .int 0, .int 0, .int 0, .int 0]] := hD
  refine lv_aload_n hx hb d_Nm_init_9 rfl (lv_at hl 0 rfl) ?_
  refine lv_iconst (v := 0) hx hb d_Nm_init_10 (by decide) ?_
  refine va_put (D := G.1) (ci := 4) (v := .int 0) (ty := .int) (C := R_Nm) (T := T_Nm) (N := 5) hx hb hg in_Nm t_Nm ok_Nm nm_Nm hown hK hP hD hS 0 rfl rfl 1 (by decide) (hg _ mw_164) (fun _ h9 => h9) rfl (by decide +kernel) rfl rfl (Nat.le_of_ble_eq_true rfl) d_Nm_init_11 (fun H locs hP hD hS => ?_)
  have hP : va_P G.1 nn_cls [nc_o h0 4 [.int 0, .int 0, .int 0, .int 0, .int 0]] H := hP
  have hD : va_D A [nc_o h0 4 [.int 0, .int 0, .int 0, .int 0, .int 0]] := hD
  refine lv_aload_n hx hb d_Nm_init_14 rfl (lv_at hl 0 rfl) ?_
  refine lv_iconst (v := 0) hx hb d_Nm_init_15 (by decide) ?_
  refine va_put (D := G.1) (ci := 4) (v := .int 0) (ty := .int) (C := R_Nm) (T := T_Nm) (N := 5) hx hb hg in_Nm t_Nm ok_Nm nm_Nm hown hK hP hD hS 0 rfl rfl 2 (by decide) (hg _ mw_167) (fun _ h9 => h9) rfl (by decide +kernel) rfl rfl (Nat.le_of_ble_eq_true rfl) d_Nm_init_16 (fun H locs hP hD hS => ?_)
  have hP : va_P G.1 nn_cls [nc_o h0 4 [.int 0, .int 0, .int 0, .int 0, .int 0]] H := hP
  have hD : va_D A [nc_o h0 4 [.int 0, .int 0, .int 0, .int 0, .int 0]] := hD
  refine lv_aload_n hx hb d_Nm_init_19 rfl (lv_at hl 0 rfl) ?_
  refine lv_iconst (v := 0) hx hb d_Nm_init_20 (by decide) ?_
  refine va_put (D := G.1) (ci := 4) (v := .int 0) (ty := .int) (C := R_Nm) (T := T_Nm) (N := 5) hx hb hg in_Nm t_Nm ok_Nm nm_Nm hown hK hP hD hS 0 rfl rfl 3 (by decide) (hg _ mw_170) (fun _ h9 => h9) rfl (by decide +kernel) rfl rfl (Nat.le_of_ble_eq_true rfl) d_Nm_init_21 (fun H locs hP hD hS => ?_)
  have hP : va_P G.1 nn_cls [nc_o h0 4 [.int 0, .int 0, .int 0, .int 0, .int 0]] H := hP
  have hD : va_D A [nc_o h0 4 [.int 0, .int 0, .int 0, .int 0, .int 0]] := hD
  refine lv_aload_n hx hb d_Nm_init_24 rfl (lv_at hl 0 rfl) ?_
  refine lv_iconst (v := 0) hx hb d_Nm_init_25 (by decide) ?_
  refine va_put (D := G.1) (ci := 4) (v := .int 0) (ty := .int) (C := R_Nm) (T := T_Nm) (N := 5) hx hb hg in_Nm t_Nm ok_Nm nm_Nm hown hK hP hD hS 0 rfl rfl 4 (by decide) (hg _ mw_173) (fun _ h9 => h9) rfl (by decide +kernel) rfl rfl (Nat.le_of_ble_eq_true rfl) d_Nm_init_26 (fun H locs hP hD hS => ?_)
  have hP : va_P G.1 nn_cls [nc_o h0 4 [.int 0, .int 0, .int 0, .int 0, .int 0]] H := hP
  have hD : va_D A [nc_o h0 4 [.int 0, .int 0, .int 0, .int 0, .int 0]] := hD
  refine W.widen (k := 0) (n := 0) (Nat.le_of_ble_eq_true rfl) (Nat.le_of_ble_eq_true rfl) ?_
  have hP9 := hP.sub (ws' := [nc_o h0 4 [.int 0, .int 0, .int 0, .int 0, .int 0]]) [0] rfl
  have hD9 := hD.sub (ws' := [nc_o h0 4 [.int 0, .int 0, .int 0, .int 0, .int 0]]) [0] (by decide) rfl
  exact W.vret hx hb hr (fun t ht hW => ⟨⟨(), rfl, trivial, ⟨by rw [ht]; exact hP9, hD9⟩⟩, hS.F ht⟩) hS.2.2 d_Nm_init_29

theorem mw_245 : (.methodLink R_Ma 3 ⟨"java/lang/Object", "<init>", "()V"⟩ : Cond) ∈ nn_gw := nn_at 245 (by decide +kernel) (by decide +kernel)
theorem d_Ma_init_0 : decode b_Ma_init 0 = .ok (.aload_n 0, 1) := by decide +kernel
theorem d_Ma_init_1 : decode b_Ma_init 1 = .ok (.invokespecial 3, 3) := by decide +kernel
theorem d_Ma_init_4 : decode b_Ma_init 4 = .ok (.aload_n 0, 1) := by decide +kernel
theorem d_Ma_init_5 : decode b_Ma_init 5 = .ok (.sipush 200, 3) := by decide +kernel
theorem d_Ma_init_8 : decode b_Ma_init 8 = .ok (.newarray .int, 2) := by decide +kernel
theorem d_Ma_init_10 : decode b_Ma_init 10 = .ok (.putfield 11, 3) := by decide +kernel
theorem d_Ma_init_13 : decode b_Ma_init 13 = .ok (.aload_n 0, 1) := by decide +kernel
theorem d_Ma_init_14 : decode b_Ma_init 14 = .ok (.bipush 8, 2) := by decide +kernel
theorem d_Ma_init_16 : decode b_Ma_init 16 = .ok (.newarray .int, 2) := by decide +kernel
theorem d_Ma_init_18 : decode b_Ma_init 18 = .ok (.putfield 15, 3) := by decide +kernel
theorem d_Ma_init_21 : decode b_Ma_init 21 = .ok (.aload_n 0, 1) := by decide +kernel
theorem d_Ma_init_22 : decode b_Ma_init 22 = .ok (.iconst 0, 1) := by decide +kernel
theorem d_Ma_init_23 : decode b_Ma_init 23 = .ok (.putfield 18, 3) := by decide +kernel
theorem d_Ma_init_26 : decode b_Ma_init 26 = .ok (.aload_n 0, 1) := by decide +kernel
theorem d_Ma_init_27 : decode b_Ma_init 27 = .ok (.iconst 0, 1) := by decide +kernel
theorem d_Ma_init_28 : decode b_Ma_init 28 = .ok (.putfield 22, 3) := by decide +kernel
theorem d_Ma_init_31 : decode b_Ma_init 31 = .ok (.aload_n 0, 1) := by decide +kernel
theorem d_Ma_init_32 : decode b_Ma_init 32 = .ok (.iconst 0, 1) := by decide +kernel
theorem d_Ma_init_33 : decode b_Ma_init 33 = .ok (.putfield 25, 3) := by decide +kernel
theorem d_Ma_init_36 : decode b_Ma_init 36 = .ok (.aload_n 0, 1) := by decide +kernel
theorem d_Ma_init_37 : decode b_Ma_init 37 = .ok (.iconst (-1), 1) := by decide +kernel
theorem d_Ma_init_38 : decode b_Ma_init 38 = .ok (.putfield 28, 3) := by decide +kernel
theorem d_Ma_init_41 : decode b_Ma_init 41 = .ok (.aload_n 0, 1) := by decide +kernel
theorem d_Ma_init_42 : decode b_Ma_init 42 = .ok (.iconst 0, 1) := by decide +kernel
theorem d_Ma_init_43 : decode b_Ma_init 43 = .ok (.putfield 31, 3) := by decide +kernel
theorem d_Ma_init_46 : decode b_Ma_init 46 = .ok (.aload_n 0, 1) := by decide +kernel
theorem d_Ma_init_47 : decode b_Ma_init 47 = .ok (.iconst 0, 1) := by decide +kernel
theorem d_Ma_init_48 : decode b_Ma_init 48 = .ok (.putfield 34, 3) := by decide +kernel
theorem d_Ma_init_51 : decode b_Ma_init 51 = .ok (.return_, 1) := by decide +kernel

set_option maxHeartbeats 4000000 in
set_option maxRecDepth 100000 in
theorem i_Ma (l : Launch) (G : nn_G) (sz : Nat) (h0 : Nat) : Met l y_Ma_init w_Ma_init ({ frames := 1, cells := 2, slots := 208, locals := 12 }) (nn_P G [.ref h0] [nc_o h0 3 [.null, .null, .int 0, .int 0, .int 0, .int 0, .int 0, .int 0]] sz) (va_Qv (fun u : Nat × Nat => True) (fun u t => va_P G.1 nn_cls [nc_o h0 3 [.ref u.1, .ref u.2, .int 0, .int 0, .int 0, .int (-1), .int 0, .int 0], nc_i u.1 (G.2 0) 200 (fun _ => 0), nc_i u.2 (G.2 0) 8 (fun _ => 0)] t.heap ∧ va_D (va_A [nc_o h0 3 [.null, .null, .int 0, .int 0, .int 0, .int 0, .int 0, .int 0]] sz) [nc_o h0 3 [.ref u.1, .ref u.2, .int 0, .int 0, .int 0, .int (-1), .int 0, .int 0], nc_i u.1 (G.2 0) 200 (fun _ => 0), nc_i u.2 (G.2 0) 8 (fun _ => 0)]) (va_A [nc_o h0 3 [.null, .null, .int 0, .int 0, .int 0, .int 0, .int 0, .int 0]] sz)) 2 208 (va_A [nc_o h0 3 [.null, .null, .int 0, .int 0, .int 0, .int 0, .int 0, .int 0]] sz) := by
  refine Met.ofW (cc := b_Ma_init) (maxL := 1) (ret := none) (by decide) rfl ?_
  intro p e s m args below meth c s₁ B hml hv
  obtain ⟨rfl, hsz, hP, hK, hD0, hN⟩ := hv
  have hx := B.exec
  have hb := B.bytes
  have hr := B.returns
  have hts := atoms_spec (ws := w_Ma_init) B.pre
  have hg : ∀ w ∈ nn_gw, w.before _ s = true := fun w h => hts w (List.mem_cons_of_mem _ h)
  have hown : s.vm.findClass R_Ma = some m.cls := findClass_of_methodNamed B.named
  have hlocks := B.notSynchronized
  have hin : meth.name = "<init>" := (name_of_methodNamed B.named B.method).1
  subst hsz
  have hD := hD0.self (sz := s.heap.size)
  generalize hAe : va_A [nc_o h0 3 [.null, .null, .int 0, .int 0, .int 0, .int 0, .int 0, .int 0]] s.heap.size = A at hD ⊢
  have hA : ∀ q : Nat, s.heap.size ≤ q → A q := fun q h => by rw [← hAe]; exact Or.inr h
  have hS : va_S A s.heap s.heap [] := va_S.rf
  have hP : va_P G.1 nn_cls [nc_o h0 3 [.null, .null, .int 0, .int 0, .int 0, .int 0, .int 0, .int 0]] s.heap := hP
  have hl := lv_entry ([.ref h0]) (n := 1) (Nat.le_of_ble_eq_true rfl)
  rw [lg_entry_eq]
  generalize (lg_sl ([.ref h0]) ++ List.replicate (1 - (lg_sl ([.ref h0])).length) Slot.unset).toArray = ls at hl ⊢
  have hl : lv_has ls 1 [(0, .ref h0)] := hl
  refine lv_aload_n hx hb d_Ma_init_0 rfl (lv_at hl 0 rfl) ?_
  refine W.objInit hx hb hown (hg _ mw_245) (hg _ mw_115) (hg _ nn_oc) rfl (by rw [hml]; exact hl.1) rfl d_Ma_init_1 (Nat.le_of_ble_eq_true rfl) (Nat.le_of_ble_eq_true rfl) ?_
  refine W.eq (g2 := F0 m 4 ls []) rfl ?_
  refine lv_aload_n hx hb d_Ma_init_4 rfl (lv_at hl 0 rfl) ?_
  refine lv_sipush (v := 200) hx hb d_Ma_init_5 (by decide) ?_
  refine nb_newa (atype := .int) (a0 := (200, .inl (fun _ => 0))) (N' := 200) (ty := .int) (cA := G.2 0) hx hb (hg _ mw_148) rfl hK hP hD hS hA 0 rfl (fun _ => rfl) (by decide) (by decide) (by decide) (Nat.le_of_ble_eq_true rfl) (Nat.le_of_ble_eq_true rfl) d_Ma_init_8 (fun q1 H hP hD hS => ?_)
  have hP : va_P G.1 nn_cls [nc_o h0 3 [.null, .null, .int 0, .int 0, .int 0, .int 0, .int 0, .int 0], nc_i q1 (G.2 0) 200 (fun _ => 0)] H := hP
  have hD : va_D A [nc_o h0 3 [.null, .null, .int 0, .int 0, .int 0, .int 0, .int 0, .int 0], nc_i q1 (G.2 0) 200 (fun _ => 0)] := hD
  refine W.widen (k := 1) (n := 200) (Nat.le_of_ble_eq_true rfl) (Nat.le_of_ble_eq_true rfl) ?_
  refine va_putF (D := G.1) (ci := 3) (v := .ref q1) (ty := .array .int) (C := R_Ma) (T := T_Ma) (N := 8) hx hb hg in_Ma t_Ma ok_Ma nm_Ma hown hK hP hD hS 0 rfl rfl 0 (by decide) (hg _ mw_246) (fun _ h9 => h9) rfl hin rfl (by decide +kernel) rfl rfl (Nat.le_of_ble_eq_true rfl) d_Ma_init_10 (fun H locs hP hD hS => ?_)
  have hP : va_P G.1 nn_cls [nc_o h0 3 [.ref q1, .null, .int 0, .int 0, .int 0, .int 0, .int 0, .int 0], nc_i q1 (G.2 0) 200 (fun _ => 0)] H := hP
  have hD : va_D A [nc_o h0 3 [.ref q1, .null, .int 0, .int 0, .int 0, .int 0, .int 0, .int 0], nc_i q1 (G.2 0) 200 (fun _ => 0)] := hD
  refine lv_aload_n hx hb d_Ma_init_13 rfl (lv_at hl 0 rfl) ?_
  refine lv_bipush (v := 8) hx hb d_Ma_init_14 (by decide) ?_
  refine nb_newa (atype := .int) (a0 := (8, .inl (fun _ => 0))) (N' := 8) (ty := .int) (cA := G.2 0) hx hb (hg _ mw_148) rfl hK hP hD hS hA 0 rfl (fun _ => rfl) (by decide) (by decide) (by decide) (Nat.le_of_ble_eq_true rfl) (Nat.le_of_ble_eq_true rfl) d_Ma_init_16 (fun q2 H hP hD hS => ?_)
  have hP : va_P G.1 nn_cls [nc_o h0 3 [.ref q1, .null, .int 0, .int 0, .int 0, .int 0, .int 0, .int 0], nc_i q1 (G.2 0) 200 (fun _ => 0), nc_i q2 (G.2 0) 8 (fun _ => 0)] H := hP
  have hD : va_D A [nc_o h0 3 [.ref q1, .null, .int 0, .int 0, .int 0, .int 0, .int 0, .int 0], nc_i q1 (G.2 0) 200 (fun _ => 0), nc_i q2 (G.2 0) 8 (fun _ => 0)] := hD
  refine W.widen (k := 2) (n := 208) (Nat.le_of_ble_eq_true rfl) (Nat.le_of_ble_eq_true rfl) ?_
  refine va_putF (D := G.1) (ci := 3) (v := .ref q2) (ty := .array .int) (C := R_Ma) (T := T_Ma) (N := 8) hx hb hg in_Ma t_Ma ok_Ma nm_Ma hown hK hP hD hS 0 rfl rfl 1 (by decide) (hg _ mw_247) (fun _ h9 => h9) rfl hin rfl (by decide +kernel) rfl rfl (Nat.le_of_ble_eq_true rfl) d_Ma_init_18 (fun H locs hP hD hS => ?_)
  have hP : va_P G.1 nn_cls [nc_o h0 3 [.ref q1, .ref q2, .int 0, .int 0, .int 0, .int 0, .int 0, .int 0], nc_i q1 (G.2 0) 200 (fun _ => 0), nc_i q2 (G.2 0) 8 (fun _ => 0)] H := hP
  have hD : va_D A [nc_o h0 3 [.ref q1, .ref q2, .int 0, .int 0, .int 0, .int 0, .int 0, .int 0], nc_i q1 (G.2 0) 200 (fun _ => 0), nc_i q2 (G.2 0) 8 (fun _ => 0)] := hD
  refine lv_aload_n hx hb d_Ma_init_21 rfl (lv_at hl 0 rfl) ?_
  refine lv_iconst (v := 0) hx hb d_Ma_init_22 (by decide) ?_
  refine va_put (D := G.1) (ci := 3) (v := .int 0) (ty := .int) (C := R_Ma) (T := T_Ma) (N := 8) hx hb hg in_Ma t_Ma ok_Ma nm_Ma hown hK hP hD hS 0 rfl rfl 2 (by decide) (hg _ mw_248) (fun _ h9 => h9) rfl (by decide +kernel) rfl rfl (Nat.le_of_ble_eq_true rfl) d_Ma_init_23 (fun H locs hP hD hS => ?_)
  have hP : va_P G.1 nn_cls [nc_o h0 3 [.ref q1, .ref q2, .int 0, .int 0, .int 0, .int 0, .int 0, .int 0], nc_i q1 (G.2 0) 200 (fun _ => 0), nc_i q2 (G.2 0) 8 (fun _ => 0)] H := hP
  have hD : va_D A [nc_o h0 3 [.ref q1, .ref q2, .int 0, .int 0, .int 0, .int 0, .int 0, .int 0], nc_i q1 (G.2 0) 200 (fun _ => 0), nc_i q2 (G.2 0) 8 (fun _ => 0)] := hD
  refine lv_aload_n hx hb d_Ma_init_26 rfl (lv_at hl 0 rfl) ?_
  refine lv_iconst (v := 0) hx hb d_Ma_init_27 (by decide) ?_
  refine va_put (D := G.1) (ci := 3) (v := .int 0) (ty := .int) (C := R_Ma) (T := T_Ma) (N := 8) hx hb hg in_Ma t_Ma ok_Ma nm_Ma hown hK hP hD hS 0 rfl rfl 3 (by decide) (hg _ mw_249) (fun _ h9 => h9) rfl (by decide +kernel) rfl rfl (Nat.le_of_ble_eq_true rfl) d_Ma_init_28 (fun H locs hP hD hS => ?_)
  have hP : va_P G.1 nn_cls [nc_o h0 3 [.ref q1, .ref q2, .int 0, .int 0, .int 0, .int 0, .int 0, .int 0], nc_i q1 (G.2 0) 200 (fun _ => 0), nc_i q2 (G.2 0) 8 (fun _ => 0)] H := hP
  have hD : va_D A [nc_o h0 3 [.ref q1, .ref q2, .int 0, .int 0, .int 0, .int 0, .int 0, .int 0], nc_i q1 (G.2 0) 200 (fun _ => 0), nc_i q2 (G.2 0) 8 (fun _ => 0)] := hD
  refine lv_aload_n hx hb d_Ma_init_31 rfl (lv_at hl 0 rfl) ?_
  refine lv_iconst (v := 0) hx hb d_Ma_init_32 (by decide) ?_
  refine va_put (D := G.1) (ci := 3) (v := .int 0) (ty := .int) (C := R_Ma) (T := T_Ma) (N := 8) hx hb hg in_Ma t_Ma ok_Ma nm_Ma hown hK hP hD hS 0 rfl rfl 4 (by decide) (hg _ mw_250) (fun _ h9 => h9) rfl (by decide +kernel) rfl rfl (Nat.le_of_ble_eq_true rfl) d_Ma_init_33 (fun H locs hP hD hS => ?_)
  have hP : va_P G.1 nn_cls [nc_o h0 3 [.ref q1, .ref q2, .int 0, .int 0, .int 0, .int 0, .int 0, .int 0], nc_i q1 (G.2 0) 200 (fun _ => 0), nc_i q2 (G.2 0) 8 (fun _ => 0)] H := hP
  have hD : va_D A [nc_o h0 3 [.ref q1, .ref q2, .int 0, .int 0, .int 0, .int 0, .int 0, .int 0], nc_i q1 (G.2 0) 200 (fun _ => 0), nc_i q2 (G.2 0) 8 (fun _ => 0)] := hD
  refine lv_aload_n hx hb d_Ma_init_36 rfl (lv_at hl 0 rfl) ?_
  refine lv_iconst (v := (-1)) hx hb d_Ma_init_37 (by decide) ?_
  refine va_put (D := G.1) (ci := 3) (v := .int (-1)) (ty := .int) (C := R_Ma) (T := T_Ma) (N := 8) hx hb hg in_Ma t_Ma ok_Ma nm_Ma hown hK hP hD hS 0 rfl rfl 5 (by decide) (hg _ mw_251) (fun _ h9 => h9) rfl (by decide +kernel) rfl rfl (Nat.le_of_ble_eq_true rfl) d_Ma_init_38 (fun H locs hP hD hS => ?_)
  have hP : va_P G.1 nn_cls [nc_o h0 3 [.ref q1, .ref q2, .int 0, .int 0, .int 0, .int (-1), .int 0, .int 0], nc_i q1 (G.2 0) 200 (fun _ => 0), nc_i q2 (G.2 0) 8 (fun _ => 0)] H := hP
  have hD : va_D A [nc_o h0 3 [.ref q1, .ref q2, .int 0, .int 0, .int 0, .int (-1), .int 0, .int 0], nc_i q1 (G.2 0) 200 (fun _ => 0), nc_i q2 (G.2 0) 8 (fun _ => 0)] := hD
  refine lv_aload_n hx hb d_Ma_init_41 rfl (lv_at hl 0 rfl) ?_
  refine lv_iconst (v := 0) hx hb d_Ma_init_42 (by decide) ?_
  refine va_put (D := G.1) (ci := 3) (v := .int 0) (ty := .int) (C := R_Ma) (T := T_Ma) (N := 8) hx hb hg in_Ma t_Ma ok_Ma nm_Ma hown hK hP hD hS 0 rfl rfl 6 (by decide) (hg _ mw_252) (fun _ h9 => h9) rfl (by decide +kernel) rfl rfl (Nat.le_of_ble_eq_true rfl) d_Ma_init_43 (fun H locs hP hD hS => ?_)
  have hP : va_P G.1 nn_cls [nc_o h0 3 [.ref q1, .ref q2, .int 0, .int 0, .int 0, .int (-1), .int 0, .int 0], nc_i q1 (G.2 0) 200 (fun _ => 0), nc_i q2 (G.2 0) 8 (fun _ => 0)] H := hP
  have hD : va_D A [nc_o h0 3 [.ref q1, .ref q2, .int 0, .int 0, .int 0, .int (-1), .int 0, .int 0], nc_i q1 (G.2 0) 200 (fun _ => 0), nc_i q2 (G.2 0) 8 (fun _ => 0)] := hD
  refine lv_aload_n hx hb d_Ma_init_46 rfl (lv_at hl 0 rfl) ?_
  refine lv_iconst (v := 0) hx hb d_Ma_init_47 (by decide) ?_
  refine va_put (D := G.1) (ci := 3) (v := .int 0) (ty := .int) (C := R_Ma) (T := T_Ma) (N := 8) hx hb hg in_Ma t_Ma ok_Ma nm_Ma hown hK hP hD hS 0 rfl rfl 7 (by decide) (hg _ mw_253) (fun _ h9 => h9) rfl (by decide +kernel) rfl rfl (Nat.le_of_ble_eq_true rfl) d_Ma_init_48 (fun H locs hP hD hS => ?_)
  have hP : va_P G.1 nn_cls [nc_o h0 3 [.ref q1, .ref q2, .int 0, .int 0, .int 0, .int (-1), .int 0, .int 0], nc_i q1 (G.2 0) 200 (fun _ => 0), nc_i q2 (G.2 0) 8 (fun _ => 0)] H := hP
  have hD : va_D A [nc_o h0 3 [.ref q1, .ref q2, .int 0, .int 0, .int 0, .int (-1), .int 0, .int 0], nc_i q1 (G.2 0) 200 (fun _ => 0), nc_i q2 (G.2 0) 8 (fun _ => 0)] := hD
  refine W.widen (k := 2) (n := 208) (Nat.le_of_ble_eq_true rfl) (Nat.le_of_ble_eq_true rfl) ?_
  have hP9 := hP.sub (ws' := [nc_o h0 3 [.ref q1, .ref q2, .int 0, .int 0, .int 0, .int (-1), .int 0, .int 0], nc_i q1 (G.2 0) 200 (fun _ => 0), nc_i q2 (G.2 0) 8 (fun _ => 0)]) [0, 1, 2] rfl
  have hD9 := hD.sub (ws' := [nc_o h0 3 [.ref q1, .ref q2, .int 0, .int 0, .int 0, .int (-1), .int 0, .int 0], nc_i q1 (G.2 0) 200 (fun _ => 0), nc_i q2 (G.2 0) 8 (fun _ => 0)]) [0, 1, 2] (by decide) rfl
  exact W.vret hx hb hr (fun t ht hW => ⟨⟨(q1, q2), rfl, trivial, ⟨by rw [ht]; exact hP9, hD9⟩⟩, hS.F ht⟩) hS.2.2 d_Ma_init_51

theorem mw_91 : (.initialized R_Nm : Cond) ∈ nn_gw := nn_at 91 (by decide +kernel) (by decide +kernel)
theorem mw_154 : (.methodLink R_Ns 3 ⟨"java/lang/Object", "<init>", "()V"⟩ : Cond) ∈ nn_gw := nn_at 154 (by decide +kernel) (by decide +kernel)
theorem mw_155 : (.classLink R_Ns 11 R_Nm : Cond) ∈ nn_gw := nn_at 155 (by decide +kernel) (by decide +kernel)
theorem mw_157 : (.instantiable R_Nm 5 : Cond) ∈ nn_gw := nn_at 157 (by decide +kernel) (by decide +kernel)
theorem mw_159 : (.instanceMethod y_Nm_init : Cond) ∈ nn_gw := nn_at 159 (by decide +kernel) (by decide +kernel)
theorem mw_160 : (.code y_Nm_init b_Nm_init 1 none : Cond) ∈ nn_gw := nn_at 160 (by decide +kernel) (by decide +kernel)
theorem d_Ns_init_0 : decode b_Ns_init 0 = .ok (.aload_n 0, 1) := by decide +kernel
theorem d_Ns_init_1 : decode b_Ns_init 1 = .ok (.invokespecial 3, 3) := by decide +kernel
theorem d_Ns_init_4 : decode b_Ns_init 4 = .ok (.aload_n 0, 1) := by decide +kernel
theorem d_Ns_init_5 : decode b_Ns_init 5 = .ok (.bipush 90, 2) := by decide +kernel
theorem d_Ns_init_7 : decode b_Ns_init 7 = .ok (.anewarray 11, 3) := by decide +kernel
theorem d_Ns_init_10 : decode b_Ns_init 10 = .ok (.putfield 13, 3) := by decide +kernel
theorem d_Ns_init_13 : decode b_Ns_init 13 = .ok (.aload_n 0, 1) := by decide +kernel
theorem d_Ns_init_14 : decode b_Ns_init 14 = .ok (.iconst 0, 1) := by decide +kernel
theorem d_Ns_init_15 : decode b_Ns_init 15 = .ok (.putfield 17, 3) := by decide +kernel
theorem d_Ns_init_18 : decode b_Ns_init 18 = .ok (.aload_n 0, 1) := by decide +kernel
theorem d_Ns_init_19 : decode b_Ns_init 19 = .ok (.iconst 5, 1) := by decide +kernel
theorem d_Ns_init_20 : decode b_Ns_init 20 = .ok (.newarray .int, 2) := by decide +kernel
theorem d_Ns_init_22 : decode b_Ns_init 22 = .ok (.putfield 21, 3) := by decide +kernel
theorem d_Ns_init_25 : decode b_Ns_init 25 = .ok (.aload_n 0, 1) := by decide +kernel
theorem d_Ns_init_26 : decode b_Ns_init 26 = .ok (.iconst 0, 1) := by decide +kernel
theorem d_Ns_init_27 : decode b_Ns_init 27 = .ok (.putfield 25, 3) := by decide +kernel
theorem d_Ns_init_30 : decode b_Ns_init 30 = .ok (.iconst 0, 1) := by decide +kernel
theorem d_Ns_init_31 : decode b_Ns_init 31 = .ok (.istore_n 1, 1) := by decide +kernel
theorem d_Ns_init_32 : decode b_Ns_init 32 = .ok (.iload_n 1, 1) := by decide +kernel
theorem d_Ns_init_33 : decode b_Ns_init 33 = .ok (.bipush 90, 2) := by decide +kernel
theorem d_Ns_init_35 : decode b_Ns_init 35 = .ok (.if_icmp .ge 22, 3) := by decide +kernel
theorem d_Ns_init_38 : decode b_Ns_init 38 = .ok (.aload_n 0, 1) := by decide +kernel
theorem d_Ns_init_39 : decode b_Ns_init 39 = .ok (.getfield 13, 3) := by decide +kernel
theorem d_Ns_init_42 : decode b_Ns_init 42 = .ok (.iload_n 1, 1) := by decide +kernel
theorem d_Ns_init_43 : decode b_Ns_init 43 = .ok (.new 11, 3) := by decide +kernel
theorem d_Ns_init_46 : decode b_Ns_init 46 = .ok (.dup, 1) := by decide +kernel
theorem d_Ns_init_47 : decode b_Ns_init 47 = .ok (.invokespecial 28, 3) := by decide +kernel
theorem d_Ns_init_50 : decode b_Ns_init 50 = .ok (.aastore, 1) := by decide +kernel
theorem d_Ns_init_51 : decode b_Ns_init 51 = .ok (.iinc 1 1, 3) := by decide +kernel
theorem d_Ns_init_54 : decode b_Ns_init 54 = .ok (.goto (-22), 3) := by decide +kernel
theorem d_Ns_init_57 : decode b_Ns_init 57 = .ok (.return_, 1) := by decide +kernel

set_option maxHeartbeats 4000000 in
set_option maxRecDepth 100000 in
theorem i_Ns (l : Launch) (G : nn_G) (sz : Nat) (h0 : Nat) : Met l y_Ns_init w_Ns_init ({ frames := 2, cells := 92, slots := 545, locals := 32 }) (nn_P G [.ref h0] [nc_o h0 5 [.null, .int 0, .null, .int 0]] sz) (va_Qv (fun u : Nat × Nat × (Nat → Nat) × List Nat => ∀ j, j < 90 → u.2.2.1 j ∈ u.2.2.2) (fun u t => va_P G.1 nn_cls ([nc_o h0 5 [.ref u.1, .int 0, .ref u.2.1, .int 0], nc_q u.1 (G.2 4) 90 (fun j => some (u.2.2.1 j)), nc_i u.2.1 (G.2 0) 5 (fun _ => 0)] ++ nz_pl u.2.2.2 (fun _ _ => 0)) t.heap ∧ va_D (va_A [nc_o h0 5 [.null, .int 0, .null, .int 0]] sz) ([nc_o h0 5 [.ref u.1, .int 0, .ref u.2.1, .int 0], nc_q u.1 (G.2 4) 90 (fun j => some (u.2.2.1 j)), nc_i u.2.1 (G.2 0) 5 (fun _ => 0)] ++ nz_pl u.2.2.2 (fun _ _ => 0))) (va_A [nc_o h0 5 [.null, .int 0, .null, .int 0]] sz)) 92 545 (va_A [nc_o h0 5 [.null, .int 0, .null, .int 0]] sz) := by
  refine Met.ofW (cc := b_Ns_init) (maxL := 2) (ret := none) (by decide) rfl ?_
  intro p e s m args below meth c s₁ B hml hv
  obtain ⟨rfl, hsz, hP, hK, hD0, hN⟩ := hv
  have hx := B.exec
  have hb := B.bytes
  have hr := B.returns
  have hts := atoms_spec (ws := w_Ns_init) B.pre
  have hg : ∀ w ∈ nn_gw, w.before _ s = true := fun w h => hts w (List.mem_cons_of_mem _ h)
  have hown : s.vm.findClass R_Ns = some m.cls := findClass_of_methodNamed B.named
  have hlocks := B.notSynchronized
  have hin : meth.name = "<init>" := (name_of_methodNamed B.named B.method).1
  subst hsz
  have hD := hD0.self (sz := s.heap.size)
  generalize hAe : va_A [nc_o h0 5 [.null, .int 0, .null, .int 0]] s.heap.size = A at hD ⊢
  have hA : ∀ q : Nat, s.heap.size ≤ q → A q := fun q h => by rw [← hAe]; exact Or.inr h
  have hS : va_S A s.heap s.heap [] := va_S.rf
  have hP : va_P G.1 nn_cls [nc_o h0 5 [.null, .int 0, .null, .int 0]] s.heap := hP
  have hl := lv_entry ([.ref h0]) (n := 2) (Nat.le_of_ble_eq_true rfl)
  rw [lg_entry_eq]
  generalize (lg_sl ([.ref h0]) ++ List.replicate (2 - (lg_sl ([.ref h0])).length) Slot.unset).toArray = ls at hl ⊢
  have hl : lv_has ls 2 [(0, .ref h0)] := hl
  refine lv_aload_n hx hb d_Ns_init_0 rfl (lv_at hl 0 rfl) ?_
  refine W.objInit hx hb hown (hg _ mw_154) (hg _ mw_115) (hg _ nn_oc) rfl (by rw [hml]; exact hl.1) rfl d_Ns_init_1 (Nat.le_of_ble_eq_true rfl) (Nat.le_of_ble_eq_true rfl) ?_
  refine W.eq (g2 := F0 m 4 ls []) rfl ?_
  refine lv_aload_n hx hb d_Ns_init_4 rfl (lv_at hl 0 rfl) ?_
  refine lv_bipush (v := 90) hx hb d_Ns_init_5 (by decide) ?_
  refine nb_newq (N' := 90) (C := "NestPascal$Name") (cA := G.2 4) hx hb hown (hg _ mw_155) (hN _ (by decide)) hK hP hD hS hA 4 rfl (by decide) (by decide) (by decide) (Nat.le_of_ble_eq_true rfl) (Nat.le_of_ble_eq_true rfl) d_Ns_init_7 (fun q1 H hP hD hS => ?_)
  have hP : va_P G.1 nn_cls [nc_o h0 5 [.null, .int 0, .null, .int 0], nc_q q1 (G.2 4) 90 (fun _ => none)] H := hP
  have hD : va_D A [nc_o h0 5 [.null, .int 0, .null, .int 0], nc_q q1 (G.2 4) 90 (fun _ => none)] := hD
  refine W.widen (k := 1) (n := 90) (Nat.le_of_ble_eq_true rfl) (Nat.le_of_ble_eq_true rfl) ?_
  refine va_putF (D := G.1) (ci := 5) (v := .ref q1) (ty := .array (.object "NestPascal$Name")) (C := R_Ns) (T := T_Ns) (N := 4) hx hb hg in_Ns t_Ns ok_Ns nm_Ns hown hK hP hD hS 0 rfl rfl 0 (by decide) (hg _ mw_187) (fun _ h9 => h9) rfl hin rfl (by decide +kernel) rfl rfl (Nat.le_of_ble_eq_true rfl) d_Ns_init_10 (fun H locs hP hD hS => ?_)
  have hP : va_P G.1 nn_cls [nc_o h0 5 [.ref q1, .int 0, .null, .int 0], nc_q q1 (G.2 4) 90 (fun _ => none)] H := hP
  have hD : va_D A [nc_o h0 5 [.ref q1, .int 0, .null, .int 0], nc_q q1 (G.2 4) 90 (fun _ => none)] := hD
  refine lv_aload_n hx hb d_Ns_init_13 rfl (lv_at hl 0 rfl) ?_
  refine lv_iconst (v := 0) hx hb d_Ns_init_14 (by decide) ?_
  refine va_put (D := G.1) (ci := 5) (v := .int 0) (ty := .int) (C := R_Ns) (T := T_Ns) (N := 4) hx hb hg in_Ns t_Ns ok_Ns nm_Ns hown hK hP hD hS 0 rfl rfl 1 (by decide) (hg _ mw_188) (fun _ h9 => h9) rfl (by decide +kernel) rfl rfl (Nat.le_of_ble_eq_true rfl) d_Ns_init_15 (fun H locs hP hD hS => ?_)
  have hP : va_P G.1 nn_cls [nc_o h0 5 [.ref q1, .int 0, .null, .int 0], nc_q q1 (G.2 4) 90 (fun _ => none)] H := hP
  have hD : va_D A [nc_o h0 5 [.ref q1, .int 0, .null, .int 0], nc_q q1 (G.2 4) 90 (fun _ => none)] := hD
  refine lv_aload_n hx hb d_Ns_init_18 rfl (lv_at hl 0 rfl) ?_
  refine lv_iconst (v := 5) hx hb d_Ns_init_19 (by decide) ?_
  refine nb_newa (atype := .int) (a0 := (5, .inl (fun _ => 0))) (N' := 5) (ty := .int) (cA := G.2 0) hx hb (hg _ mw_148) rfl hK hP hD hS hA 0 rfl (fun _ => rfl) (by decide) (by decide) (by decide) (Nat.le_of_ble_eq_true rfl) (Nat.le_of_ble_eq_true rfl) d_Ns_init_20 (fun q2 H hP hD hS => ?_)
  have hP : va_P G.1 nn_cls [nc_o h0 5 [.ref q1, .int 0, .null, .int 0], nc_q q1 (G.2 4) 90 (fun _ => none), nc_i q2 (G.2 0) 5 (fun _ => 0)] H := hP
  have hD : va_D A [nc_o h0 5 [.ref q1, .int 0, .null, .int 0], nc_q q1 (G.2 4) 90 (fun _ => none), nc_i q2 (G.2 0) 5 (fun _ => 0)] := hD
  refine W.widen (k := 2) (n := 95) (Nat.le_of_ble_eq_true rfl) (Nat.le_of_ble_eq_true rfl) ?_
  refine va_putF (D := G.1) (ci := 5) (v := .ref q2) (ty := .array .int) (C := R_Ns) (T := T_Ns) (N := 4) hx hb hg in_Ns t_Ns ok_Ns nm_Ns hown hK hP hD hS 0 rfl rfl 2 (by decide) (hg _ mw_189) (fun _ h9 => h9) rfl hin rfl (by decide +kernel) rfl rfl (Nat.le_of_ble_eq_true rfl) d_Ns_init_22 (fun H locs hP hD hS => ?_)
  have hP : va_P G.1 nn_cls [nc_o h0 5 [.ref q1, .int 0, .ref q2, .int 0], nc_q q1 (G.2 4) 90 (fun _ => none), nc_i q2 (G.2 0) 5 (fun _ => 0)] H := hP
  have hD : va_D A [nc_o h0 5 [.ref q1, .int 0, .ref q2, .int 0], nc_q q1 (G.2 4) 90 (fun _ => none), nc_i q2 (G.2 0) 5 (fun _ => 0)] := hD
  refine lv_aload_n hx hb d_Ns_init_25 rfl (lv_at hl 0 rfl) ?_
  refine lv_iconst (v := 0) hx hb d_Ns_init_26 (by decide) ?_
  refine va_put (D := G.1) (ci := 5) (v := .int 0) (ty := .int) (C := R_Ns) (T := T_Ns) (N := 4) hx hb hg in_Ns t_Ns ok_Ns nm_Ns hown hK hP hD hS 0 rfl rfl 3 (by decide) (hg _ mw_190) (fun _ h9 => h9) rfl (by decide +kernel) rfl rfl (Nat.le_of_ble_eq_true rfl) d_Ns_init_27 (fun H locs hP hD hS => ?_)
  have hP : va_P G.1 nn_cls [nc_o h0 5 [.ref q1, .int 0, .ref q2, .int 0], nc_q q1 (G.2 4) 90 (fun _ => none), nc_i q2 (G.2 0) 5 (fun _ => 0)] H := hP
  have hD : va_D A [nc_o h0 5 [.ref q1, .int 0, .ref q2, .int 0], nc_q q1 (G.2 4) 90 (fun _ => none), nc_i q2 (G.2 0) 5 (fun _ => 0)] := hD
  refine lv_iconst (v := 0) hx hb d_Ns_init_30 (by decide) ?_
  refine lv_istore_n (lv' := [(1, .int 0), (0, .ref h0)]) hx hb d_Ns_init_31 rfl hl (by decide) rfl (fun ls hl => ?_)
  have hP := hP.sub (ws' := [nc_o h0 5 [.ref q1, .int 0, .ref q2, .int 0], nc_q q1 (G.2 4) 90 (fun _ => none), nc_i q2 (G.2 0) 5 (fun _ => 0)]) [0, 1, 2] rfl
  have hD := hD.sub (ws' := [nc_o h0 5 [.ref q1, .int 0, .ref q2, .int 0], nc_q q1 (G.2 4) 90 (fun _ => none), nc_i q2 (G.2 0) 5 (fun _ => 0)]) [0, 1, 2] (by decide) rfl
  have hP : va_P G.1 nn_cls ([nc_o h0 5 [.ref q1, .int 0, .ref q2, .int 0], nc_q q1 (G.2 4) 90 (fun _ => none), nc_i q2 (G.2 0) 5 (fun _ => 0)] ++ nz_pl [] (fun _ _ => 0)) H := by rw [nl_p0]; exact hP
  have hD : va_D A ([nc_o h0 5 [.ref q1, .int 0, .ref q2, .int 0], nc_q q1 (G.2 4) 90 (fun _ => none), nc_i q2 (G.2 0) 5 (fun _ => 0)] ++ nz_pl [] (fun _ _ => 0)) := by rw [nl_p0]; exact hD
  suffices loop : ∀ (n i : Nat) (ls : Array Slot) (H : Heap) (locs : List Loc) (f : Nat → Option Nat) (L : List Nat), i + n = 90 → nl_dn L f i → lv_has ls 2 [(1, .int (nI i)), (0, .ref h0)] → va_P G.1 nn_cls ([nc_o h0 5 [.ref q1, .int 0, .ref q2, .int 0], nc_q q1 (G.2 4) 90 f, nc_i q2 (G.2 0) 5 (fun _ => 0)] ++ nz_pl L (fun _ _ => 0)) H → va_D A ([nc_o h0 5 [.ref q1, .int 0, .ref q2, .int 0], nc_q q1 (G.2 4) 90 f, nc_i q2 (G.2 0) 5 (fun _ => 0)] ++ nz_pl L (fun _ _ => 0)) → va_S A s.heap H locs → W p l e (headSpec w_Ns_init ({ frames := 2, cells := 92, slots := 545, locals := 32 })).room s m [.ref h0].toArray below meth c H locs (2 + i) (95 + 5 * i) (MQ below (va_Qv (fun u : Nat × Nat × (Nat → Nat) × List Nat => ∀ j, j < 90 → u.2.2.1 j ∈ u.2.2.2) (fun u t => va_P G.1 nn_cls ([nc_o h0 5 [.ref u.1, .int 0, .ref u.2.1, .int 0], nc_q u.1 (G.2 4) 90 (fun j => some (u.2.2.1 j)), nc_i u.2.1 (G.2 0) 5 (fun _ => 0)] ++ nz_pl u.2.2.2 (fun _ _ => 0)) t.heap ∧ va_D A ([nc_o h0 5 [.ref u.1, .int 0, .ref u.2.1, .int 0], nc_q u.1 (G.2 4) 90 (fun j => some (u.2.2.1 j)), nc_i u.2.1 (G.2 0) 5 (fun _ => 0)] ++ nz_pl u.2.2.2 (fun _ _ => 0))) A) [.ref h0].toArray s 92 545 A) (F0 m 32 ls []) by
    exact loop 90 0 ls H locs _ [] rfl (fun j hj => absurd hj (Nat.not_lt_zero j)) hl hP hD hS
  intro n
  induction n with
  | zero =>
    intro i ls H locs f L hi hf hl hP hD hS
    obtain rfl : i = 90 := by omega
    refine lv_iload_n hx hb d_Ns_init_32 rfl (lv_at hl 0 rfl) ?_
    refine lv_bipush (v := 90) hx hb d_Ns_init_33 (by decide) ?_
    refine lv_icmp_ge (tgt := 57) hx hb d_Ns_init_35 rfl (fun _ => ?_) (fun h => absurd (by decide) h)
    refine W.widen (k := 92) (n := 545) (Nat.le_of_ble_eq_true rfl) (Nat.le_of_ble_eq_true rfl) ?_
    obtain ⟨dn, hdn, hfd⟩ := nl_dn.get hf
    have hP9 := nl_qP hP hfd
    have hD9 := nl_qD (e' := .inl (G.2 4, 90, .inr (.inr (.inr (.inr (fun j => some (dn j))))))) hD
    exact W.vret hx hb hr (fun t ht hW => ⟨⟨(q1, q2, dn, L), rfl, hdn, ⟨by rw [ht]; exact hP9, hD9⟩⟩, hS.F ht⟩) hS.2.2 d_Ns_init_57
  | succ n ih =>
    intro i ls H locs f L hi hf hl hP hD hS
    have hi90 : i < 90 := by omega
    refine lv_iload_n hx hb d_Ns_init_32 rfl (lv_at hl 0 rfl) ?_
    refine lv_bipush (v := 90) hx hb d_Ns_init_33 (by decide) ?_
    refine lv_icmp_ge (tgt := 57) hx hb d_Ns_init_35 rfl (fun h => absurd h (nI_ge (b := 90) hi90 (by decide))) (fun _ => ?_)
    refine lv_aload_n hx hb d_Ns_init_38 rfl (lv_at hl 1 rfl) ?_
    refine va_get (D := G.1) (ci := 5) (v := .ref q1) (C := R_Ns) (T := T_Ns) (N := 4) hx hb hg in_Ns hown hK hP 0 rfl rfl 0 (by decide) (hg _ mw_187) (fun _ h9 => h9) rfl d_Ns_init_39 ?_
    refine lv_iload_n hx hb d_Ns_init_42 rfl (lv_at hl 0 rfl) ?_
    refine va_new (ci := 4) (fs := [.int 0, .int 0, .int 0, .int 0, .int 0]) (C := R_Nm) (T := T_Nm) (N := 5) hx hb hg in_Nm t_Nm ok_Nm hown (hg _ mw_155) (hg _ mw_157) (hg _ mw_91) hK hP hD hS hA rfl fd_Nm (show 2 + i + 1 ≤ 92 by omega) (show 95 + 5 * i + 5 ≤ 545 by omega) d_Ns_init_43 (fun q3 H hP hD hS => ?_)
    have hP := hP.swap
    have hD := hD.swap
    have hP : va_P G.1 nn_cls ([nc_o h0 5 [.ref q1, .int 0, .ref q2, .int 0], nc_q q1 (G.2 4) 90 f, nc_i q2 (G.2 0) 5 (fun _ => 0), nc_o q3 4 [.int 0, .int 0, .int 0, .int 0, .int 0]] ++ nz_pl L (fun _ _ => 0)) H := hP
    have hD : va_D A ([nc_o h0 5 [.ref q1, .int 0, .ref q2, .int 0], nc_q q1 (G.2 4) 90 f, nc_i q2 (G.2 0) 5 (fun _ => 0), nc_o q3 4 [.int 0, .int 0, .int 0, .int 0, .int 0]] ++ nz_pl L (fun _ _ => 0)) := hD
    refine lv_dup hx hb d_Ns_init_46 rfl ?_
    have hPc := hP.sub (ws' := [nc_o q3 4 [.int 0, .int 0, .int 0, .int 0, .int 0]]) [3] rfl
    have hDc := hD.sub (ws' := [nc_o q3 4 [.int 0, .int 0, .int 0, .int 0, .int 0]]) [3] (by decide) rfl
    have hFc := va_free (wc := [nc_o q3 4 [.int 0, .int 0, .int 0, .int 0, .int 0]]) hD hS hA [3] rfl
    refine va_callv (va_runIN (As := []) (rest := [.ref q3, .int (nI i), .ref q1]) ⟨hx, hb, hml, hown, hts⟩ (i_Nm l G _ q3) ⟨va_cnB (host := "NestPascal") 0 hts (nn_gd mw_160) rfl rfl rfl (hN _ (by decide)) (hg _ mw_91) (by decide +kernel) ⟨Nat.le_of_ble_eq_true rfl, Nat.le_of_ble_eq_true rfl⟩, rfl, hg _ mw_159⟩ (nn_preS hPc hDc hK hN) rfl rfl hl.1 rfl (lv_room (Nat.le_of_ble_eq_true rfl)) d_Ns_init_47 ⟨(show 2 + i + 1 + 0 ≤ 92 by omega), (show 95 + 5 * i + 5 + 0 ≤ 545 by omega)⟩) hS (fun q _ h => hFc q h) hFc (fun u4 t H locs ht hvm hw hB hz1 hk1 hS => ?_)
    obtain ⟨hP1, hD1⟩ := hB
    rw [ht] at hP1
    obtain ⟨hP, hD⟩ := va_joinQ (wr := [nc_o h0 5 [.ref q1, .int 0, .ref q2, .int 0], nc_q q1 (G.2 4) 90 f, nc_i q2 (G.2 0) 5 (fun _ => 0)]) (w1 := [nc_o q3 4 [.int 0, .int 0, .int 0, .int 0, .int 0]]) hP hD [3] [0, 1, 2] rfl rfl (by decide) (by decide) hk1 hFc hP1 hD1
    have hP : va_P G.1 nn_cls ([nc_o h0 5 [.ref q1, .int 0, .ref q2, .int 0], nc_q q1 (G.2 4) 90 f, nc_i q2 (G.2 0) 5 (fun _ => 0), nc_o q3 4 [.int 0, .int 0, .int 0, .int 0, .int 0]] ++ nz_pl L (fun _ _ => 0)) H := hP
    have hD : va_D A ([nc_o h0 5 [.ref q1, .int 0, .ref q2, .int 0], nc_q q1 (G.2 4) 90 f, nc_i q2 (G.2 0) 5 (fun _ => 0), nc_o q3 4 [.int 0, .int 0, .int 0, .int 0, .int 0]] ++ nz_pl L (fun _ _ => 0)) := hD
    refine va_astq (r := (R_Nm, T_Nm, 5)) hx hb hK hP hD hS 1 4 3 4 rfl rfl rfl rfl (vp_in_nI hi90 (by decide)) d_Ns_init_50 (fun H locs hP hD hS => ?_)
    have hP : va_P G.1 nn_cls ([nc_o h0 5 [.ref q1, .int 0, .ref q2, .int 0], nc_q q1 (G.2 4) 90 (va_up (f) (nI i).toNatClampNeg (some q3)), nc_i q2 (G.2 0) 5 (fun _ => 0), nc_o q3 4 [.int 0, .int 0, .int 0, .int 0, .int 0]] ++ nz_pl L (fun _ _ => 0)) H := hP
    have hD : va_D A ([nc_o h0 5 [.ref q1, .int 0, .ref q2, .int 0], nc_q q1 (G.2 4) 90 (va_up (f) (nI i).toNatClampNeg (some q3)), nc_i q2 (G.2 0) 5 (fun _ => 0), nc_o q3 4 [.int 0, .int 0, .int 0, .int 0, .int 0]] ++ nz_pl L (fun _ _ => 0)) := hD
    refine lv_iinc (k := 0) (v := nI (i + 1)) (lv' := [(1, .int (nI (i + 1))), (0, .ref h0)]) hx hb d_Ns_init_51 hl rfl ((nI_succ i).symm) (by decide) rfl (fun ls hl => ?_)
    refine lv_goto (tgt := 32) hx hb d_Ns_init_54 rfl ?_
    have hP := va_P.swap (a := [nc_o h0 5 [.ref q1, .int 0, .ref q2, .int 0], nc_q q1 (G.2 4) 90 (va_up (f) (nI i).toNatClampNeg (some q3)), nc_i q2 (G.2 0) 5 (fun _ => 0)]) (b := [nc_o q3 4 [.int 0, .int 0, .int 0, .int 0, .int 0]]) (c := nz_pl L (fun _ _ => 0)) hP
    have hD := va_D.swap (a := [nc_o h0 5 [.ref q1, .int 0, .ref q2, .int 0], nc_q q1 (G.2 4) 90 (va_up (f) (nI i).toNatClampNeg (some q3)), nc_i q2 (G.2 0) 5 (fun _ => 0)]) (b := [nc_o q3 4 [.int 0, .int 0, .int 0, .int 0, .int 0]]) (c := nz_pl L (fun _ _ => 0)) hD
    have hq9 := va_pl_fresh2 hD
    rw [nl_push hq9] at hP hD
    refine W.widen (k := 2 + (i + 1)) (n := 95 + 5 * (i + 1)) (by omega) (by omega) ?_
    exact ih (i + 1) ls H locs _ (L ++ [q3]) (by omega) (nl_dnS hf hi90) hl hP hD hS

theorem mw_122 : (.methodLink R_Cm 3 ⟨"java/lang/Object", "<init>", "()V"⟩ : Cond) ∈ nn_gw := nn_at 122 (by decide +kernel) (by decide +kernel)
theorem mw_123 : (.classLink R_Cm 9 R_Ts : Cond) ∈ nn_gw := nn_at 123 (by decide +kernel) (by decide +kernel)
theorem mw_124 : (.instantiable R_Ts 5 : Cond) ∈ nn_gw := nn_at 124 (by decide +kernel) (by decide +kernel)
theorem mw_126 : (.instanceMethod y_Ts_init : Cond) ∈ nn_gw := nn_at 126 (by decide +kernel) (by decide +kernel)
theorem mw_127 : (.code y_Ts_init b_Ts_init 1 none : Cond) ∈ nn_gw := nn_at 127 (by decide +kernel) (by decide +kernel)
theorem mw_149 : (.classLink R_Cm 18 R_Ns : Cond) ∈ nn_gw := nn_at 149 (by decide +kernel) (by decide +kernel)
theorem mw_150 : (.instantiable R_Ns 4 : Cond) ∈ nn_gw := nn_at 150 (by decide +kernel) (by decide +kernel)
theorem mw_151 : (.methodLink R_Cm 20 y_Ns_init : Cond) ∈ nn_gw := nn_at 151 (by decide +kernel) (by decide +kernel)
theorem mw_152 : (.instanceMethod y_Ns_init : Cond) ∈ nn_gw := nn_at 152 (by decide +kernel) (by decide +kernel)
theorem mw_153 : (.code y_Ns_init b_Ns_init 2 none : Cond) ∈ nn_gw := nn_at 153 (by decide +kernel) (by decide +kernel)
theorem mw_200 : (.classLink R_Cm 25 R_Co : Cond) ∈ nn_gw := nn_at 200 (by decide +kernel) (by decide +kernel)
theorem mw_201 : (.instantiable R_Co 4 : Cond) ∈ nn_gw := nn_at 201 (by decide +kernel) (by decide +kernel)
theorem mw_203 : (.instanceMethod y_Co_init : Cond) ∈ nn_gw := nn_at 203 (by decide +kernel) (by decide +kernel)
theorem mw_204 : (.code y_Co_init b_Co_init 1 none : Cond) ∈ nn_gw := nn_at 204 (by decide +kernel) (by decide +kernel)
theorem d_Cm_init_0 : decode b_Cm_init 0 = .ok (.aload_n 0, 1) := by decide +kernel
theorem d_Cm_init_1 : decode b_Cm_init 1 = .ok (.invokespecial 3, 3) := by decide +kernel
theorem d_Cm_init_4 : decode b_Cm_init 4 = .ok (.aload_n 0, 1) := by decide +kernel
theorem d_Cm_init_5 : decode b_Cm_init 5 = .ok (.new 9, 3) := by decide +kernel
theorem d_Cm_init_8 : decode b_Cm_init 8 = .ok (.dup, 1) := by decide +kernel
theorem d_Cm_init_9 : decode b_Cm_init 9 = .ok (.invokespecial 11, 3) := by decide +kernel
theorem d_Cm_init_12 : decode b_Cm_init 12 = .ok (.putfield 12, 3) := by decide +kernel
theorem d_Cm_init_15 : decode b_Cm_init 15 = .ok (.aload_n 0, 1) := by decide +kernel
theorem d_Cm_init_16 : decode b_Cm_init 16 = .ok (.new 18, 3) := by decide +kernel
theorem d_Cm_init_19 : decode b_Cm_init 19 = .ok (.dup, 1) := by decide +kernel
theorem d_Cm_init_20 : decode b_Cm_init 20 = .ok (.invokespecial 20, 3) := by decide +kernel
theorem d_Cm_init_23 : decode b_Cm_init 23 = .ok (.putfield 21, 3) := by decide +kernel
theorem d_Cm_init_26 : decode b_Cm_init 26 = .ok (.aload_n 0, 1) := by decide +kernel
theorem d_Cm_init_27 : decode b_Cm_init 27 = .ok (.new 25, 3) := by decide +kernel
theorem d_Cm_init_30 : decode b_Cm_init 30 = .ok (.dup, 1) := by decide +kernel
theorem d_Cm_init_31 : decode b_Cm_init 31 = .ok (.invokespecial 27, 3) := by decide +kernel
theorem d_Cm_init_34 : decode b_Cm_init 34 = .ok (.putfield 28, 3) := by decide +kernel
theorem d_Cm_init_37 : decode b_Cm_init 37 = .ok (.aload_n 0, 1) := by decide +kernel
theorem d_Cm_init_38 : decode b_Cm_init 38 = .ok (.iconst 0, 1) := by decide +kernel
theorem d_Cm_init_39 : decode b_Cm_init 39 = .ok (.putfield 32, 3) := by decide +kernel
theorem d_Cm_init_42 : decode b_Cm_init 42 = .ok (.aload_n 0, 1) := by decide +kernel
theorem d_Cm_init_43 : decode b_Cm_init 43 = .ok (.iconst (-1), 1) := by decide +kernel
theorem d_Cm_init_44 : decode b_Cm_init 44 = .ok (.putfield 36, 3) := by decide +kernel
theorem d_Cm_init_47 : decode b_Cm_init 47 = .ok (.aload_n 0, 1) := by decide +kernel
theorem d_Cm_init_48 : decode b_Cm_init 48 = .ok (.iconst (-1), 1) := by decide +kernel
theorem d_Cm_init_49 : decode b_Cm_init 49 = .ok (.putfield 39, 3) := by decide +kernel
theorem d_Cm_init_52 : decode b_Cm_init 52 = .ok (.return_, 1) := by decide +kernel

set_option maxHeartbeats 4000000 in
set_option maxRecDepth 100000 in
theorem i_Cm (l : Launch) (G : nn_G) (sz : Nat) (h0 : Nat) : Met l y_Cm_init w_Cm_init ({ frames := 3, cells := 101, slots := 1641, locals := 53 }) (nn_P G [.ref h0] [nc_o h0 2 [.null, .null, .null, .int 0, .int 0, .int 0]] sz) (va_Qv (fun u : Nat × Nat × Nat × Nat × Nat × Nat × Nat × Nat × Nat × Nat × Nat × (Nat → Nat) × List Nat => ∀ j, j < 90 → u.2.2.2.2.2.2.2.2.2.2.2.1 j ∈ u.2.2.2.2.2.2.2.2.2.2.2.2) (fun u t => va_P G.1 nn_cls ([nc_o h0 2 [.ref u.1, .ref u.2.2.2.2.1, .ref u.2.2.2.2.2.2.2.1, .int 0, .int (-1), .int (-1)], nc_o u.1 6 [.ref u.2.1, .ref u.2.2.1, .ref u.2.2.2.1, .int 0, .int 0], nc_q u.2.1 (G.2 3) 181 (fun _ => none), nc_i u.2.2.1 (G.2 0) 181 (fun _ => 0), nc_i u.2.2.2.1 (G.2 0) 181 (fun _ => 0), nc_o u.2.2.2.2.1 5 [.ref u.2.2.2.2.2.1, .int 0, .ref u.2.2.2.2.2.2.1, .int 0], nc_q u.2.2.2.2.2.1 (G.2 4) 90 (fun j => some (u.2.2.2.2.2.2.2.2.2.2.2.1 j)), nc_i u.2.2.2.2.2.2.1 (G.2 0) 5 (fun _ => 0), nc_o u.2.2.2.2.2.2.2.1 1 [.ref u.2.2.2.2.2.2.2.2.1, .ref u.2.2.2.2.2.2.2.2.2.1, .ref u.2.2.2.2.2.2.2.2.2.2.1, .int 0], nc_i u.2.2.2.2.2.2.2.2.1 (G.2 0) 180 (fun _ => 0), nc_i u.2.2.2.2.2.2.2.2.2.1 (G.2 0) 180 (fun _ => 0), nc_i u.2.2.2.2.2.2.2.2.2.2.1 (G.2 0) 180 (fun _ => 0)] ++ nz_pl u.2.2.2.2.2.2.2.2.2.2.2.2 (fun _ _ => 0)) t.heap ∧ va_D (va_A [nc_o h0 2 [.null, .null, .null, .int 0, .int 0, .int 0]] sz) ([nc_o h0 2 [.ref u.1, .ref u.2.2.2.2.1, .ref u.2.2.2.2.2.2.2.1, .int 0, .int (-1), .int (-1)], nc_o u.1 6 [.ref u.2.1, .ref u.2.2.1, .ref u.2.2.2.1, .int 0, .int 0], nc_q u.2.1 (G.2 3) 181 (fun _ => none), nc_i u.2.2.1 (G.2 0) 181 (fun _ => 0), nc_i u.2.2.2.1 (G.2 0) 181 (fun _ => 0), nc_o u.2.2.2.2.1 5 [.ref u.2.2.2.2.2.1, .int 0, .ref u.2.2.2.2.2.2.1, .int 0], nc_q u.2.2.2.2.2.1 (G.2 4) 90 (fun j => some (u.2.2.2.2.2.2.2.2.2.2.2.1 j)), nc_i u.2.2.2.2.2.2.1 (G.2 0) 5 (fun _ => 0), nc_o u.2.2.2.2.2.2.2.1 1 [.ref u.2.2.2.2.2.2.2.2.1, .ref u.2.2.2.2.2.2.2.2.2.1, .ref u.2.2.2.2.2.2.2.2.2.2.1, .int 0], nc_i u.2.2.2.2.2.2.2.2.1 (G.2 0) 180 (fun _ => 0), nc_i u.2.2.2.2.2.2.2.2.2.1 (G.2 0) 180 (fun _ => 0), nc_i u.2.2.2.2.2.2.2.2.2.2.1 (G.2 0) 180 (fun _ => 0)] ++ nz_pl u.2.2.2.2.2.2.2.2.2.2.2.2 (fun _ _ => 0))) (va_A [nc_o h0 2 [.null, .null, .null, .int 0, .int 0, .int 0]] sz)) 101 1641 (va_A [nc_o h0 2 [.null, .null, .null, .int 0, .int 0, .int 0]] sz) := by
  refine Met.ofW (cc := b_Cm_init) (maxL := 1) (ret := none) (by decide) rfl ?_
  intro p e s m args below meth c s₁ B hml hv
  obtain ⟨rfl, hsz, hP, hK, hD0, hN⟩ := hv
  have hx := B.exec
  have hb := B.bytes
  have hr := B.returns
  have hts := atoms_spec (ws := w_Cm_init) B.pre
  have hg : ∀ w ∈ nn_gw, w.before _ s = true := fun w h => hts w (List.mem_cons_of_mem _ h)
  have hown : s.vm.findClass R_Cm = some m.cls := findClass_of_methodNamed B.named
  have hlocks := B.notSynchronized
  have hin : meth.name = "<init>" := (name_of_methodNamed B.named B.method).1
  subst hsz
  have hD := hD0.self (sz := s.heap.size)
  generalize hAe : va_A [nc_o h0 2 [.null, .null, .null, .int 0, .int 0, .int 0]] s.heap.size = A at hD ⊢
  have hA : ∀ q : Nat, s.heap.size ≤ q → A q := fun q h => by rw [← hAe]; exact Or.inr h
  have hS : va_S A s.heap s.heap [] := va_S.rf
  have hP : va_P G.1 nn_cls [nc_o h0 2 [.null, .null, .null, .int 0, .int 0, .int 0]] s.heap := hP
  have hl := lv_entry ([.ref h0]) (n := 1) (Nat.le_of_ble_eq_true rfl)
  rw [lg_entry_eq]
  generalize (lg_sl ([.ref h0]) ++ List.replicate (1 - (lg_sl ([.ref h0])).length) Slot.unset).toArray = ls at hl ⊢
  have hl : lv_has ls 1 [(0, .ref h0)] := hl
  refine lv_aload_n hx hb d_Cm_init_0 rfl (lv_at hl 0 rfl) ?_
  refine W.objInit hx hb hown (hg _ mw_122) (hg _ mw_115) (hg _ nn_oc) rfl (by rw [hml]; exact hl.1) rfl d_Cm_init_1 (Nat.le_of_ble_eq_true rfl) (Nat.le_of_ble_eq_true rfl) ?_
  refine W.eq (g2 := F0 m 4 ls []) rfl ?_
  refine lv_aload_n hx hb d_Cm_init_4 rfl (lv_at hl 0 rfl) ?_
  refine va_new (ci := 6) (fs := [.null, .null, .null, .int 0, .int 0]) (C := R_Ts) (T := T_Ts) (N := 5) hx hb hg in_Ts t_Ts ok_Ts hown (hg _ mw_123) (hg _ mw_124) (hg _ mw_89) hK hP hD hS hA rfl fd_Ts (Nat.le_of_ble_eq_true rfl) (Nat.le_of_ble_eq_true rfl) d_Cm_init_5 (fun q1 H hP hD hS => ?_)
  have hP : va_P G.1 nn_cls [nc_o h0 2 [.null, .null, .null, .int 0, .int 0, .int 0], nc_o q1 6 [.null, .null, .null, .int 0, .int 0]] H := hP
  have hD : va_D A [nc_o h0 2 [.null, .null, .null, .int 0, .int 0, .int 0], nc_o q1 6 [.null, .null, .null, .int 0, .int 0]] := hD
  refine W.widen (k := 1) (n := 5) (Nat.le_of_ble_eq_true rfl) (Nat.le_of_ble_eq_true rfl) ?_
  refine lv_dup hx hb d_Cm_init_8 rfl ?_
  have hPc := hP.sub (ws' := [nc_o q1 6 [.null, .null, .null, .int 0, .int 0]]) [1] rfl
  have hDc := hD.sub (ws' := [nc_o q1 6 [.null, .null, .null, .int 0, .int 0]]) [1] (by decide) rfl
  have hFc := va_free (wc := [nc_o q1 6 [.null, .null, .null, .int 0, .int 0]]) hD hS hA [1] rfl
  refine va_callv (va_runIN (As := []) (rest := [.ref q1, .ref h0]) ⟨hx, hb, hml, hown, hts⟩ (i_Ts l G _ q1) ⟨va_cnB (host := "NestPascal") 0 hts (nn_gd mw_127) rfl rfl rfl (hN _ (by decide)) (hg _ mw_89) (by decide +kernel) ⟨Nat.le_of_ble_eq_true rfl, Nat.le_of_ble_eq_true rfl⟩, rfl, hg _ mw_126⟩ (nn_preS hPc hDc hK hN) rfl rfl hl.1 rfl (lv_room (Nat.le_of_ble_eq_true rfl)) d_Cm_init_9 ⟨(Nat.le_of_ble_eq_true rfl), (Nat.le_of_ble_eq_true rfl)⟩) hS (fun q _ h => hFc q h) hFc (fun u2 t H locs ht hvm hw hB hz1 hk1 hS => ?_)
  obtain ⟨hP1, hD1⟩ := hB
  rw [ht] at hP1
  obtain ⟨hP, hD⟩ := va_join (wr := [nc_o h0 2 [.null, .null, .null, .int 0, .int 0, .int 0]]) (w1 := [nc_o q1 6 [.ref u2.1, .ref u2.2.1, .ref u2.2.2, .int 0, .int 0], nc_q u2.1 (G.2 3) 181 (fun _ => none), nc_i u2.2.1 (G.2 0) 181 (fun _ => 0), nc_i u2.2.2 (G.2 0) 181 (fun _ => 0)]) hP hD [1] [0] rfl rfl (by decide) (by decide) hk1 hFc hP1 hD1
  have hP : va_P G.1 nn_cls [nc_o h0 2 [.null, .null, .null, .int 0, .int 0, .int 0], nc_o q1 6 [.ref u2.1, .ref u2.2.1, .ref u2.2.2, .int 0, .int 0], nc_q u2.1 (G.2 3) 181 (fun _ => none), nc_i u2.2.1 (G.2 0) 181 (fun _ => 0), nc_i u2.2.2 (G.2 0) 181 (fun _ => 0)] H := hP
  have hD : va_D A [nc_o h0 2 [.null, .null, .null, .int 0, .int 0, .int 0], nc_o q1 6 [.ref u2.1, .ref u2.2.1, .ref u2.2.2, .int 0, .int 0], nc_q u2.1 (G.2 3) 181 (fun _ => none), nc_i u2.2.1 (G.2 0) 181 (fun _ => 0), nc_i u2.2.2 (G.2 0) 181 (fun _ => 0)] := hD
  refine W.widen (k := 4) (n := 548) (Nat.le_of_ble_eq_true rfl) (Nat.le_of_ble_eq_true rfl) ?_
  refine va_putF (D := G.1) (ci := 2) (v := .ref q1) (ty := .object "NestPascal$Tokens") (C := R_Cm) (T := T_Cm) (N := 6) hx hb hg in_Cm t_Cm ok_Cm nm_Cm hown hK hP hD hS 0 rfl rfl 0 (by decide) (hg _ mw_219) (fun _ h9 => h9) rfl hin rfl (by decide +kernel) rfl rfl (Nat.le_of_ble_eq_true rfl) d_Cm_init_12 (fun H locs hP hD hS => ?_)
  have hP : va_P G.1 nn_cls [nc_o h0 2 [.ref q1, .null, .null, .int 0, .int 0, .int 0], nc_o q1 6 [.ref u2.1, .ref u2.2.1, .ref u2.2.2, .int 0, .int 0], nc_q u2.1 (G.2 3) 181 (fun _ => none), nc_i u2.2.1 (G.2 0) 181 (fun _ => 0), nc_i u2.2.2 (G.2 0) 181 (fun _ => 0)] H := hP
  have hD : va_D A [nc_o h0 2 [.ref q1, .null, .null, .int 0, .int 0, .int 0], nc_o q1 6 [.ref u2.1, .ref u2.2.1, .ref u2.2.2, .int 0, .int 0], nc_q u2.1 (G.2 3) 181 (fun _ => none), nc_i u2.2.1 (G.2 0) 181 (fun _ => 0), nc_i u2.2.2 (G.2 0) 181 (fun _ => 0)] := hD
  refine lv_aload_n hx hb d_Cm_init_15 rfl (lv_at hl 0 rfl) ?_
  refine va_new (ci := 5) (fs := [.null, .int 0, .null, .int 0]) (C := R_Ns) (T := T_Ns) (N := 4) hx hb hg in_Ns t_Ns ok_Ns hown (hg _ mw_149) (hg _ mw_150) (hg _ mw_90) hK hP hD hS hA rfl fd_Ns (Nat.le_of_ble_eq_true rfl) (Nat.le_of_ble_eq_true rfl) d_Cm_init_16 (fun q3 H hP hD hS => ?_)
  have hP : va_P G.1 nn_cls [nc_o h0 2 [.ref q1, .null, .null, .int 0, .int 0, .int 0], nc_o q1 6 [.ref u2.1, .ref u2.2.1, .ref u2.2.2, .int 0, .int 0], nc_q u2.1 (G.2 3) 181 (fun _ => none), nc_i u2.2.1 (G.2 0) 181 (fun _ => 0), nc_i u2.2.2 (G.2 0) 181 (fun _ => 0), nc_o q3 5 [.null, .int 0, .null, .int 0]] H := hP
  have hD : va_D A [nc_o h0 2 [.ref q1, .null, .null, .int 0, .int 0, .int 0], nc_o q1 6 [.ref u2.1, .ref u2.2.1, .ref u2.2.2, .int 0, .int 0], nc_q u2.1 (G.2 3) 181 (fun _ => none), nc_i u2.2.1 (G.2 0) 181 (fun _ => 0), nc_i u2.2.2 (G.2 0) 181 (fun _ => 0), nc_o q3 5 [.null, .int 0, .null, .int 0]] := hD
  refine W.widen (k := 5) (n := 552) (Nat.le_of_ble_eq_true rfl) (Nat.le_of_ble_eq_true rfl) ?_
  refine lv_dup hx hb d_Cm_init_19 rfl ?_
  have hPc := hP.sub (ws' := [nc_o q3 5 [.null, .int 0, .null, .int 0]]) [5] rfl
  have hDc := hD.sub (ws' := [nc_o q3 5 [.null, .int 0, .null, .int 0]]) [5] (by decide) rfl
  have hFc := va_free (wc := [nc_o q3 5 [.null, .int 0, .null, .int 0]]) hD hS hA [5] rfl
  refine va_callv (va_runI (As := []) (rest := [.ref q3, .ref h0]) ⟨hx, hb, hml, hown, hts⟩ (i_Ns l G _ q3) (cwI 0 hts (nn_gd mw_153) rfl rfl rfl (hg _ mw_90) (hg _ mw_151) (hg _ mw_152) rfl (by decide +kernel) ⟨Nat.le_of_ble_eq_true rfl, Nat.le_of_ble_eq_true rfl⟩) (nn_preS hPc hDc hK hN) rfl rfl hl.1 rfl (lv_room (Nat.le_of_ble_eq_true rfl)) d_Cm_init_20 ⟨(Nat.le_of_ble_eq_true rfl), (Nat.le_of_ble_eq_true rfl)⟩) hS (fun q _ h => hFc q h) hFc (fun u4 t H locs ht hvm hw hB hz1 hk1 hS => ?_)
  obtain ⟨z5, z6, z7, z8⟩ := u4
  dsimp only at hB hw
  have hdn : ∀ j, j < 90 → z7 j ∈ z8 := hw
  obtain ⟨hP1, hD1⟩ := hB
  rw [ht] at hP1
  obtain ⟨hP, hD⟩ := va_join (wr := [nc_o h0 2 [.ref q1, .null, .null, .int 0, .int 0, .int 0], nc_o q1 6 [.ref u2.1, .ref u2.2.1, .ref u2.2.2, .int 0, .int 0], nc_q u2.1 (G.2 3) 181 (fun _ => none), nc_i u2.2.1 (G.2 0) 181 (fun _ => 0), nc_i u2.2.2 (G.2 0) 181 (fun _ => 0)]) (w1 := ([nc_o q3 5 [.ref z5, .int 0, .ref z6, .int 0], nc_q z5 (G.2 4) 90 (fun j => some (z7 j)), nc_i z6 (G.2 0) 5 (fun _ => 0)] ++ nz_pl z8 (fun _ _ => 0))) hP hD [5] [0, 1, 2, 3, 4] rfl rfl (by decide) (by decide) hk1 hFc hP1 hD1
  have hP : va_P G.1 nn_cls ([nc_o h0 2 [.ref q1, .null, .null, .int 0, .int 0, .int 0], nc_o q1 6 [.ref u2.1, .ref u2.2.1, .ref u2.2.2, .int 0, .int 0], nc_q u2.1 (G.2 3) 181 (fun _ => none), nc_i u2.2.1 (G.2 0) 181 (fun _ => 0), nc_i u2.2.2 (G.2 0) 181 (fun _ => 0), nc_o q3 5 [.ref z5, .int 0, .ref z6, .int 0], nc_q z5 (G.2 4) 90 (fun j => some (z7 j)), nc_i z6 (G.2 0) 5 (fun _ => 0)] ++ nz_pl z8 (fun _ _ => 0)) H := hP
  have hD : va_D A ([nc_o h0 2 [.ref q1, .null, .null, .int 0, .int 0, .int 0], nc_o q1 6 [.ref u2.1, .ref u2.2.1, .ref u2.2.2, .int 0, .int 0], nc_q u2.1 (G.2 3) 181 (fun _ => none), nc_i u2.2.1 (G.2 0) 181 (fun _ => 0), nc_i u2.2.2 (G.2 0) 181 (fun _ => 0), nc_o q3 5 [.ref z5, .int 0, .ref z6, .int 0], nc_q z5 (G.2 4) 90 (fun j => some (z7 j)), nc_i z6 (G.2 0) 5 (fun _ => 0)] ++ nz_pl z8 (fun _ _ => 0)) := hD
  refine W.widen (k := 97) (n := 1097) (Nat.le_of_ble_eq_true rfl) (Nat.le_of_ble_eq_true rfl) ?_
  refine va_putF (D := G.1) (ci := 2) (v := .ref q3) (ty := .object "NestPascal$Names") (C := R_Cm) (T := T_Cm) (N := 6) hx hb hg in_Cm t_Cm ok_Cm nm_Cm hown hK hP hD hS 0 rfl rfl 1 (by decide) (hg _ mw_220) (fun _ h9 => h9) rfl hin rfl (by decide +kernel) rfl rfl (Nat.le_of_ble_eq_true rfl) d_Cm_init_23 (fun H locs hP hD hS => ?_)
  have hP : va_P G.1 nn_cls ([nc_o h0 2 [.ref q1, .ref q3, .null, .int 0, .int 0, .int 0], nc_o q1 6 [.ref u2.1, .ref u2.2.1, .ref u2.2.2, .int 0, .int 0], nc_q u2.1 (G.2 3) 181 (fun _ => none), nc_i u2.2.1 (G.2 0) 181 (fun _ => 0), nc_i u2.2.2 (G.2 0) 181 (fun _ => 0), nc_o q3 5 [.ref z5, .int 0, .ref z6, .int 0], nc_q z5 (G.2 4) 90 (fun j => some (z7 j)), nc_i z6 (G.2 0) 5 (fun _ => 0)] ++ nz_pl z8 (fun _ _ => 0)) H := hP
  have hD : va_D A ([nc_o h0 2 [.ref q1, .ref q3, .null, .int 0, .int 0, .int 0], nc_o q1 6 [.ref u2.1, .ref u2.2.1, .ref u2.2.2, .int 0, .int 0], nc_q u2.1 (G.2 3) 181 (fun _ => none), nc_i u2.2.1 (G.2 0) 181 (fun _ => 0), nc_i u2.2.2 (G.2 0) 181 (fun _ => 0), nc_o q3 5 [.ref z5, .int 0, .ref z6, .int 0], nc_q z5 (G.2 4) 90 (fun j => some (z7 j)), nc_i z6 (G.2 0) 5 (fun _ => 0)] ++ nz_pl z8 (fun _ _ => 0)) := hD
  refine lv_aload_n hx hb d_Cm_init_26 rfl (lv_at hl 0 rfl) ?_
  refine va_new (ci := 1) (fs := [.null, .null, .null, .int 0]) (C := R_Co) (T := T_Co) (N := 4) hx hb hg in_Co t_Co ok_Co hown (hg _ mw_200) (hg _ mw_201) (hg _ mw_92) hK hP hD hS hA rfl fd_Co (Nat.le_of_ble_eq_true rfl) (Nat.le_of_ble_eq_true rfl) d_Cm_init_27 (fun q9 H hP hD hS => ?_)
  have hP := hP.swap
  have hD := hD.swap
  have hP : va_P G.1 nn_cls ([nc_o h0 2 [.ref q1, .ref q3, .null, .int 0, .int 0, .int 0], nc_o q1 6 [.ref u2.1, .ref u2.2.1, .ref u2.2.2, .int 0, .int 0], nc_q u2.1 (G.2 3) 181 (fun _ => none), nc_i u2.2.1 (G.2 0) 181 (fun _ => 0), nc_i u2.2.2 (G.2 0) 181 (fun _ => 0), nc_o q3 5 [.ref z5, .int 0, .ref z6, .int 0], nc_q z5 (G.2 4) 90 (fun j => some (z7 j)), nc_i z6 (G.2 0) 5 (fun _ => 0), nc_o q9 1 [.null, .null, .null, .int 0]] ++ nz_pl z8 (fun _ _ => 0)) H := hP
  have hD : va_D A ([nc_o h0 2 [.ref q1, .ref q3, .null, .int 0, .int 0, .int 0], nc_o q1 6 [.ref u2.1, .ref u2.2.1, .ref u2.2.2, .int 0, .int 0], nc_q u2.1 (G.2 3) 181 (fun _ => none), nc_i u2.2.1 (G.2 0) 181 (fun _ => 0), nc_i u2.2.2 (G.2 0) 181 (fun _ => 0), nc_o q3 5 [.ref z5, .int 0, .ref z6, .int 0], nc_q z5 (G.2 4) 90 (fun j => some (z7 j)), nc_i z6 (G.2 0) 5 (fun _ => 0), nc_o q9 1 [.null, .null, .null, .int 0]] ++ nz_pl z8 (fun _ _ => 0)) := hD
  refine W.widen (k := 98) (n := 1101) (Nat.le_of_ble_eq_true rfl) (Nat.le_of_ble_eq_true rfl) ?_
  refine lv_dup hx hb d_Cm_init_30 rfl ?_
  have hPc := hP.sub (ws' := [nc_o q9 1 [.null, .null, .null, .int 0]]) [8] rfl
  have hDc := hD.sub (ws' := [nc_o q9 1 [.null, .null, .null, .int 0]]) [8] (by decide) rfl
  have hFc := va_free (wc := [nc_o q9 1 [.null, .null, .null, .int 0]]) hD hS hA [8] rfl
  refine va_callv (va_runIN (As := []) (rest := [.ref q9, .ref h0]) ⟨hx, hb, hml, hown, hts⟩ (i_Co l G _ q9) ⟨va_cnB (host := "NestPascal") 0 hts (nn_gd mw_204) rfl rfl rfl (hN _ (by decide)) (hg _ mw_92) (by decide +kernel) ⟨Nat.le_of_ble_eq_true rfl, Nat.le_of_ble_eq_true rfl⟩, rfl, hg _ mw_203⟩ (nn_preS hPc hDc hK hN) rfl rfl hl.1 rfl (lv_room (Nat.le_of_ble_eq_true rfl)) d_Cm_init_31 ⟨(Nat.le_of_ble_eq_true rfl), (Nat.le_of_ble_eq_true rfl)⟩) hS (fun q _ h => hFc q h) hFc (fun u10 t H locs ht hvm hw hB hz1 hk1 hS => ?_)
  obtain ⟨hP1, hD1⟩ := hB
  rw [ht] at hP1
  obtain ⟨hP, hD⟩ := va_joinQ (wr := [nc_o h0 2 [.ref q1, .ref q3, .null, .int 0, .int 0, .int 0], nc_o q1 6 [.ref u2.1, .ref u2.2.1, .ref u2.2.2, .int 0, .int 0], nc_q u2.1 (G.2 3) 181 (fun _ => none), nc_i u2.2.1 (G.2 0) 181 (fun _ => 0), nc_i u2.2.2 (G.2 0) 181 (fun _ => 0), nc_o q3 5 [.ref z5, .int 0, .ref z6, .int 0], nc_q z5 (G.2 4) 90 (fun j => some (z7 j)), nc_i z6 (G.2 0) 5 (fun _ => 0)]) (w1 := [nc_o q9 1 [.ref u10.1, .ref u10.2.1, .ref u10.2.2, .int 0], nc_i u10.1 (G.2 0) 180 (fun _ => 0), nc_i u10.2.1 (G.2 0) 180 (fun _ => 0), nc_i u10.2.2 (G.2 0) 180 (fun _ => 0)]) hP hD [8] [0, 1, 2, 3, 4, 5, 6, 7] rfl rfl (by decide) (by decide) hk1 hFc hP1 hD1
  have hP : va_P G.1 nn_cls ([nc_o h0 2 [.ref q1, .ref q3, .null, .int 0, .int 0, .int 0], nc_o q1 6 [.ref u2.1, .ref u2.2.1, .ref u2.2.2, .int 0, .int 0], nc_q u2.1 (G.2 3) 181 (fun _ => none), nc_i u2.2.1 (G.2 0) 181 (fun _ => 0), nc_i u2.2.2 (G.2 0) 181 (fun _ => 0), nc_o q3 5 [.ref z5, .int 0, .ref z6, .int 0], nc_q z5 (G.2 4) 90 (fun j => some (z7 j)), nc_i z6 (G.2 0) 5 (fun _ => 0), nc_o q9 1 [.ref u10.1, .ref u10.2.1, .ref u10.2.2, .int 0], nc_i u10.1 (G.2 0) 180 (fun _ => 0), nc_i u10.2.1 (G.2 0) 180 (fun _ => 0), nc_i u10.2.2 (G.2 0) 180 (fun _ => 0)] ++ nz_pl z8 (fun _ _ => 0)) H := hP
  have hD : va_D A ([nc_o h0 2 [.ref q1, .ref q3, .null, .int 0, .int 0, .int 0], nc_o q1 6 [.ref u2.1, .ref u2.2.1, .ref u2.2.2, .int 0, .int 0], nc_q u2.1 (G.2 3) 181 (fun _ => none), nc_i u2.2.1 (G.2 0) 181 (fun _ => 0), nc_i u2.2.2 (G.2 0) 181 (fun _ => 0), nc_o q3 5 [.ref z5, .int 0, .ref z6, .int 0], nc_q z5 (G.2 4) 90 (fun j => some (z7 j)), nc_i z6 (G.2 0) 5 (fun _ => 0), nc_o q9 1 [.ref u10.1, .ref u10.2.1, .ref u10.2.2, .int 0], nc_i u10.1 (G.2 0) 180 (fun _ => 0), nc_i u10.2.1 (G.2 0) 180 (fun _ => 0), nc_i u10.2.2 (G.2 0) 180 (fun _ => 0)] ++ nz_pl z8 (fun _ _ => 0)) := hD
  refine W.widen (k := 101) (n := 1641) (Nat.le_of_ble_eq_true rfl) (Nat.le_of_ble_eq_true rfl) ?_
  refine va_putF (D := G.1) (ci := 2) (v := .ref q9) (ty := .object "NestPascal$Code") (C := R_Cm) (T := T_Cm) (N := 6) hx hb hg in_Cm t_Cm ok_Cm nm_Cm hown hK hP hD hS 0 rfl rfl 2 (by decide) (hg _ mw_221) (fun _ h9 => h9) rfl hin rfl (by decide +kernel) rfl rfl (Nat.le_of_ble_eq_true rfl) d_Cm_init_34 (fun H locs hP hD hS => ?_)
  have hP : va_P G.1 nn_cls ([nc_o h0 2 [.ref q1, .ref q3, .ref q9, .int 0, .int 0, .int 0], nc_o q1 6 [.ref u2.1, .ref u2.2.1, .ref u2.2.2, .int 0, .int 0], nc_q u2.1 (G.2 3) 181 (fun _ => none), nc_i u2.2.1 (G.2 0) 181 (fun _ => 0), nc_i u2.2.2 (G.2 0) 181 (fun _ => 0), nc_o q3 5 [.ref z5, .int 0, .ref z6, .int 0], nc_q z5 (G.2 4) 90 (fun j => some (z7 j)), nc_i z6 (G.2 0) 5 (fun _ => 0), nc_o q9 1 [.ref u10.1, .ref u10.2.1, .ref u10.2.2, .int 0], nc_i u10.1 (G.2 0) 180 (fun _ => 0), nc_i u10.2.1 (G.2 0) 180 (fun _ => 0), nc_i u10.2.2 (G.2 0) 180 (fun _ => 0)] ++ nz_pl z8 (fun _ _ => 0)) H := hP
  have hD : va_D A ([nc_o h0 2 [.ref q1, .ref q3, .ref q9, .int 0, .int 0, .int 0], nc_o q1 6 [.ref u2.1, .ref u2.2.1, .ref u2.2.2, .int 0, .int 0], nc_q u2.1 (G.2 3) 181 (fun _ => none), nc_i u2.2.1 (G.2 0) 181 (fun _ => 0), nc_i u2.2.2 (G.2 0) 181 (fun _ => 0), nc_o q3 5 [.ref z5, .int 0, .ref z6, .int 0], nc_q z5 (G.2 4) 90 (fun j => some (z7 j)), nc_i z6 (G.2 0) 5 (fun _ => 0), nc_o q9 1 [.ref u10.1, .ref u10.2.1, .ref u10.2.2, .int 0], nc_i u10.1 (G.2 0) 180 (fun _ => 0), nc_i u10.2.1 (G.2 0) 180 (fun _ => 0), nc_i u10.2.2 (G.2 0) 180 (fun _ => 0)] ++ nz_pl z8 (fun _ _ => 0)) := hD
  refine lv_aload_n hx hb d_Cm_init_37 rfl (lv_at hl 0 rfl) ?_
  refine lv_iconst (v := 0) hx hb d_Cm_init_38 (by decide) ?_
  refine va_put (D := G.1) (ci := 2) (v := .int 0) (ty := .int) (C := R_Cm) (T := T_Cm) (N := 6) hx hb hg in_Cm t_Cm ok_Cm nm_Cm hown hK hP hD hS 0 rfl rfl 3 (by decide) (hg _ mw_222) (fun _ h9 => h9) rfl (by decide +kernel) rfl rfl (Nat.le_of_ble_eq_true rfl) d_Cm_init_39 (fun H locs hP hD hS => ?_)
  have hP : va_P G.1 nn_cls ([nc_o h0 2 [.ref q1, .ref q3, .ref q9, .int 0, .int 0, .int 0], nc_o q1 6 [.ref u2.1, .ref u2.2.1, .ref u2.2.2, .int 0, .int 0], nc_q u2.1 (G.2 3) 181 (fun _ => none), nc_i u2.2.1 (G.2 0) 181 (fun _ => 0), nc_i u2.2.2 (G.2 0) 181 (fun _ => 0), nc_o q3 5 [.ref z5, .int 0, .ref z6, .int 0], nc_q z5 (G.2 4) 90 (fun j => some (z7 j)), nc_i z6 (G.2 0) 5 (fun _ => 0), nc_o q9 1 [.ref u10.1, .ref u10.2.1, .ref u10.2.2, .int 0], nc_i u10.1 (G.2 0) 180 (fun _ => 0), nc_i u10.2.1 (G.2 0) 180 (fun _ => 0), nc_i u10.2.2 (G.2 0) 180 (fun _ => 0)] ++ nz_pl z8 (fun _ _ => 0)) H := hP
  have hD : va_D A ([nc_o h0 2 [.ref q1, .ref q3, .ref q9, .int 0, .int 0, .int 0], nc_o q1 6 [.ref u2.1, .ref u2.2.1, .ref u2.2.2, .int 0, .int 0], nc_q u2.1 (G.2 3) 181 (fun _ => none), nc_i u2.2.1 (G.2 0) 181 (fun _ => 0), nc_i u2.2.2 (G.2 0) 181 (fun _ => 0), nc_o q3 5 [.ref z5, .int 0, .ref z6, .int 0], nc_q z5 (G.2 4) 90 (fun j => some (z7 j)), nc_i z6 (G.2 0) 5 (fun _ => 0), nc_o q9 1 [.ref u10.1, .ref u10.2.1, .ref u10.2.2, .int 0], nc_i u10.1 (G.2 0) 180 (fun _ => 0), nc_i u10.2.1 (G.2 0) 180 (fun _ => 0), nc_i u10.2.2 (G.2 0) 180 (fun _ => 0)] ++ nz_pl z8 (fun _ _ => 0)) := hD
  refine lv_aload_n hx hb d_Cm_init_42 rfl (lv_at hl 0 rfl) ?_
  refine lv_iconst (v := (-1)) hx hb d_Cm_init_43 (by decide) ?_
  refine va_put (D := G.1) (ci := 2) (v := .int (-1)) (ty := .int) (C := R_Cm) (T := T_Cm) (N := 6) hx hb hg in_Cm t_Cm ok_Cm nm_Cm hown hK hP hD hS 0 rfl rfl 4 (by decide) (hg _ mw_223) (fun _ h9 => h9) rfl (by decide +kernel) rfl rfl (Nat.le_of_ble_eq_true rfl) d_Cm_init_44 (fun H locs hP hD hS => ?_)
  have hP : va_P G.1 nn_cls ([nc_o h0 2 [.ref q1, .ref q3, .ref q9, .int 0, .int (-1), .int 0], nc_o q1 6 [.ref u2.1, .ref u2.2.1, .ref u2.2.2, .int 0, .int 0], nc_q u2.1 (G.2 3) 181 (fun _ => none), nc_i u2.2.1 (G.2 0) 181 (fun _ => 0), nc_i u2.2.2 (G.2 0) 181 (fun _ => 0), nc_o q3 5 [.ref z5, .int 0, .ref z6, .int 0], nc_q z5 (G.2 4) 90 (fun j => some (z7 j)), nc_i z6 (G.2 0) 5 (fun _ => 0), nc_o q9 1 [.ref u10.1, .ref u10.2.1, .ref u10.2.2, .int 0], nc_i u10.1 (G.2 0) 180 (fun _ => 0), nc_i u10.2.1 (G.2 0) 180 (fun _ => 0), nc_i u10.2.2 (G.2 0) 180 (fun _ => 0)] ++ nz_pl z8 (fun _ _ => 0)) H := hP
  have hD : va_D A ([nc_o h0 2 [.ref q1, .ref q3, .ref q9, .int 0, .int (-1), .int 0], nc_o q1 6 [.ref u2.1, .ref u2.2.1, .ref u2.2.2, .int 0, .int 0], nc_q u2.1 (G.2 3) 181 (fun _ => none), nc_i u2.2.1 (G.2 0) 181 (fun _ => 0), nc_i u2.2.2 (G.2 0) 181 (fun _ => 0), nc_o q3 5 [.ref z5, .int 0, .ref z6, .int 0], nc_q z5 (G.2 4) 90 (fun j => some (z7 j)), nc_i z6 (G.2 0) 5 (fun _ => 0), nc_o q9 1 [.ref u10.1, .ref u10.2.1, .ref u10.2.2, .int 0], nc_i u10.1 (G.2 0) 180 (fun _ => 0), nc_i u10.2.1 (G.2 0) 180 (fun _ => 0), nc_i u10.2.2 (G.2 0) 180 (fun _ => 0)] ++ nz_pl z8 (fun _ _ => 0)) := hD
  refine lv_aload_n hx hb d_Cm_init_47 rfl (lv_at hl 0 rfl) ?_
  refine lv_iconst (v := (-1)) hx hb d_Cm_init_48 (by decide) ?_
  refine va_put (D := G.1) (ci := 2) (v := .int (-1)) (ty := .int) (C := R_Cm) (T := T_Cm) (N := 6) hx hb hg in_Cm t_Cm ok_Cm nm_Cm hown hK hP hD hS 0 rfl rfl 5 (by decide) (hg _ mw_224) (fun _ h9 => h9) rfl (by decide +kernel) rfl rfl (Nat.le_of_ble_eq_true rfl) d_Cm_init_49 (fun H locs hP hD hS => ?_)
  have hP : va_P G.1 nn_cls ([nc_o h0 2 [.ref q1, .ref q3, .ref q9, .int 0, .int (-1), .int (-1)], nc_o q1 6 [.ref u2.1, .ref u2.2.1, .ref u2.2.2, .int 0, .int 0], nc_q u2.1 (G.2 3) 181 (fun _ => none), nc_i u2.2.1 (G.2 0) 181 (fun _ => 0), nc_i u2.2.2 (G.2 0) 181 (fun _ => 0), nc_o q3 5 [.ref z5, .int 0, .ref z6, .int 0], nc_q z5 (G.2 4) 90 (fun j => some (z7 j)), nc_i z6 (G.2 0) 5 (fun _ => 0), nc_o q9 1 [.ref u10.1, .ref u10.2.1, .ref u10.2.2, .int 0], nc_i u10.1 (G.2 0) 180 (fun _ => 0), nc_i u10.2.1 (G.2 0) 180 (fun _ => 0), nc_i u10.2.2 (G.2 0) 180 (fun _ => 0)] ++ nz_pl z8 (fun _ _ => 0)) H := hP
  have hD : va_D A ([nc_o h0 2 [.ref q1, .ref q3, .ref q9, .int 0, .int (-1), .int (-1)], nc_o q1 6 [.ref u2.1, .ref u2.2.1, .ref u2.2.2, .int 0, .int 0], nc_q u2.1 (G.2 3) 181 (fun _ => none), nc_i u2.2.1 (G.2 0) 181 (fun _ => 0), nc_i u2.2.2 (G.2 0) 181 (fun _ => 0), nc_o q3 5 [.ref z5, .int 0, .ref z6, .int 0], nc_q z5 (G.2 4) 90 (fun j => some (z7 j)), nc_i z6 (G.2 0) 5 (fun _ => 0), nc_o q9 1 [.ref u10.1, .ref u10.2.1, .ref u10.2.2, .int 0], nc_i u10.1 (G.2 0) 180 (fun _ => 0), nc_i u10.2.1 (G.2 0) 180 (fun _ => 0), nc_i u10.2.2 (G.2 0) 180 (fun _ => 0)] ++ nz_pl z8 (fun _ _ => 0)) := hD
  refine W.widen (k := 101) (n := 1641) (Nat.le_of_ble_eq_true rfl) (Nat.le_of_ble_eq_true rfl) ?_
  have hP9 := hP.part (cx := [nc_o h0 2 [.ref q1, .ref q3, .ref q9, .int 0, .int (-1), .int (-1)], nc_o q1 6 [.ref u2.1, .ref u2.2.1, .ref u2.2.2, .int 0, .int 0], nc_q u2.1 (G.2 3) 181 (fun _ => none), nc_i u2.2.1 (G.2 0) 181 (fun _ => 0), nc_i u2.2.2 (G.2 0) 181 (fun _ => 0), nc_o q3 5 [.ref z5, .int 0, .ref z6, .int 0], nc_q z5 (G.2 4) 90 (fun j => some (z7 j)), nc_i z6 (G.2 0) 5 (fun _ => 0), nc_o q9 1 [.ref u10.1, .ref u10.2.1, .ref u10.2.2, .int 0], nc_i u10.1 (G.2 0) 180 (fun _ => 0), nc_i u10.2.1 (G.2 0) 180 (fun _ => 0), nc_i u10.2.2 (G.2 0) 180 (fun _ => 0)]) [0, 1, 2, 3, 4, 5, 6, 7, 8, 9, 10, 11] rfl
  have hD9 := hD.part (cx := [nc_o h0 2 [.ref q1, .ref q3, .ref q9, .int 0, .int (-1), .int (-1)], nc_o q1 6 [.ref u2.1, .ref u2.2.1, .ref u2.2.2, .int 0, .int 0], nc_q u2.1 (G.2 3) 181 (fun _ => none), nc_i u2.2.1 (G.2 0) 181 (fun _ => 0), nc_i u2.2.2 (G.2 0) 181 (fun _ => 0), nc_o q3 5 [.ref z5, .int 0, .ref z6, .int 0], nc_q z5 (G.2 4) 90 (fun j => some (z7 j)), nc_i z6 (G.2 0) 5 (fun _ => 0), nc_o q9 1 [.ref u10.1, .ref u10.2.1, .ref u10.2.2, .int 0], nc_i u10.1 (G.2 0) 180 (fun _ => 0), nc_i u10.2.1 (G.2 0) 180 (fun _ => 0), nc_i u10.2.2 (G.2 0) 180 (fun _ => 0)]) [0, 1, 2, 3, 4, 5, 6, 7, 8, 9, 10, 11] (by decide) rfl
  exact W.vret hx hb hr (fun t ht hW => ⟨⟨(q1, u2.1, u2.2.1, u2.2.2, q3, z5, z6, q9, u10.1, u10.2.1, u10.2.2, z7, z8), rfl, hdn, ⟨by rw [ht]; exact hP9, hD9⟩⟩, hS.F ht⟩) hS.2.2 d_Cm_init_52

theorem mw_114 : (.methodLink R_NP 1 ⟨"java/lang/Object", "<init>", "()V"⟩ : Cond) ∈ nn_gw := nn_at 114 (by decide +kernel) (by decide +kernel)
theorem mw_117 : (.classLink R_NP 17 R_Cm : Cond) ∈ nn_gw := nn_at 117 (by decide +kernel) (by decide +kernel)
theorem mw_118 : (.instantiable R_Cm 6 : Cond) ∈ nn_gw := nn_at 118 (by decide +kernel) (by decide +kernel)
theorem mw_120 : (.instanceMethod y_Cm_init : Cond) ∈ nn_gw := nn_at 120 (by decide +kernel) (by decide +kernel)
theorem mw_121 : (.code y_Cm_init b_Cm_init 1 none : Cond) ∈ nn_gw := nn_at 121 (by decide +kernel) (by decide +kernel)
theorem mw_147 : (.arrayClass .char : Cond) ∈ nn_gw := nn_at 147 (by decide +kernel) (by decide +kernel)
theorem mw_238 : (.classLink R_NP 24 R_Co : Cond) ∈ nn_gw := nn_at 238 (by decide +kernel) (by decide +kernel)
theorem mw_240 : (.classLink R_NP 31 R_Ma : Cond) ∈ nn_gw := nn_at 240 (by decide +kernel) (by decide +kernel)
theorem mw_241 : (.instantiable R_Ma 8 : Cond) ∈ nn_gw := nn_at 241 (by decide +kernel) (by decide +kernel)
theorem mw_243 : (.instanceMethod y_Ma_init : Cond) ∈ nn_gw := nn_at 243 (by decide +kernel) (by decide +kernel)
theorem mw_244 : (.code y_Ma_init b_Ma_init 1 none : Cond) ∈ nn_gw := nn_at 244 (by decide +kernel) (by decide +kernel)
theorem d_NP_init_0 : decode b_NP_init 0 = .ok (.aload_n 0, 1) := by decide +kernel
theorem d_NP_init_1 : decode b_NP_init 1 = .ok (.invokespecial 1, 3) := by decide +kernel
theorem d_NP_init_4 : decode b_NP_init 4 = .ok (.aload_n 0, 1) := by decide +kernel
theorem d_NP_init_5 : decode b_NP_init 5 = .ok (.sipush 180, 3) := by decide +kernel
theorem d_NP_init_8 : decode b_NP_init 8 = .ok (.newarray .char, 2) := by decide +kernel
theorem d_NP_init_10 : decode b_NP_init 10 = .ok (.putfield 9, 3) := by decide +kernel
theorem d_NP_init_13 : decode b_NP_init 13 = .ok (.aload_n 0, 1) := by decide +kernel
theorem d_NP_init_14 : decode b_NP_init 14 = .ok (.iconst 0, 1) := by decide +kernel
theorem d_NP_init_15 : decode b_NP_init 15 = .ok (.putfield 13, 3) := by decide +kernel
theorem d_NP_init_18 : decode b_NP_init 18 = .ok (.aload_n 0, 1) := by decide +kernel
theorem d_NP_init_19 : decode b_NP_init 19 = .ok (.new 17, 3) := by decide +kernel
theorem d_NP_init_22 : decode b_NP_init 22 = .ok (.dup, 1) := by decide +kernel
theorem d_NP_init_23 : decode b_NP_init 23 = .ok (.invokespecial 19, 3) := by decide +kernel
theorem d_NP_init_26 : decode b_NP_init 26 = .ok (.putfield 20, 3) := by decide +kernel
theorem d_NP_init_29 : decode b_NP_init 29 = .ok (.aload_n 0, 1) := by decide +kernel
theorem d_NP_init_30 : decode b_NP_init 30 = .ok (.new 24, 3) := by decide +kernel
theorem d_NP_init_33 : decode b_NP_init 33 = .ok (.dup, 1) := by decide +kernel
theorem d_NP_init_34 : decode b_NP_init 34 = .ok (.invokespecial 26, 3) := by decide +kernel
theorem d_NP_init_37 : decode b_NP_init 37 = .ok (.putfield 27, 3) := by decide +kernel
theorem d_NP_init_40 : decode b_NP_init 40 = .ok (.aload_n 0, 1) := by decide +kernel
theorem d_NP_init_41 : decode b_NP_init 41 = .ok (.new 31, 3) := by decide +kernel
theorem d_NP_init_44 : decode b_NP_init 44 = .ok (.dup, 1) := by decide +kernel
theorem d_NP_init_45 : decode b_NP_init 45 = .ok (.invokespecial 33, 3) := by decide +kernel
theorem d_NP_init_48 : decode b_NP_init 48 = .ok (.putfield 34, 3) := by decide +kernel
theorem d_NP_init_51 : decode b_NP_init 51 = .ok (.return_, 1) := by decide +kernel

set_option maxHeartbeats 4000000 in
set_option maxRecDepth 100000 in
theorem i_NP (l : Launch) (G : nn_G) (sz : Nat) (h0 : Nat) : Met l y_NP_init w_NP_init ({ frames := 4, cells := 110, slots := 2587, locals := 73 }) (nn_P G [.ref h0] [nc_o h0 0 [.null, .int 0, .null, .null, .null]] sz) (va_Qv (fun u : Nat × Nat × Nat × Nat × Nat × Nat × Nat × Nat × Nat × Nat × Nat × Nat × Nat × Nat × Nat × Nat × Nat × Nat × Nat × Nat × (Nat → Nat) × List Nat => ∀ j, j < 90 → u.2.2.2.2.2.2.2.2.2.2.2.2.2.2.2.2.2.2.2.2.1 j ∈ u.2.2.2.2.2.2.2.2.2.2.2.2.2.2.2.2.2.2.2.2.2) (fun u t => va_P G.1 nn_cls ([nc_o h0 0 [.ref u.1, .int 0, .ref u.2.1, .ref u.2.2.2.2.2.2.2.2.2.2.2.2.2.1, .ref u.2.2.2.2.2.2.2.2.2.2.2.2.2.2.2.2.2.1], nc_i u.1 (G.2 1) 180 (fun _ => 0), nc_o u.2.1 2 [.ref u.2.2.1, .ref u.2.2.2.2.2.2.1, .ref u.2.2.2.2.2.2.2.2.2.1, .int 0, .int (-1), .int (-1)], nc_o u.2.2.1 6 [.ref u.2.2.2.1, .ref u.2.2.2.2.1, .ref u.2.2.2.2.2.1, .int 0, .int 0], nc_q u.2.2.2.1 (G.2 3) 181 (fun _ => none), nc_i u.2.2.2.2.1 (G.2 0) 181 (fun _ => 0), nc_i u.2.2.2.2.2.1 (G.2 0) 181 (fun _ => 0), nc_o u.2.2.2.2.2.2.1 5 [.ref u.2.2.2.2.2.2.2.1, .int 0, .ref u.2.2.2.2.2.2.2.2.1, .int 0], nc_q u.2.2.2.2.2.2.2.1 (G.2 4) 90 (fun j => some (u.2.2.2.2.2.2.2.2.2.2.2.2.2.2.2.2.2.2.2.2.1 j)), nc_i u.2.2.2.2.2.2.2.2.1 (G.2 0) 5 (fun _ => 0), nc_o u.2.2.2.2.2.2.2.2.2.1 1 [.ref u.2.2.2.2.2.2.2.2.2.2.1, .ref u.2.2.2.2.2.2.2.2.2.2.2.1, .ref u.2.2.2.2.2.2.2.2.2.2.2.2.1, .int 0], nc_i u.2.2.2.2.2.2.2.2.2.2.1 (G.2 0) 180 (fun _ => 0), nc_i u.2.2.2.2.2.2.2.2.2.2.2.1 (G.2 0) 180 (fun _ => 0), nc_i u.2.2.2.2.2.2.2.2.2.2.2.2.1 (G.2 0) 180 (fun _ => 0), nc_o u.2.2.2.2.2.2.2.2.2.2.2.2.2.1 1 [.ref u.2.2.2.2.2.2.2.2.2.2.2.2.2.2.1, .ref u.2.2.2.2.2.2.2.2.2.2.2.2.2.2.2.1, .ref u.2.2.2.2.2.2.2.2.2.2.2.2.2.2.2.2.1, .int 0], nc_i u.2.2.2.2.2.2.2.2.2.2.2.2.2.2.1 (G.2 0) 180 (fun _ => 0), nc_i u.2.2.2.2.2.2.2.2.2.2.2.2.2.2.2.1 (G.2 0) 180 (fun _ => 0), nc_i u.2.2.2.2.2.2.2.2.2.2.2.2.2.2.2.2.1 (G.2 0) 180 (fun _ => 0), nc_o u.2.2.2.2.2.2.2.2.2.2.2.2.2.2.2.2.2.1 3 [.ref u.2.2.2.2.2.2.2.2.2.2.2.2.2.2.2.2.2.2.1, .ref u.2.2.2.2.2.2.2.2.2.2.2.2.2.2.2.2.2.2.2.1, .int 0, .int 0, .int 0, .int (-1), .int 0, .int 0], nc_i u.2.2.2.2.2.2.2.2.2.2.2.2.2.2.2.2.2.2.1 (G.2 0) 200 (fun _ => 0), nc_i u.2.2.2.2.2.2.2.2.2.2.2.2.2.2.2.2.2.2.2.1 (G.2 0) 8 (fun _ => 0)] ++ nz_pl u.2.2.2.2.2.2.2.2.2.2.2.2.2.2.2.2.2.2.2.2.2 (fun _ _ => 0)) t.heap ∧ va_D (va_A [nc_o h0 0 [.null, .int 0, .null, .null, .null]] sz) ([nc_o h0 0 [.ref u.1, .int 0, .ref u.2.1, .ref u.2.2.2.2.2.2.2.2.2.2.2.2.2.1, .ref u.2.2.2.2.2.2.2.2.2.2.2.2.2.2.2.2.2.1], nc_i u.1 (G.2 1) 180 (fun _ => 0), nc_o u.2.1 2 [.ref u.2.2.1, .ref u.2.2.2.2.2.2.1, .ref u.2.2.2.2.2.2.2.2.2.1, .int 0, .int (-1), .int (-1)], nc_o u.2.2.1 6 [.ref u.2.2.2.1, .ref u.2.2.2.2.1, .ref u.2.2.2.2.2.1, .int 0, .int 0], nc_q u.2.2.2.1 (G.2 3) 181 (fun _ => none), nc_i u.2.2.2.2.1 (G.2 0) 181 (fun _ => 0), nc_i u.2.2.2.2.2.1 (G.2 0) 181 (fun _ => 0), nc_o u.2.2.2.2.2.2.1 5 [.ref u.2.2.2.2.2.2.2.1, .int 0, .ref u.2.2.2.2.2.2.2.2.1, .int 0], nc_q u.2.2.2.2.2.2.2.1 (G.2 4) 90 (fun j => some (u.2.2.2.2.2.2.2.2.2.2.2.2.2.2.2.2.2.2.2.2.1 j)), nc_i u.2.2.2.2.2.2.2.2.1 (G.2 0) 5 (fun _ => 0), nc_o u.2.2.2.2.2.2.2.2.2.1 1 [.ref u.2.2.2.2.2.2.2.2.2.2.1, .ref u.2.2.2.2.2.2.2.2.2.2.2.1, .ref u.2.2.2.2.2.2.2.2.2.2.2.2.1, .int 0], nc_i u.2.2.2.2.2.2.2.2.2.2.1 (G.2 0) 180 (fun _ => 0), nc_i u.2.2.2.2.2.2.2.2.2.2.2.1 (G.2 0) 180 (fun _ => 0), nc_i u.2.2.2.2.2.2.2.2.2.2.2.2.1 (G.2 0) 180 (fun _ => 0), nc_o u.2.2.2.2.2.2.2.2.2.2.2.2.2.1 1 [.ref u.2.2.2.2.2.2.2.2.2.2.2.2.2.2.1, .ref u.2.2.2.2.2.2.2.2.2.2.2.2.2.2.2.1, .ref u.2.2.2.2.2.2.2.2.2.2.2.2.2.2.2.2.1, .int 0], nc_i u.2.2.2.2.2.2.2.2.2.2.2.2.2.2.1 (G.2 0) 180 (fun _ => 0), nc_i u.2.2.2.2.2.2.2.2.2.2.2.2.2.2.2.1 (G.2 0) 180 (fun _ => 0), nc_i u.2.2.2.2.2.2.2.2.2.2.2.2.2.2.2.2.1 (G.2 0) 180 (fun _ => 0), nc_o u.2.2.2.2.2.2.2.2.2.2.2.2.2.2.2.2.2.1 3 [.ref u.2.2.2.2.2.2.2.2.2.2.2.2.2.2.2.2.2.2.1, .ref u.2.2.2.2.2.2.2.2.2.2.2.2.2.2.2.2.2.2.2.1, .int 0, .int 0, .int 0, .int (-1), .int 0, .int 0], nc_i u.2.2.2.2.2.2.2.2.2.2.2.2.2.2.2.2.2.2.1 (G.2 0) 200 (fun _ => 0), nc_i u.2.2.2.2.2.2.2.2.2.2.2.2.2.2.2.2.2.2.2.1 (G.2 0) 8 (fun _ => 0)] ++ nz_pl u.2.2.2.2.2.2.2.2.2.2.2.2.2.2.2.2.2.2.2.2.2 (fun _ _ => 0))) (va_A [nc_o h0 0 [.null, .int 0, .null, .null, .null]] sz)) 110 2587 (va_A [nc_o h0 0 [.null, .int 0, .null, .null, .null]] sz) := by
  refine Met.ofW (cc := b_NP_init) (maxL := 1) (ret := none) (by decide) rfl ?_
  intro p e s m args below meth c s₁ B hml hv
  obtain ⟨rfl, hsz, hP, hK, hD0, hN⟩ := hv
  have hx := B.exec
  have hb := B.bytes
  have hr := B.returns
  have hts := atoms_spec (ws := w_NP_init) B.pre
  have hg : ∀ w ∈ nn_gw, w.before _ s = true := fun w h => hts w (List.mem_cons_of_mem _ h)
  have hown : s.vm.findClass R_NP = some m.cls := findClass_of_methodNamed B.named
  have hlocks := B.notSynchronized
  have hin : meth.name = "<init>" := (name_of_methodNamed B.named B.method).1
  subst hsz
  have hD := hD0.self (sz := s.heap.size)
  generalize hAe : va_A [nc_o h0 0 [.null, .int 0, .null, .null, .null]] s.heap.size = A at hD ⊢
  have hA : ∀ q : Nat, s.heap.size ≤ q → A q := fun q h => by rw [← hAe]; exact Or.inr h
  have hS : va_S A s.heap s.heap [] := va_S.rf
  have hP : va_P G.1 nn_cls [nc_o h0 0 [.null, .int 0, .null, .null, .null]] s.heap := hP
  have hl := lv_entry ([.ref h0]) (n := 1) (Nat.le_of_ble_eq_true rfl)
  rw [lg_entry_eq]
  generalize (lg_sl ([.ref h0]) ++ List.replicate (1 - (lg_sl ([.ref h0])).length) Slot.unset).toArray = ls at hl ⊢
  have hl : lv_has ls 1 [(0, .ref h0)] := hl
  refine lv_aload_n hx hb d_NP_init_0 rfl (lv_at hl 0 rfl) ?_
  refine W.objInit hx hb hown (hg _ mw_114) (hg _ mw_115) (hg _ nn_oc) rfl (by rw [hml]; exact hl.1) rfl d_NP_init_1 (Nat.le_of_ble_eq_true rfl) (Nat.le_of_ble_eq_true rfl) ?_
  refine W.eq (g2 := F0 m 4 ls []) rfl ?_
  refine lv_aload_n hx hb d_NP_init_4 rfl (lv_at hl 0 rfl) ?_
  refine lv_sipush (v := 180) hx hb d_NP_init_5 (by decide) ?_
  refine nb_newa (atype := .char) (a0 := (180, .inl (fun _ => 0))) (N' := 180) (ty := .char) (cA := G.2 1) hx hb (hg _ mw_147) rfl hK hP hD hS hA 1 rfl (fun _ => rfl) (by decide) (by decide) (by decide) (Nat.le_of_ble_eq_true rfl) (Nat.le_of_ble_eq_true rfl) d_NP_init_8 (fun q1 H hP hD hS => ?_)
  have hP : va_P G.1 nn_cls [nc_o h0 0 [.null, .int 0, .null, .null, .null], nc_i q1 (G.2 1) 180 (fun _ => 0)] H := hP
  have hD : va_D A [nc_o h0 0 [.null, .int 0, .null, .null, .null], nc_i q1 (G.2 1) 180 (fun _ => 0)] := hD
  refine W.widen (k := 1) (n := 180) (Nat.le_of_ble_eq_true rfl) (Nat.le_of_ble_eq_true rfl) ?_
  refine va_putF (D := G.1) (ci := 0) (v := .ref q1) (ty := .array .char) (C := R_NP) (T := T_NP) (N := 5) hx hb hg in_NP t_NP ok_NP nm_NP hown hK hP hD hS 0 rfl rfl 0 (by decide) (hg _ mw_271) (fun _ h9 => h9) rfl hin rfl (by decide +kernel) rfl rfl (Nat.le_of_ble_eq_true rfl) d_NP_init_10 (fun H locs hP hD hS => ?_)
  have hP : va_P G.1 nn_cls [nc_o h0 0 [.ref q1, .int 0, .null, .null, .null], nc_i q1 (G.2 1) 180 (fun _ => 0)] H := hP
  have hD : va_D A [nc_o h0 0 [.ref q1, .int 0, .null, .null, .null], nc_i q1 (G.2 1) 180 (fun _ => 0)] := hD
  refine lv_aload_n hx hb d_NP_init_13 rfl (lv_at hl 0 rfl) ?_
  refine lv_iconst (v := 0) hx hb d_NP_init_14 (by decide) ?_
  refine va_put (D := G.1) (ci := 0) (v := .int 0) (ty := .int) (C := R_NP) (T := T_NP) (N := 5) hx hb hg in_NP t_NP ok_NP nm_NP hown hK hP hD hS 0 rfl rfl 1 (by decide) (hg _ mw_272) (fun _ h9 => h9) rfl (by decide +kernel) rfl rfl (Nat.le_of_ble_eq_true rfl) d_NP_init_15 (fun H locs hP hD hS => ?_)
  have hP : va_P G.1 nn_cls [nc_o h0 0 [.ref q1, .int 0, .null, .null, .null], nc_i q1 (G.2 1) 180 (fun _ => 0)] H := hP
  have hD : va_D A [nc_o h0 0 [.ref q1, .int 0, .null, .null, .null], nc_i q1 (G.2 1) 180 (fun _ => 0)] := hD
  refine lv_aload_n hx hb d_NP_init_18 rfl (lv_at hl 0 rfl) ?_
  refine va_new (ci := 2) (fs := [.null, .null, .null, .int 0, .int 0, .int 0]) (C := R_Cm) (T := T_Cm) (N := 6) hx hb hg in_Cm t_Cm ok_Cm hown (hg _ mw_117) (hg _ mw_118) (hg _ mw_88) hK hP hD hS hA rfl fd_Cm (Nat.le_of_ble_eq_true rfl) (Nat.le_of_ble_eq_true rfl) d_NP_init_19 (fun q2 H hP hD hS => ?_)
  have hP : va_P G.1 nn_cls [nc_o h0 0 [.ref q1, .int 0, .null, .null, .null], nc_i q1 (G.2 1) 180 (fun _ => 0), nc_o q2 2 [.null, .null, .null, .int 0, .int 0, .int 0]] H := hP
  have hD : va_D A [nc_o h0 0 [.ref q1, .int 0, .null, .null, .null], nc_i q1 (G.2 1) 180 (fun _ => 0), nc_o q2 2 [.null, .null, .null, .int 0, .int 0, .int 0]] := hD
  refine W.widen (k := 2) (n := 186) (Nat.le_of_ble_eq_true rfl) (Nat.le_of_ble_eq_true rfl) ?_
  refine lv_dup hx hb d_NP_init_22 rfl ?_
  have hPc := hP.sub (ws' := [nc_o q2 2 [.null, .null, .null, .int 0, .int 0, .int 0]]) [2] rfl
  have hDc := hD.sub (ws' := [nc_o q2 2 [.null, .null, .null, .int 0, .int 0, .int 0]]) [2] (by decide) rfl
  have hFc := va_free (wc := [nc_o q2 2 [.null, .null, .null, .int 0, .int 0, .int 0]]) hD hS hA [2] rfl
  refine va_callv (va_runIN (As := []) (rest := [.ref q2, .ref h0]) ⟨hx, hb, hml, hown, hts⟩ (i_Cm l G _ q2) ⟨va_cnB (host := "NestPascal") 0 hts (nn_gd mw_121) rfl rfl rfl (hN _ (by decide)) (hg _ mw_88) (by decide +kernel) ⟨Nat.le_of_ble_eq_true rfl, Nat.le_of_ble_eq_true rfl⟩, rfl, hg _ mw_120⟩ (nn_preS hPc hDc hK hN) rfl rfl hl.1 rfl (lv_room (Nat.le_of_ble_eq_true rfl)) d_NP_init_23 ⟨(Nat.le_of_ble_eq_true rfl), (Nat.le_of_ble_eq_true rfl)⟩) hS (fun q _ h => hFc q h) hFc (fun u3 t H locs ht hvm hw hB hz1 hk1 hS => ?_)
  obtain ⟨z4, z5, z6, z7, z8, z9, z10, z11, z12, z13, z14, z15, z16⟩ := u3
  dsimp only at hB hw
  have hdn : ∀ j, j < 90 → z15 j ∈ z16 := hw
  obtain ⟨hP1, hD1⟩ := hB
  rw [ht] at hP1
  obtain ⟨hP, hD⟩ := va_join (wr := [nc_o h0 0 [.ref q1, .int 0, .null, .null, .null], nc_i q1 (G.2 1) 180 (fun _ => 0)]) (w1 := ([nc_o q2 2 [.ref z4, .ref z8, .ref z11, .int 0, .int (-1), .int (-1)], nc_o z4 6 [.ref z5, .ref z6, .ref z7, .int 0, .int 0], nc_q z5 (G.2 3) 181 (fun _ => none), nc_i z6 (G.2 0) 181 (fun _ => 0), nc_i z7 (G.2 0) 181 (fun _ => 0), nc_o z8 5 [.ref z9, .int 0, .ref z10, .int 0], nc_q z9 (G.2 4) 90 (fun j => some (z15 j)), nc_i z10 (G.2 0) 5 (fun _ => 0), nc_o z11 1 [.ref z12, .ref z13, .ref z14, .int 0], nc_i z12 (G.2 0) 180 (fun _ => 0), nc_i z13 (G.2 0) 180 (fun _ => 0), nc_i z14 (G.2 0) 180 (fun _ => 0)] ++ nz_pl z16 (fun _ _ => 0))) hP hD [2] [0, 1] rfl rfl (by decide) (by decide) hk1 hFc hP1 hD1
  have hP : va_P G.1 nn_cls ([nc_o h0 0 [.ref q1, .int 0, .null, .null, .null], nc_i q1 (G.2 1) 180 (fun _ => 0), nc_o q2 2 [.ref z4, .ref z8, .ref z11, .int 0, .int (-1), .int (-1)], nc_o z4 6 [.ref z5, .ref z6, .ref z7, .int 0, .int 0], nc_q z5 (G.2 3) 181 (fun _ => none), nc_i z6 (G.2 0) 181 (fun _ => 0), nc_i z7 (G.2 0) 181 (fun _ => 0), nc_o z8 5 [.ref z9, .int 0, .ref z10, .int 0], nc_q z9 (G.2 4) 90 (fun j => some (z15 j)), nc_i z10 (G.2 0) 5 (fun _ => 0), nc_o z11 1 [.ref z12, .ref z13, .ref z14, .int 0], nc_i z12 (G.2 0) 180 (fun _ => 0), nc_i z13 (G.2 0) 180 (fun _ => 0), nc_i z14 (G.2 0) 180 (fun _ => 0)] ++ nz_pl z16 (fun _ _ => 0)) H := hP
  have hD : va_D A ([nc_o h0 0 [.ref q1, .int 0, .null, .null, .null], nc_i q1 (G.2 1) 180 (fun _ => 0), nc_o q2 2 [.ref z4, .ref z8, .ref z11, .int 0, .int (-1), .int (-1)], nc_o z4 6 [.ref z5, .ref z6, .ref z7, .int 0, .int 0], nc_q z5 (G.2 3) 181 (fun _ => none), nc_i z6 (G.2 0) 181 (fun _ => 0), nc_i z7 (G.2 0) 181 (fun _ => 0), nc_o z8 5 [.ref z9, .int 0, .ref z10, .int 0], nc_q z9 (G.2 4) 90 (fun j => some (z15 j)), nc_i z10 (G.2 0) 5 (fun _ => 0), nc_o z11 1 [.ref z12, .ref z13, .ref z14, .int 0], nc_i z12 (G.2 0) 180 (fun _ => 0), nc_i z13 (G.2 0) 180 (fun _ => 0), nc_i z14 (G.2 0) 180 (fun _ => 0)] ++ nz_pl z16 (fun _ _ => 0)) := hD
  refine W.widen (k := 103) (n := 1827) (Nat.le_of_ble_eq_true rfl) (Nat.le_of_ble_eq_true rfl) ?_
  refine va_putF (D := G.1) (ci := 0) (v := .ref q2) (ty := .object "NestPascal$Compiler") (C := R_NP) (T := T_NP) (N := 5) hx hb hg in_NP t_NP ok_NP nm_NP hown hK hP hD hS 0 rfl rfl 2 (by decide) (hg _ mw_273) (fun _ h9 => h9) rfl hin rfl (by decide +kernel) rfl rfl (Nat.le_of_ble_eq_true rfl) d_NP_init_26 (fun H locs hP hD hS => ?_)
  have hP : va_P G.1 nn_cls ([nc_o h0 0 [.ref q1, .int 0, .ref q2, .null, .null], nc_i q1 (G.2 1) 180 (fun _ => 0), nc_o q2 2 [.ref z4, .ref z8, .ref z11, .int 0, .int (-1), .int (-1)], nc_o z4 6 [.ref z5, .ref z6, .ref z7, .int 0, .int 0], nc_q z5 (G.2 3) 181 (fun _ => none), nc_i z6 (G.2 0) 181 (fun _ => 0), nc_i z7 (G.2 0) 181 (fun _ => 0), nc_o z8 5 [.ref z9, .int 0, .ref z10, .int 0], nc_q z9 (G.2 4) 90 (fun j => some (z15 j)), nc_i z10 (G.2 0) 5 (fun _ => 0), nc_o z11 1 [.ref z12, .ref z13, .ref z14, .int 0], nc_i z12 (G.2 0) 180 (fun _ => 0), nc_i z13 (G.2 0) 180 (fun _ => 0), nc_i z14 (G.2 0) 180 (fun _ => 0)] ++ nz_pl z16 (fun _ _ => 0)) H := hP
  have hD : va_D A ([nc_o h0 0 [.ref q1, .int 0, .ref q2, .null, .null], nc_i q1 (G.2 1) 180 (fun _ => 0), nc_o q2 2 [.ref z4, .ref z8, .ref z11, .int 0, .int (-1), .int (-1)], nc_o z4 6 [.ref z5, .ref z6, .ref z7, .int 0, .int 0], nc_q z5 (G.2 3) 181 (fun _ => none), nc_i z6 (G.2 0) 181 (fun _ => 0), nc_i z7 (G.2 0) 181 (fun _ => 0), nc_o z8 5 [.ref z9, .int 0, .ref z10, .int 0], nc_q z9 (G.2 4) 90 (fun j => some (z15 j)), nc_i z10 (G.2 0) 5 (fun _ => 0), nc_o z11 1 [.ref z12, .ref z13, .ref z14, .int 0], nc_i z12 (G.2 0) 180 (fun _ => 0), nc_i z13 (G.2 0) 180 (fun _ => 0), nc_i z14 (G.2 0) 180 (fun _ => 0)] ++ nz_pl z16 (fun _ _ => 0)) := hD
  refine lv_aload_n hx hb d_NP_init_29 rfl (lv_at hl 0 rfl) ?_
  refine va_new (ci := 1) (fs := [.null, .null, .null, .int 0]) (C := R_Co) (T := T_Co) (N := 4) hx hb hg in_Co t_Co ok_Co hown (hg _ mw_238) (hg _ mw_201) (hg _ mw_92) hK hP hD hS hA rfl fd_Co (Nat.le_of_ble_eq_true rfl) (Nat.le_of_ble_eq_true rfl) d_NP_init_30 (fun q17 H hP hD hS => ?_)
  have hP := hP.swap
  have hD := hD.swap
  have hP : va_P G.1 nn_cls ([nc_o h0 0 [.ref q1, .int 0, .ref q2, .null, .null], nc_i q1 (G.2 1) 180 (fun _ => 0), nc_o q2 2 [.ref z4, .ref z8, .ref z11, .int 0, .int (-1), .int (-1)], nc_o z4 6 [.ref z5, .ref z6, .ref z7, .int 0, .int 0], nc_q z5 (G.2 3) 181 (fun _ => none), nc_i z6 (G.2 0) 181 (fun _ => 0), nc_i z7 (G.2 0) 181 (fun _ => 0), nc_o z8 5 [.ref z9, .int 0, .ref z10, .int 0], nc_q z9 (G.2 4) 90 (fun j => some (z15 j)), nc_i z10 (G.2 0) 5 (fun _ => 0), nc_o z11 1 [.ref z12, .ref z13, .ref z14, .int 0], nc_i z12 (G.2 0) 180 (fun _ => 0), nc_i z13 (G.2 0) 180 (fun _ => 0), nc_i z14 (G.2 0) 180 (fun _ => 0), nc_o q17 1 [.null, .null, .null, .int 0]] ++ nz_pl z16 (fun _ _ => 0)) H := hP
  have hD : va_D A ([nc_o h0 0 [.ref q1, .int 0, .ref q2, .null, .null], nc_i q1 (G.2 1) 180 (fun _ => 0), nc_o q2 2 [.ref z4, .ref z8, .ref z11, .int 0, .int (-1), .int (-1)], nc_o z4 6 [.ref z5, .ref z6, .ref z7, .int 0, .int 0], nc_q z5 (G.2 3) 181 (fun _ => none), nc_i z6 (G.2 0) 181 (fun _ => 0), nc_i z7 (G.2 0) 181 (fun _ => 0), nc_o z8 5 [.ref z9, .int 0, .ref z10, .int 0], nc_q z9 (G.2 4) 90 (fun j => some (z15 j)), nc_i z10 (G.2 0) 5 (fun _ => 0), nc_o z11 1 [.ref z12, .ref z13, .ref z14, .int 0], nc_i z12 (G.2 0) 180 (fun _ => 0), nc_i z13 (G.2 0) 180 (fun _ => 0), nc_i z14 (G.2 0) 180 (fun _ => 0), nc_o q17 1 [.null, .null, .null, .int 0]] ++ nz_pl z16 (fun _ _ => 0)) := hD
  refine W.widen (k := 104) (n := 1831) (Nat.le_of_ble_eq_true rfl) (Nat.le_of_ble_eq_true rfl) ?_
  refine lv_dup hx hb d_NP_init_33 rfl ?_
  have hPc := hP.sub (ws' := [nc_o q17 1 [.null, .null, .null, .int 0]]) [14] rfl
  have hDc := hD.sub (ws' := [nc_o q17 1 [.null, .null, .null, .int 0]]) [14] (by decide) rfl
  have hFc := va_free (wc := [nc_o q17 1 [.null, .null, .null, .int 0]]) hD hS hA [14] rfl
  refine va_callv (va_runIN (As := []) (rest := [.ref q17, .ref h0]) ⟨hx, hb, hml, hown, hts⟩ (i_Co l G _ q17) ⟨va_cnB (host := "NestPascal") 0 hts (nn_gd mw_204) rfl rfl rfl (hN _ (by decide)) (hg _ mw_92) (by decide +kernel) ⟨Nat.le_of_ble_eq_true rfl, Nat.le_of_ble_eq_true rfl⟩, rfl, hg _ mw_203⟩ (nn_preS hPc hDc hK hN) rfl rfl hl.1 rfl (lv_room (Nat.le_of_ble_eq_true rfl)) d_NP_init_34 ⟨(Nat.le_of_ble_eq_true rfl), (Nat.le_of_ble_eq_true rfl)⟩) hS (fun q _ h => hFc q h) hFc (fun u18 t H locs ht hvm hw hB hz1 hk1 hS => ?_)
  obtain ⟨hP1, hD1⟩ := hB
  rw [ht] at hP1
  obtain ⟨hP, hD⟩ := va_joinQ (wr := [nc_o h0 0 [.ref q1, .int 0, .ref q2, .null, .null], nc_i q1 (G.2 1) 180 (fun _ => 0), nc_o q2 2 [.ref z4, .ref z8, .ref z11, .int 0, .int (-1), .int (-1)], nc_o z4 6 [.ref z5, .ref z6, .ref z7, .int 0, .int 0], nc_q z5 (G.2 3) 181 (fun _ => none), nc_i z6 (G.2 0) 181 (fun _ => 0), nc_i z7 (G.2 0) 181 (fun _ => 0), nc_o z8 5 [.ref z9, .int 0, .ref z10, .int 0], nc_q z9 (G.2 4) 90 (fun j => some (z15 j)), nc_i z10 (G.2 0) 5 (fun _ => 0), nc_o z11 1 [.ref z12, .ref z13, .ref z14, .int 0], nc_i z12 (G.2 0) 180 (fun _ => 0), nc_i z13 (G.2 0) 180 (fun _ => 0), nc_i z14 (G.2 0) 180 (fun _ => 0)]) (w1 := [nc_o q17 1 [.ref u18.1, .ref u18.2.1, .ref u18.2.2, .int 0], nc_i u18.1 (G.2 0) 180 (fun _ => 0), nc_i u18.2.1 (G.2 0) 180 (fun _ => 0), nc_i u18.2.2 (G.2 0) 180 (fun _ => 0)]) hP hD [14] [0, 1, 2, 3, 4, 5, 6, 7, 8, 9, 10, 11, 12, 13] rfl rfl (by decide) (by decide) hk1 hFc hP1 hD1
  have hP : va_P G.1 nn_cls ([nc_o h0 0 [.ref q1, .int 0, .ref q2, .null, .null], nc_i q1 (G.2 1) 180 (fun _ => 0), nc_o q2 2 [.ref z4, .ref z8, .ref z11, .int 0, .int (-1), .int (-1)], nc_o z4 6 [.ref z5, .ref z6, .ref z7, .int 0, .int 0], nc_q z5 (G.2 3) 181 (fun _ => none), nc_i z6 (G.2 0) 181 (fun _ => 0), nc_i z7 (G.2 0) 181 (fun _ => 0), nc_o z8 5 [.ref z9, .int 0, .ref z10, .int 0], nc_q z9 (G.2 4) 90 (fun j => some (z15 j)), nc_i z10 (G.2 0) 5 (fun _ => 0), nc_o z11 1 [.ref z12, .ref z13, .ref z14, .int 0], nc_i z12 (G.2 0) 180 (fun _ => 0), nc_i z13 (G.2 0) 180 (fun _ => 0), nc_i z14 (G.2 0) 180 (fun _ => 0), nc_o q17 1 [.ref u18.1, .ref u18.2.1, .ref u18.2.2, .int 0], nc_i u18.1 (G.2 0) 180 (fun _ => 0), nc_i u18.2.1 (G.2 0) 180 (fun _ => 0), nc_i u18.2.2 (G.2 0) 180 (fun _ => 0)] ++ nz_pl z16 (fun _ _ => 0)) H := hP
  have hD : va_D A ([nc_o h0 0 [.ref q1, .int 0, .ref q2, .null, .null], nc_i q1 (G.2 1) 180 (fun _ => 0), nc_o q2 2 [.ref z4, .ref z8, .ref z11, .int 0, .int (-1), .int (-1)], nc_o z4 6 [.ref z5, .ref z6, .ref z7, .int 0, .int 0], nc_q z5 (G.2 3) 181 (fun _ => none), nc_i z6 (G.2 0) 181 (fun _ => 0), nc_i z7 (G.2 0) 181 (fun _ => 0), nc_o z8 5 [.ref z9, .int 0, .ref z10, .int 0], nc_q z9 (G.2 4) 90 (fun j => some (z15 j)), nc_i z10 (G.2 0) 5 (fun _ => 0), nc_o z11 1 [.ref z12, .ref z13, .ref z14, .int 0], nc_i z12 (G.2 0) 180 (fun _ => 0), nc_i z13 (G.2 0) 180 (fun _ => 0), nc_i z14 (G.2 0) 180 (fun _ => 0), nc_o q17 1 [.ref u18.1, .ref u18.2.1, .ref u18.2.2, .int 0], nc_i u18.1 (G.2 0) 180 (fun _ => 0), nc_i u18.2.1 (G.2 0) 180 (fun _ => 0), nc_i u18.2.2 (G.2 0) 180 (fun _ => 0)] ++ nz_pl z16 (fun _ _ => 0)) := hD
  refine W.widen (k := 107) (n := 2371) (Nat.le_of_ble_eq_true rfl) (Nat.le_of_ble_eq_true rfl) ?_
  refine va_putF (D := G.1) (ci := 0) (v := .ref q17) (ty := .object "NestPascal$Code") (C := R_NP) (T := T_NP) (N := 5) hx hb hg in_NP t_NP ok_NP nm_NP hown hK hP hD hS 0 rfl rfl 3 (by decide) (hg _ mw_274) (fun _ h9 => h9) rfl hin rfl (by decide +kernel) rfl rfl (Nat.le_of_ble_eq_true rfl) d_NP_init_37 (fun H locs hP hD hS => ?_)
  have hP : va_P G.1 nn_cls ([nc_o h0 0 [.ref q1, .int 0, .ref q2, .ref q17, .null], nc_i q1 (G.2 1) 180 (fun _ => 0), nc_o q2 2 [.ref z4, .ref z8, .ref z11, .int 0, .int (-1), .int (-1)], nc_o z4 6 [.ref z5, .ref z6, .ref z7, .int 0, .int 0], nc_q z5 (G.2 3) 181 (fun _ => none), nc_i z6 (G.2 0) 181 (fun _ => 0), nc_i z7 (G.2 0) 181 (fun _ => 0), nc_o z8 5 [.ref z9, .int 0, .ref z10, .int 0], nc_q z9 (G.2 4) 90 (fun j => some (z15 j)), nc_i z10 (G.2 0) 5 (fun _ => 0), nc_o z11 1 [.ref z12, .ref z13, .ref z14, .int 0], nc_i z12 (G.2 0) 180 (fun _ => 0), nc_i z13 (G.2 0) 180 (fun _ => 0), nc_i z14 (G.2 0) 180 (fun _ => 0), nc_o q17 1 [.ref u18.1, .ref u18.2.1, .ref u18.2.2, .int 0], nc_i u18.1 (G.2 0) 180 (fun _ => 0), nc_i u18.2.1 (G.2 0) 180 (fun _ => 0), nc_i u18.2.2 (G.2 0) 180 (fun _ => 0)] ++ nz_pl z16 (fun _ _ => 0)) H := hP
  have hD : va_D A ([nc_o h0 0 [.ref q1, .int 0, .ref q2, .ref q17, .null], nc_i q1 (G.2 1) 180 (fun _ => 0), nc_o q2 2 [.ref z4, .ref z8, .ref z11, .int 0, .int (-1), .int (-1)], nc_o z4 6 [.ref z5, .ref z6, .ref z7, .int 0, .int 0], nc_q z5 (G.2 3) 181 (fun _ => none), nc_i z6 (G.2 0) 181 (fun _ => 0), nc_i z7 (G.2 0) 181 (fun _ => 0), nc_o z8 5 [.ref z9, .int 0, .ref z10, .int 0], nc_q z9 (G.2 4) 90 (fun j => some (z15 j)), nc_i z10 (G.2 0) 5 (fun _ => 0), nc_o z11 1 [.ref z12, .ref z13, .ref z14, .int 0], nc_i z12 (G.2 0) 180 (fun _ => 0), nc_i z13 (G.2 0) 180 (fun _ => 0), nc_i z14 (G.2 0) 180 (fun _ => 0), nc_o q17 1 [.ref u18.1, .ref u18.2.1, .ref u18.2.2, .int 0], nc_i u18.1 (G.2 0) 180 (fun _ => 0), nc_i u18.2.1 (G.2 0) 180 (fun _ => 0), nc_i u18.2.2 (G.2 0) 180 (fun _ => 0)] ++ nz_pl z16 (fun _ _ => 0)) := hD
  refine lv_aload_n hx hb d_NP_init_40 rfl (lv_at hl 0 rfl) ?_
  refine va_new (ci := 3) (fs := [.null, .null, .int 0, .int 0, .int 0, .int 0, .int 0, .int 0]) (C := R_Ma) (T := T_Ma) (N := 8) hx hb hg in_Ma t_Ma ok_Ma hown (hg _ mw_240) (hg _ mw_241) (hg _ mw_93) hK hP hD hS hA rfl fd_Ma (Nat.le_of_ble_eq_true rfl) (Nat.le_of_ble_eq_true rfl) d_NP_init_41 (fun q19 H hP hD hS => ?_)
  have hP := hP.swap
  have hD := hD.swap
  have hP : va_P G.1 nn_cls ([nc_o h0 0 [.ref q1, .int 0, .ref q2, .ref q17, .null], nc_i q1 (G.2 1) 180 (fun _ => 0), nc_o q2 2 [.ref z4, .ref z8, .ref z11, .int 0, .int (-1), .int (-1)], nc_o z4 6 [.ref z5, .ref z6, .ref z7, .int 0, .int 0], nc_q z5 (G.2 3) 181 (fun _ => none), nc_i z6 (G.2 0) 181 (fun _ => 0), nc_i z7 (G.2 0) 181 (fun _ => 0), nc_o z8 5 [.ref z9, .int 0, .ref z10, .int 0], nc_q z9 (G.2 4) 90 (fun j => some (z15 j)), nc_i z10 (G.2 0) 5 (fun _ => 0), nc_o z11 1 [.ref z12, .ref z13, .ref z14, .int 0], nc_i z12 (G.2 0) 180 (fun _ => 0), nc_i z13 (G.2 0) 180 (fun _ => 0), nc_i z14 (G.2 0) 180 (fun _ => 0), nc_o q17 1 [.ref u18.1, .ref u18.2.1, .ref u18.2.2, .int 0], nc_i u18.1 (G.2 0) 180 (fun _ => 0), nc_i u18.2.1 (G.2 0) 180 (fun _ => 0), nc_i u18.2.2 (G.2 0) 180 (fun _ => 0), nc_o q19 3 [.null, .null, .int 0, .int 0, .int 0, .int 0, .int 0, .int 0]] ++ nz_pl z16 (fun _ _ => 0)) H := hP
  have hD : va_D A ([nc_o h0 0 [.ref q1, .int 0, .ref q2, .ref q17, .null], nc_i q1 (G.2 1) 180 (fun _ => 0), nc_o q2 2 [.ref z4, .ref z8, .ref z11, .int 0, .int (-1), .int (-1)], nc_o z4 6 [.ref z5, .ref z6, .ref z7, .int 0, .int 0], nc_q z5 (G.2 3) 181 (fun _ => none), nc_i z6 (G.2 0) 181 (fun _ => 0), nc_i z7 (G.2 0) 181 (fun _ => 0), nc_o z8 5 [.ref z9, .int 0, .ref z10, .int 0], nc_q z9 (G.2 4) 90 (fun j => some (z15 j)), nc_i z10 (G.2 0) 5 (fun _ => 0), nc_o z11 1 [.ref z12, .ref z13, .ref z14, .int 0], nc_i z12 (G.2 0) 180 (fun _ => 0), nc_i z13 (G.2 0) 180 (fun _ => 0), nc_i z14 (G.2 0) 180 (fun _ => 0), nc_o q17 1 [.ref u18.1, .ref u18.2.1, .ref u18.2.2, .int 0], nc_i u18.1 (G.2 0) 180 (fun _ => 0), nc_i u18.2.1 (G.2 0) 180 (fun _ => 0), nc_i u18.2.2 (G.2 0) 180 (fun _ => 0), nc_o q19 3 [.null, .null, .int 0, .int 0, .int 0, .int 0, .int 0, .int 0]] ++ nz_pl z16 (fun _ _ => 0)) := hD
  refine W.widen (k := 108) (n := 2379) (Nat.le_of_ble_eq_true rfl) (Nat.le_of_ble_eq_true rfl) ?_
  refine lv_dup hx hb d_NP_init_44 rfl ?_
  have hPc := hP.sub (ws' := [nc_o q19 3 [.null, .null, .int 0, .int 0, .int 0, .int 0, .int 0, .int 0]]) [18] rfl
  have hDc := hD.sub (ws' := [nc_o q19 3 [.null, .null, .int 0, .int 0, .int 0, .int 0, .int 0, .int 0]]) [18] (by decide) rfl
  have hFc := va_free (wc := [nc_o q19 3 [.null, .null, .int 0, .int 0, .int 0, .int 0, .int 0, .int 0]]) hD hS hA [18] rfl
  refine va_callv (va_runIN (As := []) (rest := [.ref q19, .ref h0]) ⟨hx, hb, hml, hown, hts⟩ (i_Ma l G _ q19) ⟨va_cnB (host := "NestPascal") 0 hts (nn_gd mw_244) rfl rfl rfl (hN _ (by decide)) (hg _ mw_93) (by decide +kernel) ⟨Nat.le_of_ble_eq_true rfl, Nat.le_of_ble_eq_true rfl⟩, rfl, hg _ mw_243⟩ (nn_preS hPc hDc hK hN) rfl rfl hl.1 rfl (lv_room (Nat.le_of_ble_eq_true rfl)) d_NP_init_45 ⟨(Nat.le_of_ble_eq_true rfl), (Nat.le_of_ble_eq_true rfl)⟩) hS (fun q _ h => hFc q h) hFc (fun u20 t H locs ht hvm hw hB hz1 hk1 hS => ?_)
  obtain ⟨hP1, hD1⟩ := hB
  rw [ht] at hP1
  obtain ⟨hP, hD⟩ := va_joinQ (wr := [nc_o h0 0 [.ref q1, .int 0, .ref q2, .ref q17, .null], nc_i q1 (G.2 1) 180 (fun _ => 0), nc_o q2 2 [.ref z4, .ref z8, .ref z11, .int 0, .int (-1), .int (-1)], nc_o z4 6 [.ref z5, .ref z6, .ref z7, .int 0, .int 0], nc_q z5 (G.2 3) 181 (fun _ => none), nc_i z6 (G.2 0) 181 (fun _ => 0), nc_i z7 (G.2 0) 181 (fun _ => 0), nc_o z8 5 [.ref z9, .int 0, .ref z10, .int 0], nc_q z9 (G.2 4) 90 (fun j => some (z15 j)), nc_i z10 (G.2 0) 5 (fun _ => 0), nc_o z11 1 [.ref z12, .ref z13, .ref z14, .int 0], nc_i z12 (G.2 0) 180 (fun _ => 0), nc_i z13 (G.2 0) 180 (fun _ => 0), nc_i z14 (G.2 0) 180 (fun _ => 0), nc_o q17 1 [.ref u18.1, .ref u18.2.1, .ref u18.2.2, .int 0], nc_i u18.1 (G.2 0) 180 (fun _ => 0), nc_i u18.2.1 (G.2 0) 180 (fun _ => 0), nc_i u18.2.2 (G.2 0) 180 (fun _ => 0)]) (w1 := [nc_o q19 3 [.ref u20.1, .ref u20.2, .int 0, .int 0, .int 0, .int (-1), .int 0, .int 0], nc_i u20.1 (G.2 0) 200 (fun _ => 0), nc_i u20.2 (G.2 0) 8 (fun _ => 0)]) hP hD [18] [0, 1, 2, 3, 4, 5, 6, 7, 8, 9, 10, 11, 12, 13, 14, 15, 16, 17] rfl rfl (by decide) (by decide) hk1 hFc hP1 hD1
  have hP : va_P G.1 nn_cls ([nc_o h0 0 [.ref q1, .int 0, .ref q2, .ref q17, .null], nc_i q1 (G.2 1) 180 (fun _ => 0), nc_o q2 2 [.ref z4, .ref z8, .ref z11, .int 0, .int (-1), .int (-1)], nc_o z4 6 [.ref z5, .ref z6, .ref z7, .int 0, .int 0], nc_q z5 (G.2 3) 181 (fun _ => none), nc_i z6 (G.2 0) 181 (fun _ => 0), nc_i z7 (G.2 0) 181 (fun _ => 0), nc_o z8 5 [.ref z9, .int 0, .ref z10, .int 0], nc_q z9 (G.2 4) 90 (fun j => some (z15 j)), nc_i z10 (G.2 0) 5 (fun _ => 0), nc_o z11 1 [.ref z12, .ref z13, .ref z14, .int 0], nc_i z12 (G.2 0) 180 (fun _ => 0), nc_i z13 (G.2 0) 180 (fun _ => 0), nc_i z14 (G.2 0) 180 (fun _ => 0), nc_o q17 1 [.ref u18.1, .ref u18.2.1, .ref u18.2.2, .int 0], nc_i u18.1 (G.2 0) 180 (fun _ => 0), nc_i u18.2.1 (G.2 0) 180 (fun _ => 0), nc_i u18.2.2 (G.2 0) 180 (fun _ => 0), nc_o q19 3 [.ref u20.1, .ref u20.2, .int 0, .int 0, .int 0, .int (-1), .int 0, .int 0], nc_i u20.1 (G.2 0) 200 (fun _ => 0), nc_i u20.2 (G.2 0) 8 (fun _ => 0)] ++ nz_pl z16 (fun _ _ => 0)) H := hP
  have hD : va_D A ([nc_o h0 0 [.ref q1, .int 0, .ref q2, .ref q17, .null], nc_i q1 (G.2 1) 180 (fun _ => 0), nc_o q2 2 [.ref z4, .ref z8, .ref z11, .int 0, .int (-1), .int (-1)], nc_o z4 6 [.ref z5, .ref z6, .ref z7, .int 0, .int 0], nc_q z5 (G.2 3) 181 (fun _ => none), nc_i z6 (G.2 0) 181 (fun _ => 0), nc_i z7 (G.2 0) 181 (fun _ => 0), nc_o z8 5 [.ref z9, .int 0, .ref z10, .int 0], nc_q z9 (G.2 4) 90 (fun j => some (z15 j)), nc_i z10 (G.2 0) 5 (fun _ => 0), nc_o z11 1 [.ref z12, .ref z13, .ref z14, .int 0], nc_i z12 (G.2 0) 180 (fun _ => 0), nc_i z13 (G.2 0) 180 (fun _ => 0), nc_i z14 (G.2 0) 180 (fun _ => 0), nc_o q17 1 [.ref u18.1, .ref u18.2.1, .ref u18.2.2, .int 0], nc_i u18.1 (G.2 0) 180 (fun _ => 0), nc_i u18.2.1 (G.2 0) 180 (fun _ => 0), nc_i u18.2.2 (G.2 0) 180 (fun _ => 0), nc_o q19 3 [.ref u20.1, .ref u20.2, .int 0, .int 0, .int 0, .int (-1), .int 0, .int 0], nc_i u20.1 (G.2 0) 200 (fun _ => 0), nc_i u20.2 (G.2 0) 8 (fun _ => 0)] ++ nz_pl z16 (fun _ _ => 0)) := hD
  refine W.widen (k := 110) (n := 2587) (Nat.le_of_ble_eq_true rfl) (Nat.le_of_ble_eq_true rfl) ?_
  refine va_putF (D := G.1) (ci := 0) (v := .ref q19) (ty := .object "NestPascal$Machine") (C := R_NP) (T := T_NP) (N := 5) hx hb hg in_NP t_NP ok_NP nm_NP hown hK hP hD hS 0 rfl rfl 4 (by decide) (hg _ mw_275) (fun _ h9 => h9) rfl hin rfl (by decide +kernel) rfl rfl (Nat.le_of_ble_eq_true rfl) d_NP_init_48 (fun H locs hP hD hS => ?_)
  have hP : va_P G.1 nn_cls ([nc_o h0 0 [.ref q1, .int 0, .ref q2, .ref q17, .ref q19], nc_i q1 (G.2 1) 180 (fun _ => 0), nc_o q2 2 [.ref z4, .ref z8, .ref z11, .int 0, .int (-1), .int (-1)], nc_o z4 6 [.ref z5, .ref z6, .ref z7, .int 0, .int 0], nc_q z5 (G.2 3) 181 (fun _ => none), nc_i z6 (G.2 0) 181 (fun _ => 0), nc_i z7 (G.2 0) 181 (fun _ => 0), nc_o z8 5 [.ref z9, .int 0, .ref z10, .int 0], nc_q z9 (G.2 4) 90 (fun j => some (z15 j)), nc_i z10 (G.2 0) 5 (fun _ => 0), nc_o z11 1 [.ref z12, .ref z13, .ref z14, .int 0], nc_i z12 (G.2 0) 180 (fun _ => 0), nc_i z13 (G.2 0) 180 (fun _ => 0), nc_i z14 (G.2 0) 180 (fun _ => 0), nc_o q17 1 [.ref u18.1, .ref u18.2.1, .ref u18.2.2, .int 0], nc_i u18.1 (G.2 0) 180 (fun _ => 0), nc_i u18.2.1 (G.2 0) 180 (fun _ => 0), nc_i u18.2.2 (G.2 0) 180 (fun _ => 0), nc_o q19 3 [.ref u20.1, .ref u20.2, .int 0, .int 0, .int 0, .int (-1), .int 0, .int 0], nc_i u20.1 (G.2 0) 200 (fun _ => 0), nc_i u20.2 (G.2 0) 8 (fun _ => 0)] ++ nz_pl z16 (fun _ _ => 0)) H := hP
  have hD : va_D A ([nc_o h0 0 [.ref q1, .int 0, .ref q2, .ref q17, .ref q19], nc_i q1 (G.2 1) 180 (fun _ => 0), nc_o q2 2 [.ref z4, .ref z8, .ref z11, .int 0, .int (-1), .int (-1)], nc_o z4 6 [.ref z5, .ref z6, .ref z7, .int 0, .int 0], nc_q z5 (G.2 3) 181 (fun _ => none), nc_i z6 (G.2 0) 181 (fun _ => 0), nc_i z7 (G.2 0) 181 (fun _ => 0), nc_o z8 5 [.ref z9, .int 0, .ref z10, .int 0], nc_q z9 (G.2 4) 90 (fun j => some (z15 j)), nc_i z10 (G.2 0) 5 (fun _ => 0), nc_o z11 1 [.ref z12, .ref z13, .ref z14, .int 0], nc_i z12 (G.2 0) 180 (fun _ => 0), nc_i z13 (G.2 0) 180 (fun _ => 0), nc_i z14 (G.2 0) 180 (fun _ => 0), nc_o q17 1 [.ref u18.1, .ref u18.2.1, .ref u18.2.2, .int 0], nc_i u18.1 (G.2 0) 180 (fun _ => 0), nc_i u18.2.1 (G.2 0) 180 (fun _ => 0), nc_i u18.2.2 (G.2 0) 180 (fun _ => 0), nc_o q19 3 [.ref u20.1, .ref u20.2, .int 0, .int 0, .int 0, .int (-1), .int 0, .int 0], nc_i u20.1 (G.2 0) 200 (fun _ => 0), nc_i u20.2 (G.2 0) 8 (fun _ => 0)] ++ nz_pl z16 (fun _ _ => 0)) := hD
  refine W.widen (k := 110) (n := 2587) (Nat.le_of_ble_eq_true rfl) (Nat.le_of_ble_eq_true rfl) ?_
  have hP9 := hP.part (cx := [nc_o h0 0 [.ref q1, .int 0, .ref q2, .ref q17, .ref q19], nc_i q1 (G.2 1) 180 (fun _ => 0), nc_o q2 2 [.ref z4, .ref z8, .ref z11, .int 0, .int (-1), .int (-1)], nc_o z4 6 [.ref z5, .ref z6, .ref z7, .int 0, .int 0], nc_q z5 (G.2 3) 181 (fun _ => none), nc_i z6 (G.2 0) 181 (fun _ => 0), nc_i z7 (G.2 0) 181 (fun _ => 0), nc_o z8 5 [.ref z9, .int 0, .ref z10, .int 0], nc_q z9 (G.2 4) 90 (fun j => some (z15 j)), nc_i z10 (G.2 0) 5 (fun _ => 0), nc_o z11 1 [.ref z12, .ref z13, .ref z14, .int 0], nc_i z12 (G.2 0) 180 (fun _ => 0), nc_i z13 (G.2 0) 180 (fun _ => 0), nc_i z14 (G.2 0) 180 (fun _ => 0), nc_o q17 1 [.ref u18.1, .ref u18.2.1, .ref u18.2.2, .int 0], nc_i u18.1 (G.2 0) 180 (fun _ => 0), nc_i u18.2.1 (G.2 0) 180 (fun _ => 0), nc_i u18.2.2 (G.2 0) 180 (fun _ => 0), nc_o q19 3 [.ref u20.1, .ref u20.2, .int 0, .int 0, .int 0, .int (-1), .int 0, .int 0], nc_i u20.1 (G.2 0) 200 (fun _ => 0), nc_i u20.2 (G.2 0) 8 (fun _ => 0)]) [0, 1, 2, 3, 4, 5, 6, 7, 8, 9, 10, 11, 12, 13, 14, 15, 16, 17, 18, 19, 20] rfl
  have hD9 := hD.part (cx := [nc_o h0 0 [.ref q1, .int 0, .ref q2, .ref q17, .ref q19], nc_i q1 (G.2 1) 180 (fun _ => 0), nc_o q2 2 [.ref z4, .ref z8, .ref z11, .int 0, .int (-1), .int (-1)], nc_o z4 6 [.ref z5, .ref z6, .ref z7, .int 0, .int 0], nc_q z5 (G.2 3) 181 (fun _ => none), nc_i z6 (G.2 0) 181 (fun _ => 0), nc_i z7 (G.2 0) 181 (fun _ => 0), nc_o z8 5 [.ref z9, .int 0, .ref z10, .int 0], nc_q z9 (G.2 4) 90 (fun j => some (z15 j)), nc_i z10 (G.2 0) 5 (fun _ => 0), nc_o z11 1 [.ref z12, .ref z13, .ref z14, .int 0], nc_i z12 (G.2 0) 180 (fun _ => 0), nc_i z13 (G.2 0) 180 (fun _ => 0), nc_i z14 (G.2 0) 180 (fun _ => 0), nc_o q17 1 [.ref u18.1, .ref u18.2.1, .ref u18.2.2, .int 0], nc_i u18.1 (G.2 0) 180 (fun _ => 0), nc_i u18.2.1 (G.2 0) 180 (fun _ => 0), nc_i u18.2.2 (G.2 0) 180 (fun _ => 0), nc_o q19 3 [.ref u20.1, .ref u20.2, .int 0, .int 0, .int 0, .int (-1), .int 0, .int 0], nc_i u20.1 (G.2 0) 200 (fun _ => 0), nc_i u20.2 (G.2 0) 8 (fun _ => 0)]) [0, 1, 2, 3, 4, 5, 6, 7, 8, 9, 10, 11, 12, 13, 14, 15, 16, 17, 18, 19, 20] (by decide) rfl
  exact W.vret hx hb hr (fun t ht hW => ⟨⟨(q1, q2, z4, z5, z6, z7, z8, z9, z10, z11, z12, z13, z14, q17, u18.1, u18.2.1, u18.2.2, q19, u20.1, u20.2, z15, z16), rfl, hdn, ⟨by rw [ht]; exact hP9, hD9⟩⟩, hS.F ht⟩) hS.2.2 d_NP_init_51
