section
/-! a run of the machine at one script that the kernel can follow: after each step the parts of the state that the next step looks at are brought to their plain form -/
def rf_n (n : Nat) (k : Nat → Bool) : Bool := match n with
  | 0 => k 0
  | m + 1 => k (m + 1)
theorem rf_n_eq (n : Nat) (k : Nat → Bool) : rf_n n k = k n := by cases n <;> rfl
def rf_i (v : Int32) (k : Int32 → Bool) : Bool := rf_n v.toBitVec.toNat fun n => k (Int32.ofBitVec (BitVec.ofNat 32 n))
theorem rf_i_eq (v : Int32) (k : Int32 → Bool) : rf_i v k = k v := by
  unfold rf_i
  rw [rf_n_eq, BitVec.ofNat_toNat, BitVec.setWidth_eq, Int32.ofBitVec_toBitVec]
def rf_l (v : Int64) (k : Int64 → Bool) : Bool := rf_n v.toBitVec.toNat fun n => k (Int64.ofBitVec (BitVec.ofNat 64 n))
theorem rf_l_eq (v : Int64) (k : Int64 → Bool) : rf_l v k = k v := by
  unfold rf_l
  rw [rf_n_eq, BitVec.ofNat_toNat, BitVec.setWidth_eq, Int64.ofBitVec_toBitVec]
def rf_v (v : Value) (k : Value → Bool) : Bool := match v with
  | .int i => rf_i i fun i' => k (.int i')
  | .long i => rf_l i fun i' => k (.long i')
  | .ref a => rf_n a fun a' => k (.ref a')
  | .null => k .null
  | w => k w
theorem rf_v_eq (v : Value) (k : Value → Bool) : rf_v v k = k v := by
  cases v <;> simp only [rf_v, rf_i_eq, rf_l_eq, rf_n_eq]
noncomputable def rf_vs (l : List Value) : (List Value → Bool) → Bool :=
  List.rec (motive := fun _ => (List Value → Bool) → Bool) (fun k => k []) (fun v _ ih k => rf_v v fun v' => ih fun l' => k (v' :: l')) l
theorem rf_vs_eq (l : List Value) : ∀ k, rf_vs l k = k l := by
  induction l with
  | nil => intro k; rfl
  | cons v l ih =>
    intro k
    show (rf_v v fun v' => rf_vs l fun l' => k (v' :: l')) = _
    rw [rf_v_eq, ih]
def rf_s (v : Slot) (k : Slot → Bool) : Bool := match v with
  | .val w => rf_v w fun w' => k (.val w')
  | .unset => k .unset
  | .second => k .second
theorem rf_s_eq (v : Slot) (k : Slot → Bool) : rf_s v k = k v := by
  cases v <;> simp only [rf_s, rf_v_eq]
noncomputable def rf_ss (l : List Slot) : (List Slot → Bool) → Bool :=
  List.rec (motive := fun _ => (List Slot → Bool) → Bool) (fun k => k []) (fun v _ ih k => rf_s v fun v' => ih fun l' => k (v' :: l')) l
theorem rf_ss_eq (l : List Slot) : ∀ k, rf_ss l k = k l := by
  induction l with
  | nil => intro k; rfl
  | cons v l ih =>
    intro k
    show (rf_s v fun v' => rf_ss l fun l' => k (v' :: l')) = _
    rw [rf_s_eq, ih]
def rf_mo (m : Monitor) (k : Monitor → Bool) : Bool := match m with
  | ⟨none, 0, []⟩ => k ⟨none, 0, []⟩
  | w => k w
theorem rf_mo_eq (m : Monitor) (k : Monitor → Bool) : rf_mo m k = k m := by
  unfold rf_mo; split <;> rfl
def rf_ha (m : Option Int32) (k : Option Int32 → Bool) : Bool := match m with
  | none => k none
  | w => k w
theorem rf_ha_eq (m : Option Int32) (k : Option Int32 → Bool) : rf_ha m k = k m := by
  unfold rf_ha; split <;> rfl
def rf_vd (m : VmData) (k : VmData → Bool) : Bool := match m with
  | .none => k .none
  | .statics c => rf_n c fun c' => k (.statics c')
  | w => k w
theorem rf_vd_eq (m : VmData) (k : VmData → Bool) : rf_vd m k = k m := by
  unfold rf_vd; split <;> first | rfl | exact rf_n_eq _ _
noncomputable def rf_c (c : Cell) (k : Cell → Bool) : Bool := match c with
  | ⟨cl, ⟨sl⟩, mo, ha, vd⟩ => rf_n cl fun cl' => rf_vs sl fun sl' => rf_mo mo fun mo' => rf_ha ha fun ha' => rf_vd vd fun vd' => k ⟨cl', ⟨sl'⟩, mo', ha', vd'⟩
theorem rf_c_eq (c : Cell) (k : Cell → Bool) : rf_c c k = k c := by
  obtain ⟨cl, ⟨sl⟩, mo, ha, vd⟩ := c
  simp only [rf_c, rf_n_eq, rf_vs_eq, rf_mo_eq, rf_ha_eq, rf_vd_eq]
noncomputable def rf_cs (l : List Cell) : (List Cell → Bool) → Bool :=
  List.rec (motive := fun _ => (List Cell → Bool) → Bool) (fun k => k []) (fun v _ ih k => rf_c v fun v' => ih fun l' => k (v' :: l')) l
theorem rf_cs_eq (l : List Cell) : ∀ k, rf_cs l k = k l := by
  induction l with
  | nil => intro k; rfl
  | cons v l ih =>
    intro k
    show (rf_c v fun v' => rf_cs l fun l' => k (v' :: l')) = _
    rw [rf_c_eq, ih]
def rf_c0 (c : Cell) (k : Cell → Bool) : Bool := match c with
  | ⟨cl, ⟨sl⟩, mo, ha, vd⟩ => rf_n cl fun cl' => rf_mo mo fun mo' => rf_ha ha fun ha' => rf_vd vd fun vd' => k ⟨cl', ⟨sl⟩, mo', ha', vd'⟩
theorem rf_c0_eq (c : Cell) (k : Cell → Bool) : rf_c0 c k = k c := by
  obtain ⟨cl, ⟨sl⟩, mo, ha, vd⟩ := c
  simp only [rf_c0, rf_n_eq, rf_mo_eq, rf_ha_eq, rf_vd_eq]
noncomputable def rf_cs0 (l : List Cell) : (List Cell → Bool) → Bool :=
  List.rec (motive := fun _ => (List Cell → Bool) → Bool) (fun k => k []) (fun v _ ih k => rf_c0 v fun v' => ih fun l' => k (v' :: l')) l
theorem rf_cs0_eq (l : List Cell) : ∀ k, rf_cs0 l k = k l := by
  induction l with
  | nil => intro k; rfl
  | cons v l ih =>
    intro k
    show (rf_c0 v fun v' => rf_cs0 l fun l' => k (v' :: l')) = _
    rw [rf_c0_eq, ih]
noncomputable def rf_f (f : Frame) (k : Frame → Bool) : Bool := match f with
  | .java ⟨⟨mc, mi⟩, pc, ⟨lo⟩, st, none, [], 0⟩ => rf_n mc fun mc' => rf_n mi fun mi' => rf_n pc fun pc' => rf_ss lo fun lo' => rf_vs st fun st' => k (.java ⟨⟨mc', mi'⟩, pc', ⟨lo'⟩, st', none, [], 0⟩)
  | g => k g
theorem rf_f_eq (f : Frame) (k : Frame → Bool) : rf_f f k = k f := by
  unfold rf_f; split
  · simp only [rf_n_eq, rf_ss_eq, rf_vs_eq]
  · rfl
noncomputable def rf_t (l : List Frame) (k : List Frame → Bool) : Bool := match l with
  | a :: b :: r => rf_f a fun a' => rf_f b fun b' => k (a' :: b' :: r)
  | r => k r
theorem rf_t_eq (l : List Frame) (k : List Frame → Bool) : rf_t l k = k l := by
  unfold rf_t; split
  · simp only [rf_f_eq]
  · rfl
noncomputable def rf_st (deep : Nat) (s : State) (k : State → Bool) : Bool := match s with
  | ⟨⟨h⟩, ve, ⟨[⟨fr, .runnable, none, false, false, .other, none, .null, 0⟩]⟩, 0, w, dr, 0, su, .running⟩ =>
    match ve with
    | ve'@(.mk ..) => match w with
      | w'@(.mk ..) => match dr with
        | dr'@(.mk ..) => rf_t fr fun fr' => rf_n su fun su' => match deep with
          | 0 => rf_cs h fun h' => k ⟨⟨h'⟩, ve', ⟨[⟨fr', .runnable, none, false, false, .other, none, .null, 0⟩]⟩, 0, w', dr', 0, su', .running⟩
          | 2 => rf_cs0 h fun h' => k ⟨⟨h'⟩, ve', ⟨[⟨fr', .runnable, none, false, false, .other, none, .null, 0⟩]⟩, 0, w', dr', 0, su', .running⟩
          | _ => k ⟨⟨h⟩, ve', ⟨[⟨fr', .runnable, none, false, false, .other, none, .null, 0⟩]⟩, 0, w', dr', 0, su', .running⟩
  | _ => false
theorem rf_st_of {deep : Nat} {s : State} {k : State → Bool} (h : rf_st deep s k = true) : k s = true := by
  unfold rf_st at h
  split at h
  · split at h
    split at h
    split at h
    rw [rf_t_eq, rf_n_eq] at h
    split at h
    · rw [rf_cs_eq] at h; exact h
    · rw [rf_cs0_eq] at h; exact h
    · exact h
  · cases h
def rf_bot : Frame → Bool
  | .native ⟨⟨0, 0⟩, ⟨[]⟩, 0, ⟨[]⟩, false, none, none, 0⟩ => true
  | _ => false
theorem rf_bot_of {f : Frame} (h : rf_bot f = true) : [f] = Lib.HandBits.below0 := by
  unfold rf_bot at h; split at h
  · rfl
  · cases h
def rf_last : List Frame → Bool
  | [] => false
  | [b] => rf_bot b
  | _ :: r => rf_last r
theorem rf_last_of : ∀ (l : List Frame), rf_last l = true → ∃ pre, l = pre ++ Lib.HandBits.below0
  | [], h => by simp [rf_last] at h
  | [b], h => ⟨[], by rw [List.nil_append]; exact rf_bot_of (by simpa [rf_last] using h)⟩
  | a :: b :: r, h => by
    obtain ⟨pre, hp⟩ := rf_last_of (b :: r) (by simpa [rf_last] using h)
    exact ⟨a :: pre, by rw [hp]; rfl⟩
/-- the law's call is still under way, and its thread goes on alone -/
def rf_go (s : State) : Bool := match s with
  | ⟨_, _, ⟨[⟨fr, .runnable, _, false, _, _, _, _, _⟩]⟩, 0, _, _, _, _, .running⟩ => match fr with
    | .throwing _ :: _ => false
    | _ :: r => rf_last r
    | [] => false
  | _ => false
theorem rf_go_of {s : State} (h : rf_go s = true) : Within s Lib.HandBits.below0 ∧ s.status = .running ∧ s.curStatus? = some .runnable ∧ s.alone = true := by
  unfold rf_go at h
  split at h
  · rename_i hp vm fr ob pe wo mo sc sb w dr nw su
    refine ⟨?_, rfl, rfl, rfl⟩
    split at h
    · cases h
    · rename_i a r hn
      obtain ⟨pre, hp⟩ := rf_last_of _ h
      refine ⟨a :: pre, ?_, by simp, ?_⟩
      · show a :: r = _
        rw [hp]; rfl
      · intro q hq
        injection hq with h1 h2
        exact hn _ h1
    · cases h
  · cases h
/-- it has come back, with the answer 0 -/
def rf_end (s : State) : Bool := match s with
  | ⟨_, _, ⟨[⟨[.native ⟨⟨0, 0⟩, ⟨[]⟩, 0, ⟨[]⟩, false, some (.returned (some (.int v))), none, 0⟩], _, _, _, _, _, _, _, _⟩]⟩, 0, _, _, _, _, .running⟩ => decide (v = 0)
  | _ => false
theorem rf_end_of {s : State} (h : rf_end s = true) : s.status = .running ∧ Ended s Lib.HandBits.below0 (.returned (some (.int 0))) := by
  unfold rf_end at h
  split at h
  · have hv := of_decide_eq_true h
    subst hv
    exact ⟨rfl, rfl⟩
  · cases h
end
section
/-! the instructions that the run meets, by method and place (by wip/whole/mk.py) -/
def rf_m_20_5 : List (List (Nat × Instr × Nat)) := [[(0, .aload_n 0, 1), (1, .getfield 116, 3), (4, .invokevirtual 133, 3), (7, .istore 4, 2), (9, .iload 4, 2), (11, .ifCond .eq 17, 3), (14, .iload 4, 2)],
  [(16, .iload_n 3, 1), (17, .iload_n 2, 1), (18, .isub, 1), (19, .if_icmp .ne 9, 3), (22, .iload_n 3, 1), (23, .aload_n 1, 1), (24, .arraylength, 1), (25, .if_icmp .le 5, 3), (28, .iconst 0, 1), (29, .ireturn, 1), (30, .iconst 0, 1), (31, .istore 5, 2)],
  [(33, .iload 5, 2), (35, .iload 4, 2), (37, .if_icmp .ge 29, 3), (40, .aload_n 0, 1), (41, .getfield 116, 3), (44, .iload 5, 2), (46, .invokevirtual 139, 3)],
  [(49, .aload_n 1, 1), (50, .iload_n 2, 1), (51, .iload 5, 2), (53, .iadd, 1), (54, .caload, 1), (55, .if_icmp .eq 5, 3), (58, .iconst 0, 1), (59, .ireturn, 1), (60, .iinc 5 1, 3), (63, .goto (-30), 3)],
  [(66, .iconst 1, 1), (67, .ireturn, 1)]]
def rf_m_20_4 : List (List (Nat × Instr × Nat)) := [[(0, .iconst 0, 1), (1, .istore_n 3, 1), (2, .iload_n 3, 1), (3, .getstatic 126, 3), (6, .arraylength, 1), (7, .if_icmp .ge 29, 3), (10, .getstatic 126, 3), (13, .iload_n 3, 1), (14, .aaload, 1), (15, .aload_n 0, 1)],
  [(16, .iload_n 1, 1), (17, .iload_n 2, 1), (18, .invokevirtual 129, 3), (21, .ifCond .eq 9, 3), (24, .getstatic 126, 3), (27, .iload_n 3, 1), (28, .aaload, 1), (29, .areturn, 1), (30, .iinc 3 1, 3)],
  [(33, .goto (-31), 3), (36, .getstatic 94, 3), (39, .areturn, 1)]]
def rf_m_19_0 : List (List (Nat × Instr × Nat)) := [[(0, .iconst 0, 1), (1, .istore_n 2, 1), (2, .aload_n 0, 1), (3, .arraylength, 1), (4, .istore_n 3, 1), (5, .iload_n 2, 1), (6, .iload_n 3, 1), (7, .if_icmp .ge 13, 3), (10, .aload_n 0, 1), (11, .iload_n 2, 1), (12, .iload_n 1, 1), (13, .iastore, 1), (14, .iinc 2 1, 3)],
  [(17, .goto (-12), 3), (20, .return_, 1)]]
def rf_m_11_0 : List (List (Nat × Instr × Nat)) := [[(0, .aload_n 0, 1), (1, .getfield 9, 3), (4, .arraylength, 1), (5, .aload_n 0, 1), (6, .invokevirtual 335, 3), (9, .ishr, 1), (10, .ireturn, 1)]]
def rf_m_9_1 : List (List (Nat × Instr × Nat)) := [[(0, .aload_n 0, 1), (1, .iconst 0, 1), (2, .putfield 72, 3), (5, .iconst 0, 1), (6, .istore_n 3, 1), (7, .bipush 7, 2), (9, .istore 4, 2), (11, .iload 4, 2), (13, .ifCond .lt 57, 3)],
  [(16, .lload_n 1, 1), (17, .bipush 8, 2), (19, .iload 4, 2), (21, .imul, 1), (22, .lushr, 1), (23, .l2i, 1), (24, .sipush 255, 3), (27, .iand, 1), (28, .istore 5, 2), (30, .iload 5, 2)],
  [(32, .ifCond .eq 19, 3), (35, .iload 5, 2), (37, .bipush 32, 2), (39, .if_icmp .lt 10, 3), (42, .iload 5, 2), (44, .bipush 126, 2), (46, .if_icmp .le 5, 3)],
  [(51, .iload 5, 2), (53, .ifCond .eq 9, 3), (56, .iload_n 3, 1), (57, .iconst 1, 1), (58, .iadd, 1), (59, .goto 4, 3), (62, .iload_n 3, 1), (63, .istore_n 3, 1)],
  [(64, .iinc 4 (-1), 3), (67, .goto (-56), 3), (70, .aload_n 0, 1), (71, .getfield 75, 3), (74, .iload_n 3, 1), (75, .iadd, 1), (76, .sipush 180, 3), (79, .if_icmp .le 5, 3)],
  [(84, .bipush 7, 2), (86, .istore 4, 2), (88, .iload 4, 2), (90, .ifCond .lt 50, 3), (93, .lload_n 1, 1), (94, .bipush 8, 2)],
  [(96, .iload 4, 2), (98, .imul, 1), (99, .lushr, 1), (100, .l2i, 1), (101, .sipush 255, 3), (104, .iand, 1), (105, .istore 5, 2), (107, .iload 5, 2), (109, .ifCond .eq 25, 3)],
  [(112, .aload_n 0, 1), (113, .getfield 7, 3), (116, .aload_n 0, 1), (117, .getfield 75, 3), (120, .iload 5, 2), (122, .i2c, 1), (123, .castore, 1), (124, .aload_n 0, 1), (125, .dup, 1), (126, .getfield 75, 3)],
  [(129, .iconst 1, 1), (130, .iadd, 1), (131, .putfield 75, 3), (134, .iinc 4 (-1), 3), (137, .goto (-49), 3), (140, .iconst 1, 1), (141, .ireturn, 1)]]
def rf_m_11_2 : List (List (Nat × Instr × Nat)) := [[(0, .getstatic 38, 3), (3, .ifCond .eq 10, 3), (6, .aload_n 0, 1), (7, .getfield 15, 3), (10, .goto 4, 3), (14, .ireturn, 1)]]
def rf_m_12_0 : List (List (Nat × Instr × Nat)) := [[(0, .iload_n 1, 1), (1, .aload_n 0, 1), (2, .arraylength, 1), (3, .invokestatic 9, 3), (6, .aload_n 0, 1), (7, .iload_n 1, 1), (8, .baload, 1), (9, .sipush 255, 3), (12, .iand, 1), (13, .i2c, 1), (14, .ireturn, 1)]]
def rf_m_11_1 : List (List (Nat × Instr × Nat)) := [[(0, .aload_n 0, 1), (1, .invokevirtual 492, 3), (4, .ifCond .eq 12, 3), (7, .aload_n 0, 1), (8, .getfield 9, 3), (11, .iload_n 1, 1), (12, .invokestatic 495, 3), (15, .ireturn, 1)]]
def rf_m_11_3 : List (List (Nat × Instr × Nat)) := [[(0, .getstatic 38, 3), (3, .ifCond .eq 14, 3), (6, .aload_n 0, 1), (7, .getfield 15, 3), (10, .ifCond .ne 7, 3), (13, .iconst 1, 1), (14, .goto 4, 3)],
  [(18, .ireturn, 1)]]
def rf_m_13_0 : List (List (Nat × Instr × Nat)) := [[(0, .iload_n 0, 1), (1, .ifCond .lt 8, 3), (4, .iload_n 0, 1), (5, .iload_n 1, 1), (6, .if_icmp .lt 10, 3)],
  [(16, .iload_n 0, 1), (17, .ireturn, 1)]]
def rf_m_6_0 : List (List (Nat × Instr × Nat)) := [[(0, .aload_n 0, 1), (1, .invokespecial 1, 3), (4, .aload_n 0, 1), (5, .iconst 0, 1), (6, .putfield 7, 3), (9, .aload_n 0, 1), (10, .iconst 0, 1), (11, .putfield 13, 3), (14, .aload_n 0, 1), (15, .iconst 0, 1)],
  [(16, .putfield 16, 3), (19, .aload_n 0, 1), (20, .iconst 0, 1), (21, .putfield 19, 3), (24, .aload_n 0, 1), (25, .iconst 0, 1), (26, .putfield 22, 3), (29, .return_, 1)]]
def rf_m_2_11 : List (List (Nat × Instr × Nat)) := [[(0, .bipush 56, 2), (2, .istore_n 3, 1), (3, .iload_n 3, 1), (4, .ifCond .lt 53, 3), (7, .lload_n 1, 1), (8, .iload_n 3, 1), (9, .invokestatic 38, 3), (12, .istore 4, 2), (14, .iload 4, 2)],
  [(16, .ifCond .eq 35, 3), (19, .aload_n 0, 1), (20, .getfield 13, 3), (23, .sipush 180, 3), (26, .if_icmp .ge 25, 3), (29, .aload_n 0, 1), (30, .getfield 9, 3)],
  [(33, .aload_n 0, 1), (34, .getfield 13, 3), (37, .iload 4, 2), (39, .i2c, 1), (40, .castore, 1), (41, .aload_n 0, 1), (42, .dup, 1), (43, .getfield 13, 3), (46, .iconst 1, 1), (47, .iadd, 1)],
  [(48, .putfield 13, 3), (51, .iinc 3 (-8), 3), (54, .goto (-51), 3), (57, .return_, 1)]]
def rf_m_11_4 : List (List (Nat × Instr × Nat)) := [[(0, .iload_n 0, 1), (1, .iload_n 1, 1), (2, .getstatic 1053, 3), (5, .invokestatic 1059, 3), (8, .pop, 1), (9, .return_, 1)]]
def rf_m_9_7 : List (List (Nat × Instr × Nat)) := [[(0, .iload_n 1, 1), (1, .istore_n 2, 1), (2, .iload_n 2, 1), (3, .aload_n 0, 1), (4, .getfield 75, 3), (7, .if_icmp .ge 20, 3), (10, .aload_n 0, 1), (11, .getfield 7, 3), (14, .iload_n 2, 1), (15, .caload, 1)],
  [(16, .bipush 32, 2), (18, .if_icmp .ne 9, 3), (21, .iinc 2 1, 3), (24, .goto (-22), 3), (27, .aload_n 0, 1), (28, .iload_n 2, 1), (29, .putfield 78, 3)],
  [(32, .aload_n 0, 1), (33, .iload_n 2, 1), (34, .invokevirtual 81, 3), (37, .istore_n 3, 1), (38, .aload_n 0, 1), (39, .iconst 0, 1), (40, .putfield 85, 3), (43, .iload_n 3, 1), (44, .ifCond .ne 11, 3)],
  [(55, .iload_n 3, 1), (56, .invokestatic 91, 3), (59, .ifCond .eq 98, 3), (62, .iload_n 2, 1), (63, .aload_n 0, 1)],
  [(64, .getfield 75, 3), (67, .if_icmp .ge 61, 3), (70, .aload_n 0, 1), (71, .getfield 7, 3), (74, .iload_n 2, 1), (75, .caload, 1), (76, .invokestatic 91, 3), (79, .ifCond .eq 49, 3)],
  [(82, .aload_n 0, 1), (83, .iload_n 2, 1), (84, .aload_n 0, 1), (85, .getfield 78, 3), (88, .isub, 1), (89, .bipush 6, 2), (91, .if_icmp .ge 24, 3), (94, .aload_n 0, 1), (95, .getfield 85, 3)],
  [(98, .iconst 5, 1), (99, .ishl, 1), (100, .aload_n 0, 1), (101, .getfield 7, 3), (104, .iload_n 2, 1), (105, .caload, 1), (106, .bipush 97, 2), (108, .isub, 1), (109, .iconst 1, 1), (110, .iadd, 1), (111, .ior, 1)],
  [(112, .goto 7, 3), (119, .putfield 85, 3), (122, .iinc 2 1, 3), (125, .goto (-63), 3)],
  [(128, .aload_n 0, 1), (129, .iload_n 2, 1), (130, .aload_n 0, 1), (131, .getfield 78, 3), (134, .isub, 1), (135, .bipush 6, 2), (137, .if_icmp .le 7, 3)],
  [(144, .aload_n 0, 1), (145, .getfield 85, 3), (148, .invokestatic 95, 3), (151, .putfield 88, 3), (154, .goto 145, 3), (157, .iload_n 3, 1), (158, .invokestatic 98, 3)],
  [(161, .ifCond .eq 89, 3), (164, .iload_n 2, 1), (165, .aload_n 0, 1), (166, .getfield 75, 3), (169, .if_icmp .ge 59, 3), (172, .aload_n 0, 1), (173, .getfield 7, 3)],
  [(176, .iload_n 2, 1), (177, .caload, 1), (178, .invokestatic 98, 3), (181, .ifCond .eq 47, 3), (184, .aload_n 0, 1), (185, .iload_n 2, 1), (186, .aload_n 0, 1), (187, .getfield 78, 3), (190, .isub, 1), (191, .iconst 4, 1)],
  [(192, .if_icmp .ge 23, 3), (195, .bipush 10, 2), (197, .aload_n 0, 1), (198, .getfield 85, 3), (201, .imul, 1), (202, .aload_n 0, 1), (203, .getfield 7, 3), (206, .iload_n 2, 1), (207, .caload, 1)],
  [(208, .iadd, 1), (209, .bipush 48, 2), (211, .isub, 1), (212, .goto 7, 3), (219, .putfield 85, 3), (222, .iinc 2 1, 3)],
  [(225, .goto (-61), 3), (228, .aload_n 0, 1), (229, .iload_n 2, 1), (230, .aload_n 0, 1), (231, .getfield 78, 3), (234, .isub, 1), (235, .iconst 4, 1), (236, .if_icmp .le 7, 3)],
  [(243, .iconst 3, 1), (244, .putfield 88, 3), (247, .goto 52, 3), (250, .iload_n 3, 1), (251, .bipush 58, 2), (253, .if_icmp .ne 27, 3)],
  [],
  [(280, .aload_n 0, 1), (281, .iload_n 3, 1), (282, .invokestatic 101, 3), (285, .ifCond .eq 7, 3)],
  [(288, .iload_n 3, 1), (289, .goto 4, 3), (293, .putfield 88, 3), (296, .iinc 2 1, 3), (299, .aload_n 0, 1), (300, .iload_n 2, 1), (301, .putfield 104, 3)],
  [(304, .return_, 1)]]
def rf_m_4_11 : List (List (Nat × Instr × Nat)) := [[(0, .iconst 0, 1), (1, .istore_n 3, 1), (2, .iload_n 1, 1), (3, .istore 4, 2), (5, .iload 4, 2), (7, .iload_n 2, 1), (8, .if_icmp .ge 47, 3), (11, .aload_n 0, 1), (12, .iload 4, 2), (14, .caload, 1), (15, .invokestatic 60, 3)],
  [(18, .ifCond .eq 19, 3), (21, .iload_n 3, 1), (22, .bipush 10, 2), (24, .imul, 1), (25, .aload_n 0, 1), (26, .iload 4, 2), (28, .caload, 1), (29, .iadd, 1), (30, .bipush 48, 2)],
  [(32, .isub, 1), (33, .istore_n 3, 1), (34, .goto 15, 3), (37, .iload_n 3, 1), (38, .iconst 5, 1), (39, .ishl, 1), (40, .aload_n 0, 1), (41, .iload 4, 2), (43, .caload, 1), (44, .bipush 31, 2), (46, .iand, 1), (47, .ior, 1)],
  [(48, .istore_n 3, 1), (49, .iinc 4 1, 3), (52, .goto (-47), 3), (55, .iload_n 3, 1), (56, .ireturn, 1)]]
def rf_m_5_0 : List (List (Nat × Instr × Nat)) := [[(0, .aload_n 0, 1), (1, .invokespecial 3, 3), (4, .aload_n 0, 1), (5, .bipush 90, 2), (7, .anewarray 11, 3), (10, .putfield 13, 3), (13, .aload_n 0, 1), (14, .iconst 0, 1), (15, .putfield 17, 3)],
  [(18, .aload_n 0, 1), (19, .iconst 5, 1), (20, .newarray .int, 2), (22, .putfield 21, 3), (25, .aload_n 0, 1), (26, .iconst 0, 1), (27, .putfield 25, 3), (30, .iconst 0, 1), (31, .istore_n 1, 1)],
  [(32, .iload_n 1, 1), (33, .bipush 90, 2), (35, .if_icmp .ge 22, 3), (38, .aload_n 0, 1), (39, .getfield 13, 3), (42, .iload_n 1, 1), (43, .new 11, 3), (46, .dup, 1), (47, .invokespecial 28, 3)],
  [(50, .aastore, 1), (51, .iinc 1 1, 3), (54, .goto (-22), 3), (57, .return_, 1)]]
def rf_m_9_15 : List (List (Nat × Instr × Nat)) := [[(0, .aload_n 0, 1), (1, .getfield 20, 3), (4, .aload_n 0, 1), (5, .getfield 136, 3), (8, .iload_n 1, 1), (9, .iastore, 1), (10, .aload_n 0, 1), (11, .getfield 24, 3), (14, .aload_n 0, 1), (15, .getfield 136, 3)],
  [(18, .iload_n 2, 1), (19, .iastore, 1), (20, .aload_n 0, 1), (21, .getfield 27, 3), (24, .aload_n 0, 1), (25, .getfield 136, 3), (28, .iload_n 3, 1), (29, .iastore, 1), (30, .aload_n 0, 1), (31, .dup, 1)],
  [(32, .getfield 136, 3), (35, .iconst 1, 1), (36, .iadd, 1), (37, .putfield 136, 3), (40, .return_, 1)]]
def rf_m_2_1 : List (List (Nat × Instr × Nat)) := [[(0, .iconst 0, 1), (1, .istore_n 3, 1), (2, .bipush 56, 2), (4, .istore 4, 2), (6, .iload 4, 2), (8, .ifCond .lt 41, 3), (11, .lload_n 1, 1), (12, .iload 4, 2), (14, .invokestatic 38, 3)],
  [(17, .istore 5, 2), (19, .iload 5, 2), (21, .ifCond .eq 22, 3), (24, .iload 5, 2), (26, .bipush 32, 2), (28, .if_icmp .lt 10, 3), (31, .iload 5, 2)],
  [(33, .bipush 126, 2), (35, .if_icmp .le 5, 3), (40, .iinc 3 1, 3), (43, .iinc 4 (-8), 3), (46, .goto (-40), 3)],
  [(49, .iload_n 3, 1), (50, .sipush 180, 3), (53, .aload_n 0, 1), (54, .getfield 13, 3), (57, .isub, 1), (58, .if_icmp .le 5, 3), (63, .aload_n 0, 1)],
  [(64, .lload_n 1, 1), (65, .invokevirtual 42, 3), (68, .iconst 1, 1), (69, .ireturn, 1)]]
def rf_m_4_1 : List (List (Nat × Instr × Nat)) := [[(0, .aload_n 0, 1), (1, .iconst 0, 1), (2, .putfield 24, 3), (5, .aload_n 0, 1), (6, .iconst 0, 1), (7, .putfield 28, 3), (10, .iconst 0, 1), (11, .istore_n 3, 1), (12, .iload_n 3, 1), (13, .iload_n 2, 1), (14, .if_icmp .ge 50, 3)],
  [(17, .aload_n 1, 1), (18, .iload_n 3, 1), (19, .iload_n 2, 1), (20, .invokestatic 31, 3), (23, .istore 4, 2), (25, .aload_n 1, 1), (26, .iload_n 3, 1), (27, .caload, 1), (28, .bipush 32, 2), (30, .if_icmp .eq 22, 3)],
  [(33, .aload_n 0, 1), (34, .aload_n 1, 1), (35, .iload_n 3, 1), (36, .iload 4, 2), (38, .invokestatic 35, 3), (41, .iload_n 3, 1), (42, .aload_n 1, 1), (43, .iload_n 3, 1), (44, .iload 4, 2), (46, .invokestatic 39, 3)],
  [(49, .invokevirtual 42, 3), (52, .iload 4, 2), (54, .iload_n 3, 1), (55, .iconst 1, 1), (56, .iadd, 1), (57, .invokestatic 46, 3), (60, .istore_n 3, 1), (61, .goto (-49), 3)],
  [(64, .aload_n 0, 1), (65, .getstatic 52, 3), (68, .iload_n 2, 1), (69, .iconst 0, 1), (70, .invokevirtual 42, 3), (73, .return_, 1)]]
def rf_m_4_9 : List (List (Nat × Instr × Nat)) := [[(0, .iload_n 1, 1), (1, .iconst 1, 1), (2, .iadd, 1), (3, .istore_n 3, 1), (4, .aload_n 0, 1), (5, .iload_n 1, 1), (6, .caload, 1), (7, .invokestatic 56, 3), (10, .ifCond .eq 23, 3), (13, .iload_n 3, 1), (14, .iload_n 2, 1), (15, .if_icmp .ge 71, 3)],
  [(18, .aload_n 0, 1), (19, .iload_n 3, 1), (20, .caload, 1), (21, .invokestatic 56, 3), (24, .ifCond .eq 62, 3), (27, .iinc 3 1, 3), (30, .goto (-17), 3)],
  [(33, .aload_n 0, 1), (34, .iload_n 1, 1), (35, .caload, 1), (36, .invokestatic 60, 3), (39, .ifCond .eq 23, 3), (42, .iload_n 3, 1), (43, .iload_n 2, 1), (44, .if_icmp .ge 42, 3), (47, .aload_n 0, 1)],
  [(48, .iload_n 3, 1), (49, .caload, 1), (50, .invokestatic 60, 3), (53, .ifCond .eq 33, 3), (62, .aload_n 0, 1), (63, .iload_n 1, 1)],
  [(64, .caload, 1), (65, .bipush 58, 2), (67, .if_icmp .ne 19, 3), (70, .iload_n 3, 1), (71, .iload_n 2, 1), (72, .if_icmp .ge 14, 3), (75, .aload_n 0, 1), (76, .iload_n 3, 1), (77, .caload, 1), (78, .bipush 61, 2)],
  [(80, .if_icmp .ne 6, 3), (83, .iinc 3 1, 3), (86, .iload_n 3, 1), (87, .ireturn, 1)]]
def rf_m_4_8 : List (List (Nat × Instr × Nat)) := [[(0, .aload_n 0, 1), (1, .getfield 24, 3), (4, .sipush 181, 3), (7, .if_icmp .ge 43, 3), (10, .aload_n 0, 1), (11, .getfield 13, 3), (14, .aload_n 0, 1), (15, .getfield 24, 3)],
  [(18, .aload_n 1, 1), (19, .aastore, 1), (20, .aload_n 0, 1), (21, .getfield 17, 3), (24, .aload_n 0, 1), (25, .getfield 24, 3), (28, .iload_n 2, 1), (29, .iastore, 1), (30, .aload_n 0, 1), (31, .getfield 21, 3)],
  [(34, .aload_n 0, 1), (35, .getfield 24, 3), (38, .iload_n 3, 1), (39, .iastore, 1), (40, .aload_n 0, 1), (41, .dup, 1), (42, .getfield 24, 3), (45, .iconst 1, 1), (46, .iadd, 1), (47, .putfield 24, 3)],
  [(50, .return_, 1)]]
def rf_m_9_36 : List (List (Nat × Instr × Nat)) := [[(0, .aload_n 0, 1), (1, .iconst 0, 1), (2, .putfield 136, 3), (5, .aload_n 0, 1), (6, .iconst 0, 1), (7, .putfield 124, 3), (10, .aload_n 0, 1), (11, .iconst 0, 1), (12, .putfield 130, 3), (15, .aload_n 0, 1)],
  [(16, .iconst 3, 1), (17, .putfield 142, 3), (20, .aload_n 0, 1), (21, .iconst 0, 1), (22, .putfield 159, 3), (25, .aload_n 0, 1), (26, .iconst 0, 1), (27, .putfield 139, 3), (30, .aload_n 0, 1), (31, .iconst 0, 1)],
  [(32, .putfield 133, 3), (35, .aload_n 0, 1), (36, .iconst 0, 1), (37, .putfield 111, 3), (40, .aload_n 0, 1), (41, .iconst 4, 1), (42, .iconst 0, 1), (43, .iconst 0, 1), (44, .invokevirtual 162, 3), (47, .aload_n 0, 1)],
  [(48, .iconst 0, 1), (49, .iconst 0, 1), (50, .iconst 0, 1), (51, .invokevirtual 162, 3), (54, .aload_n 0, 1), (55, .iconst 0, 1), (56, .invokevirtual 107, 3), (59, .iconst 0, 1), (60, .istore_n 1, 1), (61, .iload_n 1, 1), (62, .sipush 5000, 3)],
  [(65, .if_icmp .ge 64, 3), (68, .aload_n 0, 1), (69, .getfield 136, 3), (72, .ifCond .le 57, 3), (75, .aload_n 0, 1), (76, .getfield 111, 3), (79, .ifCond .ne 50, 3)],
  [(82, .aload_n 0, 1), (83, .dup, 1), (84, .getfield 136, 3), (87, .iconst 1, 1), (88, .isub, 1), (89, .putfield 136, 3), (92, .aload_n 0, 1), (93, .aload_n 0, 1), (94, .getfield 20, 3)],
  [(97, .aload_n 0, 1), (98, .getfield 136, 3), (101, .iaload, 1), (102, .aload_n 0, 1), (103, .getfield 24, 3), (106, .aload_n 0, 1), (107, .getfield 136, 3), (110, .iaload, 1), (111, .aload_n 0, 1)],
  [(112, .getfield 27, 3), (115, .aload_n 0, 1), (116, .getfield 136, 3), (119, .iaload, 1), (120, .invokevirtual 226, 3), (123, .iinc 1 1, 3), (126, .goto (-65), 3)],
  [(129, .aload_n 0, 1), (130, .iconst 0, 1), (131, .putfield 75, 3), (134, .aload_n 0, 1), (135, .aload_n 0, 1), (136, .getfield 111, 3), (139, .ifCond .le 7, 3), (142, .iconst 1, 1), (143, .goto 4, 3)],
  [(147, .putfield 72, 3), (150, .aload_n 0, 1), (151, .aload_n 0, 1), (152, .getfield 111, 3), (155, .ifCond .le 10, 3), (158, .aload_n 0, 1), (159, .getfield 111, 3)],
  [(162, .goto 4, 3), (166, .putfield 13, 3), (169, .aload_n 0, 1), (170, .aload_n 0, 1), (171, .getfield 111, 3), (174, .ifCond .le 10, 3)],
  [(177, .aload_n 0, 1), (178, .getfield 114, 3), (181, .goto 4, 3), (185, .putfield 17, 3), (188, .aload_n 0, 1), (189, .getfield 111, 3)],
  [(192, .ifCond .le 5, 3), (195, .iconst 0, 1), (196, .ireturn, 1)]]
def rf_m_2_12 : List (List (Nat × Instr × Nat)) := [[(0, .lload_n 0, 1), (1, .iload_n 2, 1), (2, .lushr, 1), (3, .l2i, 1), (4, .sipush 255, 3), (7, .iand, 1), (8, .ireturn, 1)]]
def rf_m_4_13 : List (List (Nat × Instr × Nat)) := [[(0, .iload_n 0, 1), (1, .bipush 48, 2), (3, .if_icmp .lt 13, 3), (6, .iload_n 0, 1), (7, .bipush 57, 2), (9, .if_icmp .gt 7, 3), (12, .iconst 1, 1), (13, .goto 4, 3)],
  [(16, .iconst 0, 1), (17, .ireturn, 1)]]
def rf_m_0_0 : List (List (Nat × Instr × Nat)) := [[(0, .new 8, 3), (3, .dup, 1), (4, .invokespecial 19, 3), (7, .astore_n 1, 1), (8, .new 20, 3), (11, .dup, 1), (12, .invokespecial 22, 3), (15, .astore_n 2, 1)],
  [(16, .iconst 1, 1), (17, .newarray .long, 2), (19, .astore_n 3, 1), (20, .iconst 0, 1), (21, .istore 4, 2), (23, .iload 4, 2), (25, .aload_n 0, 1), (26, .arraylength, 1), (27, .iconst 3, 1), (28, .isub, 1), (29, .if_icmp .gt 357, 3)],
  [(32, .aload_n 0, 1), (33, .iload 4, 2), (35, .iaload, 1), (36, .bipush 15, 2), (38, .iand, 1), (39, .tableswitch 341 0 9 #[53, 110, 126, 151, 188, 201, 229, 254, 279, 304], 53)],
  [],
  [],
  [(92, .aload_n 1, 1), (93, .aload_n 0, 1), (94, .iload 4, 2)],
  [(96, .iconst 1, 1), (97, .iadd, 1), (98, .iaload, 1), (99, .i2l, 1), (100, .bipush 32, 2), (102, .lshl, 1), (103, .aload_n 0, 1), (104, .iload 4, 2), (106, .iconst 2, 1), (107, .iadd, 1), (108, .iaload, 1), (109, .i2l, 1), (110, .ldc2_w 23, 3)],
  [(113, .land, 1), (114, .lor, 1), (115, .invokevirtual 25, 3), (118, .pop, 1), (119, .aload_n 2, 1), (120, .aload_n 0, 1), (121, .iload 4, 2), (123, .iconst 1, 1), (124, .iadd, 1), (125, .iaload, 1), (126, .i2l, 1), (127, .bipush 32, 2)],
  [(129, .lshl, 1), (130, .aload_n 0, 1), (131, .iload 4, 2), (133, .iconst 2, 1), (134, .iadd, 1), (135, .iaload, 1), (136, .i2l, 1), (137, .ldc2_w 23, 3), (140, .land, 1), (141, .lor, 1), (142, .invokevirtual 29, 3)],
  [(145, .pop, 1), (146, .goto 234, 3), (149, .aload_n 1, 1), (150, .aload_n 3, 1), (151, .invokestatic 30, 3), (154, .istore 5, 2), (156, .aload_n 2, 1), (157, .invokevirtual 35, 3)],
  [(160, .istore 6, 2), (162, .goto 218, 3)],
  [],
  [],
  [],
  [(227, .aload_n 1, 1), (228, .invokevirtual 45, 3), (231, .pop, 1), (232, .aload_n 2, 1), (233, .invokevirtual 49, 3), (236, .pop, 1), (237, .goto 143, 3)],
  [(240, .aload_n 1, 1), (241, .aload_n 0, 1), (242, .iload 4, 2), (244, .iconst 1, 1), (245, .iadd, 1), (246, .iaload, 1), (247, .aload_n 3, 1), (248, .invokestatic 50, 3), (251, .istore 5, 2), (253, .aload_n 2, 1), (254, .aload_n 0, 1), (255, .iload 4, 2)],
  [(257, .iconst 1, 1), (258, .iadd, 1), (259, .iaload, 1), (260, .invokevirtual 53, 3), (263, .istore 6, 2), (265, .goto 115, 3)],
  [],
  [],
  [(318, .aload_n 1, 1), (319, .aload_n 0, 1)],
  [(320, .iload 4, 2), (322, .iconst 1, 1), (323, .iadd, 1), (324, .iaload, 1), (325, .invokevirtual 62, 3), (328, .aload_n 2, 1), (329, .aload_n 0, 1), (330, .iload 4, 2), (332, .iconst 1, 1), (333, .iadd, 1), (334, .iaload, 1), (335, .invokevirtual 65, 3)],
  [(338, .if_icmp .eq 42, 3), (341, .iconst 0, 1), (342, .ireturn, 1)],
  [],
  [(380, .iinc 4 3, 3), (383, .goto (-360), 3)]]
def rf_m_4_10 : List (List (Nat × Instr × Nat)) := [[(0, .aload_n 0, 1), (1, .iload_n 1, 1), (2, .caload, 1), (3, .invokestatic 60, 3), (6, .ifCond .eq 20, 3), (9, .iload_n 2, 1), (10, .iload_n 1, 1), (11, .isub, 1), (12, .iconst 4, 1), (13, .if_icmp .gt 9, 3)],
  [(16, .getstatic 63, 3), (19, .goto 6, 3), (25, .areturn, 1), (26, .aload_n 0, 1), (27, .iload_n 1, 1), (28, .iload_n 2, 1), (29, .invokestatic 69, 3)],
  [(32, .astore_n 3, 1), (33, .aload_n 3, 1), (34, .getstatic 66, 3), (37, .if_acmp .ne 24, 3), (40, .aload_n 0, 1), (41, .iload_n 1, 1), (42, .caload, 1), (43, .invokestatic 56, 3), (46, .ifCond .eq 15, 3)],
  [(49, .iload_n 2, 1), (50, .iload_n 1, 1), (51, .isub, 1), (52, .bipush 6, 2), (54, .if_icmp .gt 7, 3), (57, .getstatic 72, 3), (60, .areturn, 1), (61, .aload_n 3, 1), (62, .areturn, 1)]]
def rf_m_4_7 : List (List (Nat × Instr × Nat)) := [[(0, .aload_n 0, 1), (1, .getfield 28, 3), (4, .iconst 1, 1), (5, .iadd, 1), (6, .aload_n 0, 1), (7, .getfield 24, 3), (10, .if_icmp .ge 13, 3), (13, .aload_n 0, 1), (14, .dup, 1), (15, .getfield 28, 3)],
  [(18, .iconst 1, 1), (19, .iadd, 1), (20, .putfield 28, 3), (23, .return_, 1)]]
def rf_m_4_12 : List (List (Nat × Instr × Nat)) := [[(0, .iload_n 0, 1), (1, .bipush 97, 2), (3, .if_icmp .lt 13, 3), (6, .iload_n 0, 1), (7, .bipush 122, 2), (9, .if_icmp .gt 7, 3), (12, .iconst 1, 1), (13, .goto 4, 3)],
  [(16, .iconst 0, 1), (17, .ireturn, 1)]]
def rf_m_8_8 : List (List (Nat × Instr × Nat)) := [[(0, .aload_n 1, 1), (1, .aload_n 0, 1), (2, .getfield 22, 3), (5, .invokevirtual 53, 3), (8, .istore_n 2, 1), (9, .aload_n 1, 1), (10, .aload_n 0, 1), (11, .getfield 22, 3), (14, .invokevirtual 58, 3)],
  [(17, .istore_n 3, 1), (18, .aload_n 1, 1), (19, .aload_n 0, 1), (20, .getfield 22, 3), (23, .invokevirtual 61, 3), (26, .istore 4, 2), (28, .aload_n 0, 1), (29, .iload_n 2, 1), (30, .iload 4, 2)],
  [(32, .invokevirtual 64, 3), (35, .istore 5, 2), (37, .iload 5, 2), (39, .iconst 1, 1), (40, .if_icmp .eq 10, 3)],
  [(50, .aload_n 0, 1), (51, .dup, 1), (52, .getfield 22, 3), (55, .iconst 1, 1), (56, .iadd, 1), (57, .putfield 22, 3), (60, .aload_n 0, 1), (61, .iload_n 2, 1), (62, .iload_n 3, 1), (63, .iload 4, 2)],
  [(65, .invokevirtual 68, 3), (68, .return_, 1)]]
def rf_m_7_3 : List (List (Nat × Instr × Nat)) := [[(0, .aload_n 0, 1), (1, .getfield 21, 3), (4, .sipush 180, 3), (7, .if_icmp .lt 5, 3), (12, .aload_n 0, 1), (13, .getfield 11, 3)],
  [(16, .aload_n 0, 1), (17, .getfield 21, 3), (20, .iload_n 1, 1), (21, .iastore, 1), (22, .aload_n 0, 1), (23, .getfield 15, 3), (26, .aload_n 0, 1), (27, .getfield 21, 3), (30, .iload_n 2, 1), (31, .iastore, 1)],
  [(32, .aload_n 0, 1), (33, .getfield 18, 3), (36, .aload_n 0, 1), (37, .getfield 21, 3), (40, .iload_n 3, 1), (41, .iastore, 1), (42, .aload_n 0, 1), (43, .dup, 1), (44, .getfield 21, 3), (47, .iconst 1, 1)],
  [(48, .iadd, 1), (49, .putfield 21, 3), (52, .aload_n 0, 1), (53, .getfield 21, 3), (56, .iconst 1, 1), (57, .isub, 1), (58, .ireturn, 1)]]
def rf_m_9_6 : List (List (Nat × Instr × Nat)) := [[(0, .iload_n 0, 1), (1, .bipush 43, 2), (3, .if_icmp .eq 87, 3), (6, .iload_n 0, 1), (7, .bipush 45, 2), (9, .if_icmp .eq 81, 3), (12, .iload_n 0, 1), (13, .bipush 42, 2), (15, .if_icmp .eq 75, 3)],
  [(18, .iload_n 0, 1), (19, .bipush 47, 2), (21, .if_icmp .eq 69, 3), (24, .iload_n 0, 1), (25, .bipush 61, 2), (27, .if_icmp .eq 63, 3), (30, .iload_n 0, 1), (31, .bipush 35, 2)],
  [(33, .if_icmp .eq 57, 3), (36, .iload_n 0, 1), (37, .bipush 60, 2), (39, .if_icmp .eq 51, 3), (42, .iload_n 0, 1), (43, .bipush 62, 2), (45, .if_icmp .eq 45, 3)],
  [(48, .iload_n 0, 1), (49, .bipush 40, 2), (51, .if_icmp .eq 39, 3), (54, .iload_n 0, 1), (55, .bipush 41, 2), (57, .if_icmp .eq 33, 3), (60, .iload_n 0, 1), (61, .bipush 91, 2), (63, .if_icmp .eq 27, 3)],
  [(66, .iload_n 0, 1), (67, .bipush 93, 2), (69, .if_icmp .eq 21, 3), (72, .iload_n 0, 1), (73, .bipush 44, 2), (75, .if_icmp .eq 15, 3), (78, .iload_n 0, 1), (79, .bipush 59, 2)],
  [(81, .if_icmp .eq 9, 3), (90, .iconst 1, 1), (91, .goto 4, 3), (95, .ireturn, 1)]]
def rf_m_4_3 : List (List (Nat × Instr × Nat)) := [[(0, .aload_n 0, 1), (1, .getfield 13, 3), (4, .aload_n 0, 1), (5, .getfield 28, 3), (8, .aaload, 1), (9, .aload_n 1, 1), (10, .if_acmp .ne 7, 3), (13, .iconst 1, 1), (14, .goto 4, 3)],
  [(17, .iconst 0, 1), (18, .ireturn, 1)]]
def rf_m_9_3 : List (List (Nat × Instr × Nat)) := [[(0, .iload_n 0, 1), (1, .bipush 97, 2), (3, .if_icmp .lt 13, 3), (6, .iload_n 0, 1), (7, .bipush 122, 2), (9, .if_icmp .gt 7, 3), (12, .iconst 1, 1), (13, .goto 4, 3)],
  [(16, .iconst 0, 1), (17, .ireturn, 1)]]
def rf_m_7_9 : List (List (Nat × Instr × Nat)) := [[(0, .iload_n 1, 1), (1, .ifCond .lt 15, 3), (4, .iload_n 1, 1), (5, .aload_n 0, 1), (6, .getfield 21, 3), (9, .if_icmp .ge 7, 3), (12, .iconst 1, 1), (13, .goto 4, 3)],
  [(17, .ireturn, 1)]]
def rf_m_3_26 : List (List (Nat × Instr × Nat)) := [[(0, .getstatic 183, 3), (3, .aload_n 0, 1), (4, .getfield 12, 3), (7, .invokevirtual 189, 3), (10, .invokevirtual 192, 3), (13, .iaload, 1), (14, .lookupswitch 103 #[(1, 61), (6, 34), (7, 68)], 34)],
  [],
  [],
  [(48, .aload_n 0, 1), (49, .getfield 28, 3), (52, .iconst 0, 1), (53, .iconst 0, 1), (54, .aload_n 0, 1), (55, .getfield 12, 3), (58, .invokevirtual 131, 3), (61, .invokevirtual 67, 3)],
  [(64, .pop, 1), (65, .aload_n 0, 1), (66, .getfield 12, 3), (69, .invokevirtual 78, 3), (72, .goto 57, 3)],
  [(82, .aload_n 0, 1), (83, .invokevirtual 242, 3), (86, .aload_n 0, 1), (87, .getfield 12, 3), (90, .invokevirtual 78, 3), (93, .aload_n 0, 1), (94, .invokevirtual 216, 3)],
  [(97, .aload_n 0, 1), (98, .getstatic 173, 3), (101, .invokevirtual 60, 3), (104, .aload_n 0, 1), (105, .dup, 1), (106, .getfield 32, 3), (109, .iconst 1, 1), (110, .isub, 1), (111, .putfield 32, 3)],
  [(114, .goto 15, 3)],
  [(129, .return_, 1)]]
def rf_m_15_0 : List (List (Nat × Instr × Nat)) := [[(0, .iload_n 0, 1), (1, .iload_n 1, 1), (2, .if_icmp .lt 7, 3), (5, .iload_n 0, 1), (6, .goto 4, 3), (10, .ireturn, 1)]]
def rf_m_3_24 : List (List (Nat × Instr × Nat)) := [[(0, .aload_n 0, 1), (1, .getfield 12, 3), (4, .getstatic 270, 3), (7, .invokevirtual 74, 3), (10, .istore_n 1, 1), (11, .iload_n 1, 1), (12, .ifCond .eq 10, 3)],
  [(22, .aload_n 0, 1), (23, .invokevirtual 273, 3), (26, .iload_n 1, 1), (27, .ifCond .eq 15, 3)],
  [(42, .iconst 0, 1), (43, .istore_n 2, 1), (44, .iload_n 2, 1), (45, .sipush 180, 3)],
  [(48, .if_icmp .ge 56, 3), (51, .aload_n 0, 1), (52, .getfield 12, 3), (55, .invokevirtual 189, 3), (58, .invokevirtual 276, 3), (61, .ifCond .eq 43, 3)],
  [],
  [],
  [(104, .return_, 1)]]
def rf_m_9_35 : List (List (Nat × Instr × Nat)) := [[(0, .iload_n 1, 1), (1, .tableswitch 345 0 23 #[111, 118, 127, 140, 169, 194, 201, 208, 345, 345, 345, 345, 345, 221, 228, 235, 250, 269, 284, 291, 300, 309, 318, 327], 111)],
  [],
  [],
  [],
  [],
  [],
  [],
  [(112, .aload_n 0, 1), (113, .invokevirtual 191, 3), (116, .goto 237, 3), (119, .aload_n 0, 1), (120, .iload_n 2, 1), (121, .iload_n 3, 1), (122, .invokevirtual 194, 3), (125, .goto 228, 3)],
  [],
  [],
  [],
  [],
  [(202, .aload_n 0, 1), (203, .invokevirtual 200, 3), (206, .goto 147, 3)],
  [],
  [(229, .aload_n 0, 1), (230, .invokevirtual 206, 3), (233, .goto 120, 3)],
  [(251, .aload_n 0, 1), (252, .bipush 17, 2), (254, .iconst 0, 1), (255, .iconst 0, 1)],
  [(256, .invokevirtual 162, 3), (259, .aload_n 0, 1), (260, .bipush 18, 2), (262, .iconst 0, 1), (263, .iconst 0, 1), (264, .invokevirtual 162, 3), (267, .goto 86, 3)],
  [(285, .aload_n 0, 1), (286, .invokevirtual 213, 3)],
  [(289, .goto 64, 3)],
  [],
  [],
  [],
  [(353, .return_, 1)]]
def rf_m_4_2 : List (List (Nat × Instr × Nat)) := [[(0, .aload_n 0, 1), (1, .getfield 13, 3), (4, .aload_n 0, 1), (5, .getfield 28, 3), (8, .aaload, 1), (9, .areturn, 1)]]
def rf_m_9_2 : List (List (Nat × Instr × Nat)) := [[(0, .iload_n 1, 1), (1, .aload_n 0, 1), (2, .getfield 75, 3), (5, .if_icmp .ge 12, 3), (8, .aload_n 0, 1), (9, .getfield 7, 3), (12, .iload_n 1, 1), (13, .caload, 1), (14, .goto 4, 3)],
  [(18, .ireturn, 1)]]
def rf_m_2_6 : List (List (Nat × Instr × Nat)) := [[(0, .iload_n 1, 1), (1, .ifCond .lt 10, 3), (4, .iload_n 1, 1), (5, .sipush 200, 3), (8, .if_icmp .le 11, 3)],
  [(19, .iconst 0, 1), (20, .istore_n 2, 1), (21, .iload_n 2, 1), (22, .iload_n 1, 1), (23, .if_icmp .ge 30, 3), (26, .aload_n 0, 1), (27, .getfield 34, 3), (30, .invokevirtual 87, 3)],
  [(33, .ifCond .eq 20, 3), (36, .aload_n 0, 1), (37, .getfield 34, 3), (40, .aload_n 0, 1), (41, .getfield 27, 3), (44, .invokevirtual 91, 3), (47, .iinc 2 1, 3)],
  [(50, .goto (-29), 3), (53, .iload_n 2, 1), (54, .ireturn, 1)]]
def rf_m_3_31 : List (List (Nat × Instr × Nat)) := [[(0, .aload_n 0, 1), (1, .getfield 12, 3), (4, .aload_n 1, 1), (5, .invokevirtual 74, 3), (8, .ifCond .ne 15, 3)],
  [(23, .aload_n 0, 1), (24, .getfield 12, 3), (27, .invokevirtual 78, 3), (30, .return_, 1)]]
def rf_m_9_31 : List (List (Nat × Instr × Nat)) := [[(0, .aload_n 0, 1), (1, .getfield 88, 3), (4, .iconst 3, 1), (5, .if_icmp .ne 21, 3)],
  [(26, .aload_n 0, 1), (27, .getfield 88, 3), (30, .bipush 40, 2)],
  [(32, .if_icmp .ne 26, 3), (35, .aload_n 0, 1), (36, .invokevirtual 168, 3), (39, .aload_n 0, 1), (40, .bipush 19, 2), (42, .iconst 0, 1), (43, .iconst 0, 1), (44, .invokevirtual 162, 3), (47, .aload_n 0, 1)],
  [(48, .bipush 14, 2), (50, .iconst 0, 1), (51, .iconst 0, 1), (52, .invokevirtual 162, 3), (55, .goto 156, 3)],
  [],
  [],
  [],
  [],
  [],
  [],
  [],
  [],
  [],
  [(211, .return_, 1)]]
def rf_m_3_25 : List (List (Nat × Instr × Nat)) := [[(0, .aload_n 0, 1), (1, .invokevirtual 279, 3), (4, .iconst 0, 1), (5, .istore_n 1, 1), (6, .iload_n 1, 1), (7, .sipush 180, 3), (10, .if_icmp .ge 56, 3), (13, .aload_n 0, 1), (14, .getfield 12, 3)],
  [(17, .invokevirtual 189, 3), (20, .invokevirtual 282, 3), (23, .ifCond .eq 43, 3)],
  [],
  [],
  [(66, .return_, 1)]]
def rf_m_9_4 : List (List (Nat × Instr × Nat)) := [[(0, .iload_n 0, 1), (1, .bipush 48, 2), (3, .if_icmp .lt 13, 3), (6, .iload_n 0, 1), (7, .bipush 57, 2), (9, .if_icmp .gt 7, 3), (12, .iconst 1, 1), (13, .goto 4, 3)],
  [(16, .iconst 0, 1), (17, .ireturn, 1)]]
def rf_m_1_0 : List (List (Nat × Instr × Nat)) := [[(0, .return_, 1)]]
def rf_m_9_16 : List (List (Nat × Instr × Nat)) := [[(0, .aload_n 0, 1), (1, .getfield 139, 3), (4, .bipush 6, 2), (6, .if_icmp .ne 12, 3), (9, .aload_n 0, 1), (10, .iconst 1, 1), (11, .aload_n 0, 1), (12, .getfield 78, 3), (15, .invokevirtual 120, 3)],
  [(18, .aload_n 0, 1), (19, .dup, 1), (20, .getfield 139, 3), (23, .iconst 1, 1), (24, .iadd, 1), (25, .putfield 139, 3), (28, .aload_n 0, 1), (29, .invokevirtual 117, 3)],
  [(32, .return_, 1)]]
def rf_m_9_18 : List (List (Nat × Instr × Nat)) := [[(0, .aload_n 0, 1), (1, .getfield 88, 3), (4, .iconst 4, 1), (5, .if_icmp .eq 4, 3), (9, .aload_n 0, 1), (10, .invokevirtual 117, 3), (13, .iconst 1, 1), (14, .istore_n 1, 1), (15, .iconst 0, 1)],
  [(16, .istore_n 2, 1), (17, .iload_n 2, 1), (18, .sipush 180, 3), (21, .if_icmp .ge 169, 3), (24, .iload_n 1, 1), (25, .ifCond .eq 165, 3), (28, .aload_n 0, 1), (29, .getfield 111, 3)],
  [(32, .ifCond .ne 158, 3), (35, .aload_n 0, 1), (36, .iconst 0, 1), (37, .aload_n 0, 1), (38, .getfield 142, 3), (41, .iconst 0, 1), (42, .invokevirtual 145, 3), (45, .iconst 1, 1), (46, .istore_n 3, 1), (47, .aload_n 0, 1)],
  [(48, .getfield 111, 3), (51, .ifCond .ne 96, 3), (54, .aload_n 0, 1), (55, .getfield 88, 3), (58, .bipush 6, 2), (60, .if_icmp .ne 87, 3), (63, .aload_n 0, 1)],
  [(64, .invokevirtual 117, 3), (67, .aload_n 0, 1), (68, .getfield 88, 3), (71, .iconst 3, 1), (72, .if_icmp .eq 15, 3)],
  [(87, .aload_n 0, 1), (88, .getfield 85, 3), (91, .iconst 1, 1), (92, .if_icmp .lt 12, 3), (95, .aload_n 0, 1)],
  [(96, .getfield 85, 3), (99, .bipush 30, 2), (101, .if_icmp .le 13, 3)],
  [(114, .aload_n 0, 1), (115, .getfield 85, 3), (118, .istore_n 3, 1), (119, .aload_n 0, 1), (120, .getfield 33, 3), (123, .aload_n 0, 1), (124, .getfield 124, 3), (127, .iconst 1, 1)],
  [(128, .isub, 1), (129, .iconst 1, 1), (130, .iastore, 1), (131, .aload_n 0, 1), (132, .getfield 42, 3), (135, .aload_n 0, 1), (136, .getfield 124, 3), (139, .iconst 1, 1), (140, .isub, 1), (141, .iload_n 3, 1), (142, .iastore, 1), (143, .aload_n 0, 1)],
  [(144, .invokevirtual 117, 3), (147, .aload_n 0, 1), (148, .dup, 1), (149, .getfield 142, 3), (152, .iload_n 3, 1), (153, .iadd, 1), (154, .putfield 142, 3), (157, .aload_n 0, 1), (158, .getfield 111, 3)],
  [(161, .ifCond .ne 9, 3), (164, .aload_n 0, 1), (165, .bipush 59, 2), (167, .invokevirtual 149, 3), (170, .aload_n 0, 1), (171, .getfield 88, 3), (174, .iconst 2, 1), (175, .if_icmp .ne 7, 3)],
  [(182, .iconst 0, 1), (183, .istore_n 1, 1), (184, .iinc 2 1, 3), (187, .goto (-170), 3), (190, .return_, 1)]]
def rf_m_20_2 : List (List (Nat × Instr × Nat)) := [[(0, .aload_n 0, 1), (1, .getfield 120, 3), (4, .iconst 4, 1), (5, .if_icmp .eq 11, 3), (8, .aload_n 0, 1), (9, .getfield 120, 3), (12, .iconst 5, 1), (13, .if_icmp .ne 7, 3)],
  [(20, .iconst 0, 1), (21, .ireturn, 1)]]
def rf_m_20_1 : List (List (Nat × Instr × Nat)) := [[(0, .aload_n 0, 1), (1, .getfield 120, 3), (4, .iconst 2, 1), (5, .if_icmp .eq 11, 3), (8, .aload_n 0, 1), (9, .getfield 120, 3), (12, .iconst 3, 1), (13, .if_icmp .ne 7, 3)],
  [(20, .iconst 0, 1), (21, .ireturn, 1)]]
def rf_m_9_29 : List (List (Nat × Instr × Nat)) := [[(0, .aload_n 0, 1), (1, .bipush 15, 2), (3, .iconst 0, 1), (4, .iconst 0, 1), (5, .invokevirtual 162, 3), (8, .aload_n 0, 1), (9, .getfield 88, 3), (12, .bipush 45, 2), (14, .if_icmp .ne 17, 3)],
  [(31, .aload_n 0, 1)],
  [(32, .bipush 16, 2), (34, .iconst 0, 1), (35, .iconst 0, 1), (36, .invokevirtual 162, 3), (39, .return_, 1)]]
def rf_m_7_6 : List (List (Nat × Instr × Nat)) := [[(0, .aload_n 0, 1), (1, .iload_n 1, 1), (2, .invokevirtual 25, 3), (5, .ifCond .eq 12, 3), (8, .aload_n 0, 1), (9, .getfield 11, 3), (12, .iload_n 1, 1), (13, .iaload, 1), (14, .goto 4, 3)],
  [(18, .ireturn, 1)]]
def rf_m_7_7 : List (List (Nat × Instr × Nat)) := [[(0, .aload_n 0, 1), (1, .iload_n 1, 1), (2, .invokevirtual 25, 3), (5, .ifCond .eq 12, 3), (8, .aload_n 0, 1), (9, .getfield 15, 3), (12, .iload_n 1, 1), (13, .iaload, 1), (14, .goto 4, 3)],
  [(18, .ireturn, 1)]]
def rf_m_7_8 : List (List (Nat × Instr × Nat)) := [[(0, .aload_n 0, 1), (1, .iload_n 1, 1), (2, .invokevirtual 25, 3), (5, .ifCond .eq 12, 3), (8, .aload_n 0, 1), (9, .getfield 18, 3), (12, .iload_n 1, 1), (13, .iaload, 1), (14, .goto 4, 3)],
  [(18, .ireturn, 1)]]
def rf_m_9_0 : List (List (Nat × Instr × Nat)) := [[(0, .aload_n 0, 1), (1, .invokespecial 1, 3), (4, .aload_n 0, 1), (5, .sipush 180, 3), (8, .newarray .char, 2), (10, .putfield 7, 3), (13, .aload_n 0, 1), (14, .iconst (-1), 1), (15, .putfield 13, 3)],
  [(18, .aload_n 0, 1), (19, .iconst (-1), 1), (20, .putfield 17, 3), (23, .aload_n 0, 1), (24, .sipush 260, 3), (27, .newarray .int, 2), (29, .putfield 20, 3)],
  [(32, .aload_n 0, 1), (33, .sipush 260, 3), (36, .newarray .int, 2), (38, .putfield 24, 3), (41, .aload_n 0, 1), (42, .sipush 260, 3), (45, .newarray .int, 2), (47, .putfield 27, 3)],
  [(50, .aload_n 0, 1), (51, .bipush 100, 2), (53, .newarray .int, 2), (55, .putfield 30, 3), (58, .aload_n 0, 1), (59, .bipush 100, 2), (61, .newarray .int, 2), (63, .putfield 33, 3)],
  [(66, .aload_n 0, 1), (67, .bipush 100, 2), (69, .newarray .int, 2), (71, .putfield 36, 3), (74, .aload_n 0, 1), (75, .bipush 100, 2), (77, .newarray .int, 2), (79, .putfield 39, 3)],
  [(82, .aload_n 0, 1), (83, .bipush 100, 2), (85, .newarray .int, 2), (87, .putfield 42, 3), (90, .aload_n 0, 1), (91, .sipush 400, 3), (94, .newarray .int, 2)],
  [(96, .putfield 45, 3), (99, .aload_n 0, 1), (100, .sipush 400, 3), (103, .newarray .int, 2), (105, .putfield 48, 3), (108, .aload_n 0, 1), (109, .sipush 400, 3)],
  [(112, .newarray .int, 2), (114, .putfield 51, 3), (117, .aload_n 0, 1), (118, .sipush 400, 3), (121, .newarray .int, 2), (123, .putfield 54, 3), (126, .aload_n 0, 1), (127, .sipush 400, 3)],
  [(130, .newarray .int, 2), (132, .putfield 57, 3), (135, .aload_n 0, 1), (136, .sipush 400, 3), (139, .newarray .int, 2), (141, .putfield 60, 3)],
  [(144, .aload_n 0, 1), (145, .iconst (-1), 1), (146, .putfield 63, 3), (149, .aload_n 0, 1), (150, .sipush 200, 3), (153, .newarray .int, 2), (155, .putfield 66, 3), (158, .aload_n 0, 1), (159, .bipush 8, 2)],
  [(161, .newarray .int, 2), (163, .putfield 69, 3), (166, .return_, 1)]]
def rf_m_8_21 : List (List (Nat × Instr × Nat)) := [[(0, .iload_n 1, 1), (1, .ifCond .lt 19, 3), (4, .iload_n 1, 1), (5, .sipush 200, 3), (8, .if_icmp .ge 12, 3), (11, .aload_n 0, 1), (12, .getfield 11, 3), (15, .iload_n 1, 1)],
  [(16, .iaload, 1), (17, .goto 4, 3), (21, .ireturn, 1)]]
def rf_m_9_8 : List (List (Nat × Instr × Nat)) := [[(0, .aload_n 0, 1), (1, .aload_n 0, 1), (2, .getfield 104, 3), (5, .invokevirtual 107, 3), (8, .return_, 1)]]
def rf_m_3_30 : List (List (Nat × Instr × Nat)) := [[(0, .aload_n 0, 1), (1, .getfield 32, 3), (4, .bipush 6, 2), (6, .if_icmp .lt 15, 3)],
  [(21, .aload_n 0, 1), (22, .dup, 1), (23, .getfield 32, 3), (26, .iconst 1, 1), (27, .iadd, 1), (28, .putfield 32, 3), (31, .return_, 1)]]
def rf_m_8_11 : List (List (Nat × Instr × Nat)) := [[(0, .iload_n 1, 1), (1, .tableswitch 185 0 9 #[55, 63, 81, 99, 122, 136, 145, 153, 161, 176], 55)],
  [],
  [],
  [(56, .aload_n 0, 1), (57, .iload_n 3, 1), (58, .invokevirtual 75, 3), (61, .goto 125, 3)],
  [],
  [],
  [],
  [(123, .aload_n 0, 1), (124, .aload_n 0, 1), (125, .iload_n 2, 1), (126, .invokevirtual 50, 3)],
  [(129, .iload_n 3, 1), (130, .iadd, 1), (131, .invokevirtual 87, 3), (134, .goto 52, 3)],
  [(146, .aload_n 0, 1), (147, .iload_n 3, 1), (148, .invokevirtual 93, 3), (151, .goto 35, 3), (154, .aload_n 0, 1), (155, .iload_n 3, 1), (156, .putfield 22, 3), (159, .goto 27, 3)],
  [],
  [(177, .aload_n 0, 1), (178, .iload_n 3, 1), (179, .iload_n 2, 1), (180, .invokevirtual 96, 3), (183, .goto 3, 3), (186, .return_, 1)]]
def rf_m_8_3 : List (List (Nat × Instr × Nat)) := [[(0, .aload_n 0, 1), (1, .getfield 18, 3), (4, .iconst 1, 1), (5, .if_icmp .ne 7, 3), (8, .iconst 1, 1), (9, .goto 4, 3), (13, .ireturn, 1)]]
def rf_m_8_9 : List (List (Nat × Instr × Nat)) := [[(0, .iload_n 1, 1), (1, .tableswitch 132 0 11 #[63, 63, 132, 132, 132, 69, 75, 132, 132, 110, 132, 81], 63)],
  [],
  [],
  [],
  [(64, .aload_n 0, 1), (65, .iconst 1, 1), (66, .invokevirtual 72, 3), (69, .ireturn, 1), (76, .aload_n 0, 1), (77, .iload_n 2, 1), (78, .invokevirtual 72, 3)],
  [(81, .ireturn, 1), (82, .aload_n 0, 1), (83, .aload_n 0, 1), (84, .getfield 28, 3), (87, .invokevirtual 46, 3), (90, .ifCond .lt 19, 3), (93, .aload_n 0, 1), (94, .aload_n 0, 1), (95, .getfield 28, 3)],
  [(98, .invokevirtual 46, 3), (101, .iload_n 2, 1), (102, .if_icmp .ge 7, 3), (105, .iconst 1, 1), (106, .goto 4, 3), (110, .ireturn, 1), (111, .iload_n 2, 1)],
  [(112, .iconst 5, 1), (113, .if_icmp .ne 18, 3)],
  [(131, .iconst 1, 1), (132, .ireturn, 1), (133, .iconst 1, 1), (134, .ireturn, 1)]]
def rf_m_3_5 : List (List (Nat × Instr × Nat)) := [[(0, .aload_n 0, 1), (1, .getfield 28, 3), (4, .bipush 7, 2), (6, .iconst 0, 1), (7, .iconst 0, 1), (8, .invokevirtual 67, 3), (11, .istore_n 2, 1), (12, .iconst 3, 1), (13, .istore_n 3, 1), (14, .aload_n 0, 1), (15, .getfield 12, 3)],
  [(18, .getstatic 71, 3), (21, .invokevirtual 74, 3), (24, .ifCond .eq 16, 3), (27, .aload_n 0, 1), (28, .getfield 12, 3), (31, .invokevirtual 78, 3)],
  [(34, .aload_n 0, 1), (35, .iload_n 3, 1), (36, .invokevirtual 81, 3), (39, .istore_n 3, 1), (40, .iconst 0, 1), (41, .istore 4, 2), (43, .iload 4, 2), (45, .sipush 180, 3)],
  [(48, .if_icmp .ge 26, 3), (51, .aload_n 0, 1), (52, .getfield 12, 3), (55, .getstatic 85, 3), (58, .invokevirtual 74, 3), (61, .ifCond .eq 13, 3)],
  [(74, .aload_n 0, 1), (75, .getfield 28, 3), (78, .iload_n 2, 1), (79, .invokevirtual 91, 3)],
  [(82, .aload_n 0, 1), (83, .getfield 28, 3), (86, .bipush 6, 2), (88, .iconst 0, 1), (89, .iload_n 3, 1), (90, .invokevirtual 67, 3), (93, .pop, 1), (94, .aload_n 0, 1), (95, .getstatic 94, 3)],
  [(98, .invokevirtual 60, 3), (101, .aload_n 0, 1), (102, .invokevirtual 97, 3), (105, .aload_n 0, 1), (106, .getstatic 100, 3), (109, .invokevirtual 60, 3)],
  [(112, .aload_n 0, 1), (113, .getfield 28, 3), (116, .bipush 9, 2), (118, .iload_n 1, 1), (119, .iconst 0, 1), (120, .invokevirtual 67, 3), (123, .pop, 1), (124, .return_, 1)]]
def rf_m_9_14 : List (List (Nat × Instr × Nat)) := [[(0, .aload_n 0, 1), (1, .getfield 45, 3), (4, .aload_n 0, 1), (5, .getfield 133, 3), (8, .iload_n 1, 1), (9, .iastore, 1), (10, .aload_n 0, 1), (11, .getfield 48, 3), (14, .aload_n 0, 1), (15, .getfield 133, 3)],
  [(18, .iload_n 2, 1), (19, .iastore, 1), (20, .aload_n 0, 1), (21, .getfield 51, 3), (24, .aload_n 0, 1), (25, .getfield 133, 3), (28, .iload_n 3, 1), (29, .iastore, 1), (30, .aload_n 0, 1), (31, .dup, 1)],
  [(32, .getfield 133, 3), (35, .iconst 1, 1), (36, .iadd, 1), (37, .putfield 133, 3), (40, .aload_n 0, 1), (41, .getfield 133, 3), (44, .iconst 1, 1), (45, .isub, 1), (46, .ireturn, 1)]]
def rf_m_8_22 : List (List (Nat × Instr × Nat)) := [[(0, .iload_n 1, 1), (1, .ifCond .lt 17, 3), (4, .iload_n 1, 1), (5, .sipush 200, 3), (8, .if_icmp .ge 10, 3), (11, .aload_n 0, 1), (12, .getfield 11, 3), (15, .iload_n 1, 1)],
  [(16, .iload_n 2, 1), (17, .iastore, 1), (18, .return_, 1)]]
def rf_m_9_13 : List (List (Nat × Instr × Nat)) := [[(0, .aload_n 0, 1), (1, .aload_n 0, 1), (2, .getfield 85, 3), (5, .invokevirtual 127, 3), (8, .istore 4, 2), (10, .aload_n 0, 1), (11, .getfield 88, 3), (14, .iconst 2, 1), (15, .if_icmp .eq 15, 3)],
  [(30, .iload 4, 2)],
  [(32, .ifCond .lt 26, 3)],
  [(58, .aload_n 0, 1), (59, .getfield 30, 3), (62, .aload_n 0, 1), (63, .getfield 124, 3)],
  [(66, .aload_n 0, 1), (67, .getfield 85, 3), (70, .iastore, 1), (71, .aload_n 0, 1), (72, .getfield 33, 3), (75, .aload_n 0, 1), (76, .getfield 124, 3), (79, .iload_n 1, 1)],
  [(80, .iastore, 1), (81, .aload_n 0, 1), (82, .getfield 36, 3), (85, .aload_n 0, 1), (86, .getfield 124, 3), (89, .aload_n 0, 1), (90, .getfield 130, 3), (93, .iastore, 1), (94, .aload_n 0, 1), (95, .getfield 39, 3)],
  [(98, .aload_n 0, 1), (99, .getfield 124, 3), (102, .iload_n 2, 1), (103, .iastore, 1), (104, .aload_n 0, 1), (105, .getfield 42, 3), (108, .aload_n 0, 1), (109, .getfield 124, 3)],
  [(112, .iload_n 3, 1), (113, .iastore, 1), (114, .aload_n 0, 1), (115, .dup, 1), (116, .getfield 124, 3), (119, .iconst 1, 1), (120, .iadd, 1), (121, .putfield 124, 3), (124, .aload_n 0, 1), (125, .invokevirtual 117, 3)],
  [(128, .return_, 1)]]
def rf_m_8_1 : List (List (Nat × Instr × Nat)) := [[(0, .aload_n 0, 1), (1, .getfield 11, 3), (4, .iconst 0, 1), (5, .invokestatic 37, 3), (8, .aload_n 0, 1), (9, .iconst 0, 1), (10, .putfield 18, 3), (13, .aload_n 0, 1), (14, .iconst 0, 1), (15, .putfield 22, 3)],
  [(18, .aload_n 0, 1), (19, .iconst 0, 1), (20, .putfield 25, 3), (23, .aload_n 0, 1), (24, .iconst (-1), 1), (25, .putfield 28, 3), (28, .aload_n 0, 1), (29, .iconst 0, 1), (30, .putfield 31, 3)],
  [(33, .aload_n 0, 1), (34, .iconst 0, 1), (35, .putfield 34, 3), (38, .return_, 1)]]
def rf_m_8_19 : List (List (Nat × Instr × Nat)) := [[(0, .aload_n 0, 1), (1, .aload_n 0, 1), (2, .getfield 28, 3), (5, .iconst 1, 1), (6, .iadd, 1), (7, .iload_n 1, 1), (8, .invokevirtual 83, 3), (11, .aload_n 0, 1), (12, .dup, 1), (13, .getfield 28, 3)],
  [(16, .iconst 1, 1), (17, .iadd, 1), (18, .putfield 28, 3), (21, .return_, 1)]]
def rf_m_9_24 : List (List (Nat × Instr × Nat)) := [[(0, .aload_n 0, 1), (1, .aload_n 0, 1), (2, .getfield 85, 3), (5, .invokevirtual 127, 3), (8, .istore_n 1, 1), (9, .aload_n 0, 1), (10, .invokevirtual 178, 3), (13, .istore_n 2, 1), (14, .iload_n 1, 1), (15, .ifCond .ge 15, 3)],
  [(30, .aload_n 0, 1), (31, .getfield 33, 3)],
  [(34, .iload_n 1, 1), (35, .iaload, 1), (36, .iconst 2, 1), (37, .if_icmp .ne 35, 3)],
  [],
  [(72, .aload_n 0, 1), (73, .getfield 33, 3), (76, .iload_n 1, 1), (77, .iaload, 1), (78, .iconst 1, 1), (79, .if_icmp .ne 48, 3)],
  [(82, .iload_n 2, 1), (83, .bipush 91, 2), (85, .if_icmp .eq 15, 3)],
  [(100, .aload_n 0, 1), (101, .invokevirtual 117, 3), (104, .aload_n 0, 1), (105, .invokevirtual 168, 3), (108, .aload_n 0, 1), (109, .bipush 21, 2), (111, .iload_n 1, 1)],
  [(112, .iconst 0, 1), (113, .invokevirtual 162, 3), (116, .aload_n 0, 1), (117, .bipush 14, 2), (119, .iconst 0, 1), (120, .iconst 0, 1), (121, .invokevirtual 162, 3), (124, .goto 57, 3)],
  [],
  [],
  [],
  [(181, .return_, 1)]]
def rf_m_3_13 : List (List (Nat × Instr × Nat)) := [[(0, .getstatic 183, 3), (3, .aload_n 0, 1), (4, .getfield 12, 3), (7, .invokevirtual 189, 3), (10, .invokevirtual 192, 3), (13, .iaload, 1), (14, .tableswitch 114 1 5 #[34, 64, 71, 79, 87], 34)],
  [],
  [],
  [(48, .aload_n 0, 1), (49, .invokevirtual 195, 3), (52, .astore_n 2, 1), (53, .aload_n 2, 1), (54, .getfield 122, 3), (57, .iconst 2, 1), (58, .if_icmp .ne 12, 3)],
  [(70, .aload_n 0, 1), (71, .aload_n 2, 1), (72, .invokevirtual 203, 3), (75, .goto 53, 3)],
  [],
  [(101, .aload_n 0, 1), (102, .getfield 12, 3), (105, .invokevirtual 78, 3), (108, .aload_n 0, 1), (109, .invokevirtual 216, 3)],
  [(112, .aload_n 0, 1), (113, .getfield 28, 3), (116, .bipush 9, 2), (118, .iconst 0, 1), (119, .bipush 10, 2), (121, .invokevirtual 67, 3), (124, .pop, 1), (125, .goto 3, 3)],
  [(128, .return_, 1)]]
def rf_m_9_21 : List (List (Nat × Instr × Nat)) := [[(0, .aload_n 0, 1), (1, .getfield 88, 3), (4, .iconst 5, 1), (5, .if_icmp .ne 17, 3)],
  [(22, .aload_n 0, 1), (23, .getfield 88, 3), (26, .bipush 7, 2), (28, .if_icmp .eq 15, 3)],
  [(43, .aload_n 0, 1), (44, .invokevirtual 117, 3), (47, .aload_n 0, 1)],
  [(48, .getfield 51, 3), (51, .iload_n 1, 1), (52, .aload_n 0, 1), (53, .getfield 133, 3), (56, .iastore, 1), (57, .aload_n 0, 1), (58, .bipush 6, 2), (60, .iconst 0, 1), (61, .aload_n 0, 1), (62, .getfield 142, 3)],
  [(65, .invokevirtual 152, 3), (68, .istore_n 3, 1), (69, .aload_n 0, 1), (70, .iconst 2, 1), (71, .iload_n 2, 1), (72, .iconst 0, 1), (73, .invokevirtual 162, 3), (76, .aload_n 0, 1), (77, .iconst 5, 1), (78, .iconst 0, 1), (79, .iconst 0, 1)],
  [(80, .invokevirtual 162, 3), (83, .aload_n 0, 1), (84, .bipush 6, 2), (86, .iconst 0, 1), (87, .iconst 0, 1), (88, .invokevirtual 162, 3), (91, .return_, 1)]]
def rf_m_8_20 : List (List (Nat × Instr × Nat)) := [[(0, .aload_n 0, 1), (1, .aload_n 0, 1), (2, .getfield 28, 3), (5, .invokevirtual 46, 3), (8, .istore_n 1, 1), (9, .aload_n 0, 1), (10, .dup, 1), (11, .getfield 28, 3), (14, .iconst 1, 1), (15, .isub, 1)],
  [(16, .putfield 28, 3), (19, .iload_n 1, 1), (20, .ireturn, 1)]]
def rf_m_4_4 : List (List (Nat × Instr × Nat)) := [[(0, .aload_n 0, 1), (1, .getfield 28, 3), (4, .iconst 1, 1), (5, .iadd, 1), (6, .aload_n 0, 1), (7, .getfield 24, 3), (10, .if_icmp .ge 22, 3), (13, .aload_n 0, 1), (14, .getfield 13, 3)],
  [(17, .aload_n 0, 1), (18, .getfield 28, 3), (21, .iconst 1, 1), (22, .iadd, 1), (23, .aaload, 1), (24, .aload_n 1, 1), (25, .if_acmp .ne 7, 3), (28, .iconst 1, 1), (29, .goto 4, 3)],
  [(32, .iconst 0, 1), (33, .ireturn, 1)]]
def rf_m_7_0 : List (List (Nat × Instr × Nat)) := [[(0, .aload_n 0, 1), (1, .invokespecial 3, 3), (4, .aload_n 0, 1), (5, .sipush 180, 3), (8, .newarray .int, 2), (10, .putfield 11, 3), (13, .aload_n 0, 1), (14, .sipush 180, 3)],
  [(17, .newarray .int, 2), (19, .putfield 15, 3), (22, .aload_n 0, 1), (23, .sipush 180, 3), (26, .newarray .int, 2), (28, .putfield 18, 3), (31, .aload_n 0, 1)],
  [(32, .iconst 0, 1), (33, .putfield 21, 3), (36, .return_, 1)]]
def rf_m_4_6 : List (List (Nat × Instr × Nat)) := [[(0, .aload_n 0, 1), (1, .getfield 21, 3), (4, .aload_n 0, 1), (5, .getfield 28, 3), (8, .iaload, 1), (9, .ireturn, 1)]]
def rf_m_8_10 : List (List (Nat × Instr × Nat)) := [[(0, .iload_n 1, 1), (1, .sipush 199, 3), (4, .aload_n 0, 1), (5, .getfield 28, 3), (8, .isub, 1), (9, .if_icmp .gt 7, 3), (12, .iconst 1, 1), (13, .goto 4, 3)],
  [(17, .ireturn, 1)]]
def rf_m_8_15 : List (List (Nat × Instr × Nat)) := [[(0, .aload_n 0, 1), (1, .getfield 25, 3), (4, .istore_n 2, 1), (5, .aload_n 0, 1), (6, .aload_n 0, 1), (7, .iload_n 2, 1), (8, .iconst 1, 1), (9, .iadd, 1), (10, .invokevirtual 46, 3), (13, .putfield 25, 3)],
  [(16, .aload_n 0, 1), (17, .aload_n 0, 1), (18, .iload_n 2, 1), (19, .iconst 2, 1), (20, .iadd, 1), (21, .invokevirtual 46, 3), (24, .putfield 22, 3), (27, .aload_n 0, 1), (28, .iload_n 2, 1), (29, .iconst 1, 1), (30, .isub, 1), (31, .iload_n 1, 1)],
  [(32, .isub, 1), (33, .putfield 28, 3), (36, .aload_n 0, 1), (37, .dup, 1), (38, .getfield 31, 3), (41, .iconst 1, 1), (42, .isub, 1), (43, .putfield 31, 3), (46, .iload_n 2, 1), (47, .ifCond .ne 8, 3)],
  [(50, .aload_n 0, 1), (51, .iconst 2, 1), (52, .putfield 18, 3), (55, .return_, 1)]]
def rf_m_5_8 : List (List (Nat × Instr × Nat)) := [[(0, .aload_n 0, 1), (1, .getfield 13, 3), (4, .aload_n 0, 1), (5, .getfield 17, 3), (8, .bipush 89, 2), (10, .invokestatic 37, 3), (13, .aaload, 1), (14, .astore 4, 2)],
  [(16, .aload_n 0, 1), (17, .aload_n 0, 1), (18, .getfield 17, 3), (21, .iconst 1, 1), (22, .iadd, 1), (23, .bipush 90, 2), (25, .invokestatic 37, 3), (28, .putfield 17, 3), (31, .aload 4, 2)],
  [(33, .iload_n 1, 1), (34, .putfield 29, 3), (37, .aload 4, 2), (39, .iload_n 2, 1), (40, .putfield 43, 3), (43, .aload 4, 2), (45, .aload_n 0, 1), (46, .getfield 25, 3)],
  [(49, .putfield 36, 3), (52, .aload 4, 2), (54, .iload_n 3, 1), (55, .putfield 46, 3), (58, .aload 4, 2), (60, .iconst 0, 1), (61, .putfield 49, 3)],
  [(64, .aload 4, 2), (66, .areturn, 1)]]
def rf_m_10_0 : List (List (Nat × Instr × Nat)) := [[(0, .aload_n 0, 1), (1, .getfield 7, 3), (4, .ireturn, 1)]]
def rf_m_9_11 : List (List (Nat × Instr × Nat)) := [[(0, .aload_n 0, 1), (1, .getfield 88, 3), (4, .istore_n 1, 1), (5, .aload_n 0, 1), (6, .getfield 78, 3), (9, .istore_n 2, 1), (10, .aload_n 0, 1), (11, .getfield 85, 3), (14, .istore_n 3, 1), (15, .aload_n 0, 1)],
  [(16, .getfield 104, 3), (19, .istore 4, 2), (21, .aload_n 0, 1), (22, .aload_n 0, 1), (23, .getfield 104, 3), (26, .invokevirtual 107, 3), (29, .aload_n 0, 1), (30, .getfield 88, 3)],
  [(33, .istore 5, 2), (35, .aload_n 0, 1), (36, .iload_n 1, 1), (37, .putfield 88, 3), (40, .aload_n 0, 1), (41, .iload_n 2, 1), (42, .putfield 78, 3), (45, .aload_n 0, 1), (46, .iload_n 3, 1), (47, .putfield 85, 3)],
  [(50, .aload_n 0, 1), (51, .iload 4, 2), (53, .putfield 104, 3), (56, .iload 5, 2), (58, .ireturn, 1)]]
def rf_m_7_5 : List (List (Nat × Instr × Nat)) := [[(0, .aload_n 0, 1), (1, .aload_n 1, 1), (2, .getfield 21, 3), (5, .putfield 21, 3), (8, .aload_n 1, 1), (9, .getfield 11, 3), (12, .iconst 0, 1), (13, .aload_n 0, 1), (14, .getfield 11, 3)],
  [(17, .iconst 0, 1), (18, .aload_n 0, 1), (19, .getfield 21, 3), (22, .invokestatic 29, 3), (25, .aload_n 1, 1), (26, .getfield 15, 3), (29, .iconst 0, 1), (30, .aload_n 0, 1), (31, .getfield 15, 3)],
  [(34, .iconst 0, 1), (35, .aload_n 0, 1), (36, .getfield 21, 3), (39, .invokestatic 29, 3), (42, .aload_n 1, 1), (43, .getfield 18, 3), (46, .iconst 0, 1), (47, .aload_n 0, 1)],
  [(48, .getfield 18, 3), (51, .iconst 0, 1), (52, .aload_n 0, 1), (53, .getfield 21, 3), (56, .invokestatic 29, 3), (59, .return_, 1)]]
def rf_m_3_4 : List (List (Nat × Instr × Nat)) := [[(0, .aload_n 0, 1), (1, .getfield 21, 3), (4, .invokevirtual 42, 3), (7, .aload_n 0, 1), (8, .getfield 28, 3), (11, .invokevirtual 45, 3), (14, .aload_n 0, 1), (15, .iconst 0, 1)],
  [(16, .putfield 32, 3), (19, .aload_n 0, 1), (20, .iconst (-1), 1), (21, .putfield 36, 3), (24, .aload_n 0, 1), (25, .iconst (-1), 1), (26, .putfield 39, 3), (29, .aload_n 0, 1), (30, .getfield 12, 3)],
  [(33, .aload_n 1, 1), (34, .iload_n 2, 1), (35, .invokevirtual 46, 3), (38, .aload_n 0, 1), (39, .iconst 0, 1), (40, .invokevirtual 50, 3), (43, .aload_n 0, 1), (44, .getstatic 54, 3), (47, .invokevirtual 60, 3)],
  [(50, .aload_n 0, 1), (51, .getstatic 64, 3), (54, .invokevirtual 60, 3), (57, .return_, 1)]]
def rf_m_3_12 : List (List (Nat × Instr × Nat)) := [[(0, .aload_n 0, 1), (1, .iconst 0, 1), (2, .invokevirtual 179, 3), (5, .iconst 0, 1), (6, .istore_n 1, 1), (7, .iload_n 1, 1), (8, .sipush 180, 3), (11, .if_icmp .ge 34, 3), (14, .aload_n 0, 1), (15, .getfield 12, 3)],
  [(18, .getstatic 128, 3), (21, .invokevirtual 74, 3), (24, .ifCond .eq 21, 3), (27, .aload_n 0, 1), (28, .getfield 12, 3), (31, .invokevirtual 78, 3)],
  [(34, .aload_n 0, 1), (35, .iconst 0, 1), (36, .invokevirtual 179, 3), (39, .iinc 1 1, 3), (42, .goto (-35), 3), (45, .return_, 1)]]
def rf_m_8_0 : List (List (Nat × Instr × Nat)) := [[(0, .aload_n 0, 1), (1, .invokespecial 3, 3), (4, .aload_n 0, 1), (5, .sipush 200, 3), (8, .newarray .int, 2), (10, .putfield 11, 3), (13, .aload_n 0, 1), (14, .bipush 8, 2)],
  [(16, .newarray .int, 2), (18, .putfield 15, 3), (21, .aload_n 0, 1), (22, .iconst 0, 1), (23, .putfield 18, 3), (26, .aload_n 0, 1), (27, .iconst 0, 1), (28, .putfield 22, 3), (31, .aload_n 0, 1)],
  [(32, .iconst 0, 1), (33, .putfield 25, 3), (36, .aload_n 0, 1), (37, .iconst (-1), 1), (38, .putfield 28, 3), (41, .aload_n 0, 1), (42, .iconst 0, 1), (43, .putfield 31, 3), (46, .aload_n 0, 1), (47, .iconst 0, 1)],
  [(48, .putfield 34, 3), (51, .return_, 1)]]
def rf_m_3_7 : List (List (Nat × Instr × Nat)) := [[(0, .aload_n 0, 1), (1, .iconst 0, 1), (2, .iload_n 1, 1), (3, .invokevirtual 111, 3), (6, .astore_n 2, 1), (7, .iconst 1, 1), (8, .istore_n 3, 1), (9, .aload_n 0, 1), (10, .getfield 12, 3), (13, .getstatic 115, 3)],
  [(16, .invokevirtual 74, 3), (19, .ifCond .eq 25, 3), (22, .aload_n 0, 1), (23, .getfield 12, 3), (26, .invokevirtual 78, 3), (29, .aload_n 0, 1), (30, .invokevirtual 118, 3)],
  [(33, .istore_n 3, 1), (34, .aload_n 2, 1), (35, .iconst 1, 1), (36, .putfield 122, 3), (39, .aload_n 2, 1), (40, .iload_n 3, 1), (41, .putfield 125, 3), (44, .aload_n 0, 1), (45, .getstatic 128, 3)],
  [(48, .invokevirtual 60, 3), (51, .iload_n 3, 1), (52, .ireturn, 1)]]
def rf_m_5_6 : List (List (Nat × Instr × Nat)) := [[(0, .aload_n 0, 1), (1, .getfield 17, 3), (4, .iconst 1, 1), (5, .isub, 1), (6, .istore_n 2, 1), (7, .iload_n 2, 1), (8, .ifCond .lt 29, 3), (11, .aload_n 0, 1), (12, .getfield 13, 3), (15, .iload_n 2, 1)],
  [(16, .aaload, 1), (17, .getfield 29, 3), (20, .iload_n 1, 1), (21, .if_icmp .ne 10, 3), (24, .aload_n 0, 1), (25, .getfield 13, 3), (28, .iload_n 2, 1), (29, .aaload, 1), (30, .areturn, 1)],
  [(37, .aconst_null, 1), (38, .areturn, 1)]]
def rf_m_3_0 : List (List (Nat × Instr × Nat)) := [[(0, .aload_n 0, 1), (1, .invokespecial 3, 3), (4, .aload_n 0, 1), (5, .new 9, 3), (8, .dup, 1), (9, .invokespecial 11, 3), (12, .putfield 12, 3), (15, .aload_n 0, 1)],
  [(16, .new 18, 3), (19, .dup, 1), (20, .invokespecial 20, 3), (23, .putfield 21, 3), (26, .aload_n 0, 1), (27, .new 25, 3), (30, .dup, 1), (31, .invokespecial 27, 3)],
  [(34, .putfield 28, 3), (37, .aload_n 0, 1), (38, .iconst 0, 1), (39, .putfield 32, 3), (42, .aload_n 0, 1), (43, .iconst (-1), 1), (44, .putfield 36, 3), (47, .aload_n 0, 1)],
  [(48, .iconst (-1), 1), (49, .putfield 39, 3), (52, .return_, 1)]]
def rf_m_3_14 : List (List (Nat × Instr × Nat)) := [[(0, .aload_n 0, 1), (1, .invokevirtual 219, 3), (4, .astore_n 1, 1), (5, .aload_n 0, 1), (6, .getfield 12, 3), (9, .getstatic 222, 3), (12, .invokevirtual 225, 3), (15, .istore_n 2, 1)],
  [(16, .aload_n 0, 1), (17, .getfield 12, 3), (20, .getstatic 228, 3), (23, .invokevirtual 225, 3), (26, .istore_n 3, 1), (27, .aload_n 1, 1), (28, .getfield 122, 3), (31, .lookupswitch 49 #[(1, 43), (2, 25)], 25)],
  [],
  [],
  [(74, .iload_n 3, 1), (75, .istore 4, 2), (77, .goto 6, 3)],
  [(83, .iload 4, 2), (85, .ifCond .ne 15, 3)],
  [(100, .aload_n 0, 1), (101, .getfield 12, 3), (104, .invokevirtual 78, 3), (107, .aload_n 1, 1), (108, .areturn, 1)]]
def rf_m_8_14 : List (List (Nat × Instr × Nat)) := [[(0, .iconst 3, 1), (1, .istore_n 2, 1), (2, .iload_n 2, 1), (3, .iload_n 1, 1), (4, .if_icmp .ge 22, 3), (7, .aload_n 0, 1), (8, .aload_n 0, 1), (9, .getfield 28, 3), (12, .iconst 1, 1), (13, .iadd, 1), (14, .iload_n 2, 1), (15, .iadd, 1)],
  [(16, .iconst 0, 1), (17, .invokevirtual 83, 3), (20, .iinc 2 1, 3), (23, .goto (-21), 3), (26, .aload_n 0, 1), (27, .dup, 1), (28, .getfield 28, 3), (31, .iload_n 1, 1)],
  [(32, .iadd, 1), (33, .putfield 28, 3), (36, .return_, 1)]]
def rf_m_8_16 : List (List (Nat × Instr × Nat)) := [[(0, .iload_n 1, 1), (1, .lookupswitch 84 #[(0, 35), (1, 43), (10, 55)], 35)],
  [],
  [(36, .aload_n 0, 1), (37, .iload_n 2, 1), (38, .invokevirtual 99, 3), (41, .goto 66, 3)],
  [(56, .aload_n 0, 1), (57, .getfield 15, 3), (60, .aload_n 0, 1), (61, .getfield 34, 3)],
  [(64, .bipush 8, 2), (66, .irem, 1), (67, .aload_n 0, 1), (68, .invokevirtual 79, 3), (71, .iastore, 1), (72, .aload_n 0, 1), (73, .dup, 1), (74, .getfield 34, 3), (77, .iconst 1, 1), (78, .iadd, 1), (79, .putfield 34, 3)],
  [(82, .goto 25, 3)],
  [(107, .return_, 1)]]
def rf_m_2_0 : List (List (Nat × Instr × Nat)) := [[(0, .aload_n 0, 1), (1, .invokespecial 1, 3), (4, .aload_n 0, 1), (5, .sipush 180, 3), (8, .newarray .char, 2), (10, .putfield 9, 3), (13, .aload_n 0, 1), (14, .iconst 0, 1), (15, .putfield 13, 3)],
  [(18, .aload_n 0, 1), (19, .new 17, 3), (22, .dup, 1), (23, .invokespecial 19, 3), (26, .putfield 20, 3), (29, .aload_n 0, 1), (30, .new 24, 3)],
  [(33, .dup, 1), (34, .invokespecial 26, 3), (37, .putfield 27, 3), (40, .aload_n 0, 1), (41, .new 31, 3), (44, .dup, 1), (45, .invokespecial 33, 3)],
  [(48, .putfield 34, 3), (51, .return_, 1)]]
def rf_m_2_2 : List (List (Nat × Instr × Nat)) := [[(0, .aload_n 0, 1), (1, .getfield 13, 3), (4, .istore_n 1, 1), (5, .aload_n 0, 1), (6, .iconst 0, 1), (7, .putfield 13, 3), (10, .aload_n 0, 1), (11, .getfield 20, 3), (14, .aload_n 0, 1), (15, .getfield 9, 3)],
  [(18, .iload_n 1, 1), (19, .invokevirtual 46, 3), (22, .aload_n 0, 1), (23, .getfield 27, 3), (26, .aload_n 0, 1), (27, .getfield 20, 3), (30, .invokevirtual 50, 3)],
  [(33, .invokevirtual 54, 3), (36, .aload_n 0, 1), (37, .getfield 34, 3), (40, .invokevirtual 58, 3), (43, .aload_n 0, 1), (44, .getfield 27, 3), (47, .invokevirtual 61, 3)],
  [(50, .ireturn, 1)]]
def rf_m_3_16 : List (List (Nat × Instr × Nat)) := [[(0, .aload_n 1, 1), (1, .getfield 122, 3), (4, .iconst 1, 1), (5, .if_icmp .ne 7, 3), (8, .iconst 1, 1), (9, .goto 4, 3), (13, .istore_n 2, 1), (14, .iload_n 2, 1), (15, .ifCond .eq 8, 3)],
  [(18, .aload_n 0, 1), (19, .aload_n 1, 1), (20, .invokevirtual 235, 3), (23, .aload_n 0, 1), (24, .getstatic 222, 3), (27, .invokevirtual 60, 3), (30, .aload_n 0, 1), (31, .invokevirtual 216, 3)],
  [(34, .aload_n 0, 1), (35, .iload_n 2, 1), (36, .ifCond .eq 7, 3), (39, .iconst 4, 1), (40, .goto 4, 3), (44, .aload_n 1, 1), (45, .invokevirtual 238, 3)],
  [(48, .return_, 1)]]
def rf_m_9_12 : List (List (Nat × Instr × Nat)) := [[(0, .aload_n 0, 1), (1, .getfield 124, 3), (4, .iconst 1, 1), (5, .isub, 1), (6, .istore_n 2, 1), (7, .iload_n 2, 1), (8, .ifCond .lt 19, 3), (11, .aload_n 0, 1), (12, .getfield 30, 3), (15, .iload_n 2, 1)],
  [(16, .iaload, 1), (17, .iload_n 1, 1), (18, .if_icmp .eq 9, 3), (27, .iload_n 2, 1), (28, .ireturn, 1)]]
def rf_m_3_9 : List (List (Nat × Instr × Nat)) := [[(0, .aload_n 0, 1), (1, .getfield 12, 3), (4, .invokevirtual 131, 3), (7, .istore_n 3, 1), (8, .aload_n 0, 1), (9, .getfield 12, 3), (12, .invokevirtual 134, 3), (15, .istore 4, 2)],
  [(17, .aload_n 0, 1), (18, .getstatic 106, 3), (21, .invokevirtual 60, 3), (24, .aload_n 0, 1), (25, .getfield 21, 3), (28, .iload_n 3, 1), (29, .invokevirtual 144, 3)],
  [(32, .ifCond .eq 10, 3), (42, .aload_n 0, 1), (43, .getfield 21, 3), (46, .iload_n 3, 1), (47, .iload_n 1, 1)],
  [(48, .iload_n 2, 1), (49, .invokevirtual 148, 3), (52, .areturn, 1)]]
def rf_m_9_50 : List (List (Nat × Instr × Nat)) := [[(0, .aload_n 0, 1), (1, .iload_n 1, 1), (2, .ifCond .lt 10, 3), (5, .iload_n 1, 1), (6, .sipush 200, 3), (9, .if_icmp .le 7, 3)],
  [(16, .iconst 0, 1), (17, .putfield 72, 3), (20, .iconst 0, 1), (21, .istore_n 2, 1), (22, .aload_n 0, 1), (23, .getfield 72, 3), (26, .ifCond .ne 26, 3), (29, .iload_n 2, 1), (30, .iload_n 1, 1), (31, .if_icmp .ge 21, 3)],
  [(34, .aload_n 0, 1), (35, .getfield 239, 3), (38, .iconst 1, 1), (39, .if_icmp .ne 13, 3)],
  [(52, .iload_n 2, 1), (53, .ireturn, 1)]]
def rf_m_4_0 : List (List (Nat × Instr × Nat)) := [[(0, .aload_n 0, 1), (1, .invokespecial 3, 3), (4, .aload_n 0, 1), (5, .sipush 181, 3), (8, .anewarray 11, 3), (11, .putfield 13, 3), (14, .aload_n 0, 1), (15, .sipush 181, 3)],
  [(18, .newarray .int, 2), (20, .putfield 17, 3), (23, .aload_n 0, 1), (24, .sipush 181, 3), (27, .newarray .int, 2), (29, .putfield 21, 3)],
  [(32, .aload_n 0, 1), (33, .iconst 0, 1), (34, .putfield 24, 3), (37, .aload_n 0, 1), (38, .iconst 0, 1), (39, .putfield 28, 3), (42, .return_, 1)]]
def rf_m_8_6 : List (List (Nat × Instr × Nat)) := [[(0, .iload_n 1, 1), (1, .ifCond .lt 17, 3), (4, .iload_n 1, 1), (5, .bipush 8, 2), (7, .if_icmp .ge 11, 3), (10, .iload_n 1, 1), (11, .aload_n 0, 1), (12, .getfield 34, 3), (15, .if_icmp .lt 5, 3)],
  [(20, .aload_n 0, 1), (21, .getfield 15, 3), (24, .aload_n 0, 1), (25, .getfield 34, 3), (28, .iconst 1, 1), (29, .isub, 1), (30, .iload_n 1, 1), (31, .isub, 1)],
  [(32, .bipush 8, 2), (34, .irem, 1), (35, .iaload, 1), (36, .ireturn, 1)]]
def rf_m_9_5 : List (List (Nat × Instr × Nat)) := [[(0, .iload_n 0, 1), (1, .lookupswitch 130 #[(143, 124), (294, 112), (5572, 109), (22578, 99), (176741, 118), (543203, 101), (663726, 115), (1656889, 103), (2268462, 106), (24388997, 121), (24716933, 127)], 99)],
  [],
  [],
  [],
  [],
  [],
  [(100, .iconst 4, 1), (101, .ireturn, 1), (104, .bipush 6, 2), (106, .ireturn, 1), (107, .bipush 7, 2), (109, .ireturn, 1)],
  [],
  [(131, .iconst 2, 1), (132, .ireturn, 1)]]
def rf_m_3_8 : List (List (Nat × Instr × Nat)) := [[(0, .aload_n 0, 1), (1, .getfield 12, 3), (4, .invokevirtual 131, 3), (7, .istore_n 1, 1), (8, .aload_n 0, 1), (9, .getfield 12, 3), (12, .invokevirtual 134, 3), (15, .istore_n 2, 1)],
  [(16, .aload_n 0, 1), (17, .getstatic 137, 3), (20, .invokevirtual 60, 3), (23, .iload_n 1, 1), (24, .iconst 1, 1), (25, .if_icmp .lt 9, 3), (28, .iload_n 1, 1), (29, .bipush 30, 2), (31, .if_icmp .le 10, 3)],
  [(41, .iload_n 1, 1), (42, .ireturn, 1)]]
def rf_m_3_6 : List (List (Nat × Instr × Nat)) := [[(0, .iload_n 1, 1), (1, .aload_n 0, 1), (2, .iload_n 1, 1), (3, .invokevirtual 103, 3), (6, .iadd, 1), (7, .istore_n 2, 1), (8, .iconst 0, 1), (9, .istore_n 3, 1), (10, .iload_n 3, 1), (11, .sipush 180, 3), (14, .if_icmp .ge 30, 3)],
  [(17, .aload_n 0, 1), (18, .getfield 12, 3), (21, .getstatic 106, 3), (24, .invokevirtual 74, 3), (27, .ifCond .eq 17, 3)],
  [(44, .iload_n 2, 1), (45, .ireturn, 1)]]
def rf_m_3_28 : List (List (Nat × Instr × Nat)) := [[(0, .aload_n 0, 1), (1, .getfield 12, 3), (4, .invokevirtual 78, 3), (7, .aload_n 0, 1), (8, .invokevirtual 216, 3), (11, .aload_n 0, 1), (12, .getstatic 288, 3), (15, .invokevirtual 60, 3)],
  [(18, .aload_n 0, 1), (19, .getfield 28, 3), (22, .bipush 11, 2), (24, .iconst 0, 1), (25, .aload_n 1, 1), (26, .getfield 125, 3), (29, .invokevirtual 67, 3)],
  [(32, .pop, 1), (33, .return_, 1)]]
def rf_m_9_19 : List (List (Nat × Instr × Nat)) := [[(0, .aload_n 0, 1), (1, .bipush 7, 2), (3, .iconst 0, 1), (4, .iconst 0, 1), (5, .invokevirtual 152, 3), (8, .istore_n 1, 1), (9, .aload_n 0, 1), (10, .invokevirtual 156, 3), (13, .aload_n 0, 1), (14, .iconst 1, 1), (15, .iload_n 1, 1)],
  [(16, .aload_n 0, 1), (17, .getfield 159, 3), (20, .invokevirtual 162, 3), (23, .return_, 1)]]
def rf_m_3_29 : List (List (Nat × Instr × Nat)) := [[(0, .aload_n 0, 1), (1, .getfield 28, 3), (4, .iload_n 1, 1), (5, .aload_n 0, 1), (6, .getfield 21, 3), (9, .invokevirtual 291, 3), (12, .aload_n 2, 1), (13, .getfield 294, 3)],
  [(16, .isub, 1), (17, .aload_n 2, 1), (18, .getfield 296, 3), (21, .invokevirtual 67, 3), (24, .pop, 1), (25, .return_, 1)]]
def rf_m_9_53 : List (List (Nat × Instr × Nat)) := [[(0, .aload_n 0, 1), (1, .iconst 0, 1), (2, .putfield 72, 3), (5, .iload_n 1, 1), (6, .ifCond .lt 18, 3), (9, .iload_n 1, 1), (10, .bipush 8, 2), (12, .if_icmp .ge 12, 3), (15, .aload_n 0, 1)],
  [(16, .getfield 69, 3), (19, .iload_n 1, 1), (20, .iaload, 1), (21, .goto 4, 3), (25, .ireturn, 1)]]
def rf_m_8_12 : List (List (Nat × Instr × Nat)) := [[(0, .aload_n 0, 1), (1, .invokevirtual 79, 3), (4, .istore_n 2, 1), (5, .aload_n 0, 1), (6, .invokevirtual 79, 3), (9, .istore_n 3, 1), (10, .aload_n 0, 1), (11, .iload_n 1, 1), (12, .iload_n 3, 1), (13, .iadd, 1), (14, .iload_n 2, 1), (15, .invokevirtual 83, 3)],
  [(18, .return_, 1)]]
def rf_m_4_5 : List (List (Nat × Instr × Nat)) := [[(0, .aload_n 0, 1), (1, .getfield 17, 3), (4, .aload_n 0, 1), (5, .getfield 28, 3), (8, .iaload, 1), (9, .ireturn, 1)]]
def rf_m_15_1 : List (List (Nat × Instr × Nat)) := [[(0, .iload_n 0, 1), (1, .iload_n 1, 1), (2, .if_icmp .gt 7, 3), (5, .iload_n 0, 1), (6, .goto 4, 3), (10, .ireturn, 1)]]
def rf_m_7_4 : List (List (Nat × Instr × Nat)) := [[(0, .aload_n 0, 1), (1, .iload_n 1, 1), (2, .invokevirtual 25, 3), (5, .ifCond .eq 13, 3), (8, .aload_n 0, 1), (9, .getfield 18, 3), (12, .iload_n 1, 1), (13, .aload_n 0, 1), (14, .getfield 21, 3)],
  [(17, .iastore, 1), (18, .return_, 1)]]
def rf_m_3_15 : List (List (Nat × Instr × Nat)) := [[(0, .aload_n 0, 1), (1, .getfield 21, 3), (4, .aload_n 0, 1), (5, .getfield 12, 3), (8, .invokevirtual 131, 3), (11, .invokevirtual 231, 3), (14, .astore_n 1, 1), (15, .aload_n 1, 1)],
  [(16, .ifnonnull 15, 3), (31, .aload_n 1, 1)],
  [(32, .areturn, 1)]]
def rf_m_9_9 : List (List (Nat × Instr × Nat)) := [[(0, .aload_n 0, 1), (1, .getfield 111, 3), (4, .ifCond .ne 13, 3), (7, .aload_n 0, 1), (8, .iload_n 1, 1), (9, .putfield 111, 3), (12, .aload_n 0, 1), (13, .iload_n 2, 1), (14, .putfield 114, 3)],
  [(17, .return_, 1)]]
def rf_m_0_2 : List (List (Nat × Instr × Nat)) := [[(0, .aload_n 2, 1), (1, .iconst 0, 1), (2, .aload_n 0, 1), (3, .iload_n 1, 1), (4, .invokevirtual 15, 3), (7, .i2l, 1), (8, .lastore, 1), (9, .goto 6, 3), (15, .iconst 0, 1)],
  [(16, .ireturn, 1)]]
def rf_m_8_18 : List (List (Nat × Instr × Nat)) := [[(0, .aload_n 0, 1), (1, .getfield 25, 3), (4, .istore_n 2, 1), (5, .iconst 0, 1), (6, .istore_n 3, 1), (7, .iload_n 3, 1), (8, .iload_n 1, 1), (9, .if_icmp .ge 19, 3)],
  [(28, .iload_n 2, 1), (29, .ireturn, 1)]]
def rf_m_0_1 : List (List (Nat × Instr × Nat)) := [[(0, .aload_n 1, 1), (1, .iconst 0, 1), (2, .aload_n 0, 1), (3, .invokevirtual 7, 3), (6, .i2l, 1), (7, .lastore, 1), (8, .goto 6, 3), (14, .iconst 0, 1), (15, .ireturn, 1)]]
def rf_m_2_5 : List (List (Nat × Instr × Nat)) := [[(0, .aload_n 0, 1), (1, .getfield 27, 3), (4, .invokevirtual 61, 3), (7, .ifCond .ne 5, 3), (12, .aload_n 0, 1), (13, .getfield 34, 3)],
  [(16, .invokevirtual 81, 3), (19, .iconst 1, 1), (20, .ireturn, 1)]]
def rf_m_8_2 : List (List (Nat × Instr × Nat)) := [[(0, .aload_n 0, 1), (1, .invokevirtual 43, 3), (4, .aload_n 0, 1), (5, .iconst 1, 1), (6, .putfield 18, 3), (9, .aload_n 0, 1), (10, .iconst 1, 1), (11, .putfield 31, 3), (14, .return_, 1)]]
def rf_m_5_7 : List (List (Nat × Instr × Nat)) := [[(0, .aload_n 0, 1), (1, .iload_n 1, 1), (2, .invokevirtual 32, 3), (5, .astore_n 2, 1), (6, .aload_n 2, 1), (7, .ifnull 18, 3)],
  [(25, .iconst 0, 1), (26, .ireturn, 1)]]
def rf_m_9_10 : List (List (Nat × Instr × Nat)) := [[(0, .aload_n 0, 1), (1, .getfield 88, 3), (4, .iload_n 1, 1), (5, .if_icmp .ne 10, 3), (8, .aload_n 0, 1), (9, .invokevirtual 117, 3), (12, .goto 12, 3)],
  [(24, .return_, 1)]]
def rf_m_9_40 : List (List (Nat × Instr × Nat)) := [[(0, .aload_n 0, 1), (1, .iconst 0, 1), (2, .putfield 72, 3), (5, .aload_n 0, 1), (6, .getfield 232, 3), (9, .ifCond .ne 5, 3), (12, .iconst 0, 1), (13, .ireturn, 1)]]
def rf_m_5_1 : List (List (Nat × Instr × Nat)) := [[(0, .aload_n 0, 1), (1, .iconst 0, 1), (2, .putfield 17, 3), (5, .aload_n 0, 1), (6, .iconst 0, 1), (7, .putfield 25, 3), (10, .return_, 1)]]
def rf_m_9_25 : List (List (Nat × Instr × Nat)) := [[(0, .aload_n 0, 1), (1, .getfield 88, 3), (4, .tableswitch 196 2 14 #[68, 196, 196, 196, 196, 75, 196, 105, 196, 196, 136, 196, 170], 68)],
  [],
  [],
  [],
  [(72, .aload_n 0, 1), (73, .invokevirtual 185, 3), (76, .goto 124, 3)],
  [],
  [],
  [],
  [],
  [],
  [],
  [],
  [(200, .return_, 1)]]
def rf_m_7_2 : List (List (Nat × Instr × Nat)) := [[(0, .aload_n 0, 1), (1, .getfield 21, 3), (4, .ireturn, 1)]]
def rf_m_2_9 : List (List (Nat × Instr × Nat)) := [[(0, .aload_n 0, 1), (1, .getfield 34, 3), (4, .iload_n 1, 1), (5, .invokevirtual 100, 3), (8, .ireturn, 1)]]
def rf_m_7_1 : List (List (Nat × Instr × Nat)) := [[(0, .aload_n 0, 1), (1, .iconst 0, 1), (2, .putfield 21, 3), (5, .return_, 1)]]
def rf_m_5_2 : List (List (Nat × Instr × Nat)) := [[(0, .aload_n 0, 1), (1, .getfield 25, 3), (4, .ireturn, 1)]]
def rf_m_3_3 : List (List (Nat × Instr × Nat)) := [[(0, .aload_n 0, 1), (1, .getfield 28, 3), (4, .areturn, 1)]]
def rf_M : List (Nat × List (List (Nat × Instr × Nat))) := [(1285, rf_m_20_5), (1284, rf_m_20_4), (1216, rf_m_19_0), (704, rf_m_11_0), (577, rf_m_9_1), (706, rf_m_11_2), (768, rf_m_12_0), (705, rf_m_11_1), (707, rf_m_11_3), (832, rf_m_13_0), (384, rf_m_6_0), (139, rf_m_2_11), (708, rf_m_11_4), (583, rf_m_9_7), (267, rf_m_4_11), (320, rf_m_5_0), (591, rf_m_9_15), (129, rf_m_2_1), (257, rf_m_4_1), (265, rf_m_4_9), (264, rf_m_4_8), (612, rf_m_9_36), (140, rf_m_2_12), (269, rf_m_4_13), (0, rf_m_0_0), (266, rf_m_4_10), (263, rf_m_4_7), (268, rf_m_4_12), (520, rf_m_8_8), (451, rf_m_7_3), (582, rf_m_9_6), (259, rf_m_4_3), (579, rf_m_9_3), (457, rf_m_7_9), (218, rf_m_3_26), (960, rf_m_15_0), (216, rf_m_3_24), (611, rf_m_9_35), (258, rf_m_4_2), (578, rf_m_9_2), (134, rf_m_2_6), (223, rf_m_3_31), (607, rf_m_9_31), (217, rf_m_3_25), (580, rf_m_9_4), (64, rf_m_1_0), (592, rf_m_9_16), (594, rf_m_9_18), (1282, rf_m_20_2), (1281, rf_m_20_1), (605, rf_m_9_29), (454, rf_m_7_6), (455, rf_m_7_7), (456, rf_m_7_8), (576, rf_m_9_0), (533, rf_m_8_21), (584, rf_m_9_8), (222, rf_m_3_30), (523, rf_m_8_11), (515, rf_m_8_3), (521, rf_m_8_9), (197, rf_m_3_5), (590, rf_m_9_14), (534, rf_m_8_22), (589, rf_m_9_13), (513, rf_m_8_1), (531, rf_m_8_19), (600, rf_m_9_24), (205, rf_m_3_13), (597, rf_m_9_21), (532, rf_m_8_20), (260, rf_m_4_4), (448, rf_m_7_0), (262, rf_m_4_6), (522, rf_m_8_10), (527, rf_m_8_15), (328, rf_m_5_8), (640, rf_m_10_0), (587, rf_m_9_11), (453, rf_m_7_5), (196, rf_m_3_4), (204, rf_m_3_12), (512, rf_m_8_0), (199, rf_m_3_7), (326, rf_m_5_6), (192, rf_m_3_0), (206, rf_m_3_14), (526, rf_m_8_14), (528, rf_m_8_16), (128, rf_m_2_0), (130, rf_m_2_2), (208, rf_m_3_16), (588, rf_m_9_12), (201, rf_m_3_9), (626, rf_m_9_50), (256, rf_m_4_0), (518, rf_m_8_6), (581, rf_m_9_5), (200, rf_m_3_8), (198, rf_m_3_6), (220, rf_m_3_28), (595, rf_m_9_19), (221, rf_m_3_29), (629, rf_m_9_53), (524, rf_m_8_12), (261, rf_m_4_5), (961, rf_m_15_1), (452, rf_m_7_4), (207, rf_m_3_15), (585, rf_m_9_9), (2, rf_m_0_2), (530, rf_m_8_18), (1, rf_m_0_1), (133, rf_m_2_5), (514, rf_m_8_2), (327, rf_m_5_7), (586, rf_m_9_10), (616, rf_m_9_40), (321, rf_m_5_1), (601, rf_m_9_25), (450, rf_m_7_2), (137, rf_m_2_9), (449, rf_m_7_1), (322, rf_m_5_2), (195, rf_m_3_3)]
def rf_sc : Array Value := #[.int 0, .int 1986097696, .int 1629512050, .int 0, .int 1918990624, .int 825975397, .int 0, .int 1734962720, .int 1633364008, .int 0, .int 673720360, .int 808003881, .int 0, .int 690563421, .int 977090363, .int 0, .int 2003986804, .int 1696610149, .int 0, .int 1852059136, .int 0, .int 1, .int 0, .int 0, .int 4, .int 0, .int 0, .int 5, .int 9, .int 0, .int 8, .int 0, .int 0]
end
section
/-! one step by the table, and the run -/
/-- no row of the natives' table stands for this method -/
def rf_ov (k : Class) (idx : Nat) : Bool := !(overriddenIn.contains k.name || (start1.e0.platform.finalization && k.name == "java/lang/Object")) || rowless k idx
def rf_Pl (s : State) (m : MethodId) : Prop := ∃ k, s.vm.classes[m.cls]? = some k ∧ rf_ov k m.idx = true
def rf_pl (s : State) (m : MethodId) : Bool := match s.vm.classes[m.cls]? with
  | some k => rf_ov k m.idx
  | none => false
theorem rf_pl_of {s : State} {m : MethodId} (h : rf_pl s m = true) : rf_Pl s m := by
  unfold rf_pl at h
  split at h
  · rename_i k hk
    exact ⟨k, hk, h⟩
  · cases h
theorem rf_Pl_ov {s : State} {f : JFrame} (h : rf_Pl s f.method) : overridden start1.p0.tables start1.e0 s f = none := by
  obtain ⟨k, hk, ho⟩ := h
  unfold overridden
  split
  · rfl
  · rw [hk]
    simp only
    split
    · rfl
    · rename_i hn
      unfold rf_ov at ho
      rw [Bool.or_eq_true] at ho
      rcases ho with ho | ho
      · exact absurd (by rw [ho]; rfl) hn
      · unfold rowless at ho
        split
        · rename_i q hq
          rw [hq] at ho
          exact Option.isNone_iff_eq_none.mp ho
        · rfl
theorem rf_Pl_step {s : State} {m : MethodId} (h : rf_Pl s m) : rf_Pl (stepThread start1.p0.tables start1.e0 s).1 m := by
  obtain ⟨k, hk, ho⟩ := h
  obtain ⟨k', hk', hm⟩ := (stepThread_hm (e := start1.e0) start1.p0.tables (s := s) (cH := m.cls) (msH := k) ⟨k, hk, .refl k⟩).out
  refine ⟨k', hk', ?_⟩
  unfold rf_ov rowless at ho ⊢
  rw [hm.2.2.1, hm.2.1]
  exact ho
def rf_dcd (b : ByteArray) (x : Nat × Instr × Nat) : Bool := decide (decode b x.1 = .ok x.2)
def rf_chk (s : State) (x : Nat × List (List (Nat × Instr × Nat))) : Bool := match s.code? ⟨x.1 / 64, x.1 % 64⟩ with
  | some cd => rf_pl s ⟨x.1 / 64, x.1 % 64⟩ && x.2.all fun b => b.all (rf_dcd cd.code)
  | none => false
def rf_I (s : State) (x : Nat × List (List (Nat × Instr × Nat))) : Prop := ∃ cd, s.code? ⟨x.1 / 64, x.1 % 64⟩ = some cd ∧ rf_Pl s ⟨x.1 / 64, x.1 % 64⟩ ∧ ∀ b ∈ x.2, ∀ (p : Nat) (r : Instr × Nat), (p, r) ∈ b → decode cd.code p = .ok r
def rf_Inv (s : State) : Prop := ∀ x ∈ rf_M, rf_I s x
theorem rf_chk_of {s : State} {x : Nat × List (List (Nat × Instr × Nat))} (h : rf_chk s x = true) : rf_I s x := by
  unfold rf_chk at h
  split at h
  · rename_i cd hcd
    rw [Bool.and_eq_true] at h
    obtain ⟨h1, h2⟩ := h
    refine ⟨cd, hcd, rf_pl_of h1, fun b hb p r hy => ?_⟩
    have h5 : rf_dcd cd.code (p, r) = true := List.all_eq_true.mp (List.all_eq_true.mp h2 b hb) (p, r) hy
    unfold rf_dcd at h5
    exact of_decide_eq_true h5
  · cases h
theorem rf_I_step {s : State} {x : Nat × List (List (Nat × Instr × Nat))} (h : rf_I s x) : rf_I (stepThread start1.p0.tables start1.e0 s).1 x := by
  obtain ⟨cd, h1, h2, h4⟩ := h
  exact ⟨cd, stepThread_code? _ _ h1, rf_Pl_step h2, h4⟩
theorem rf_Inv_step {s : State} (h : rf_Inv s) : rf_Inv (stepThread start1.p0.tables start1.e0 s).1 := fun x hx => rf_I_step (h x hx)
noncomputable def rf_find (pc : Nat) (l : List (Nat × Instr × Nat)) : Option (Instr × Nat) :=
  List.rec (motive := fun _ => Option (Instr × Nat)) none (fun x _ ih => match Nat.beq x.1 pc with
    | true => some x.2
    | false => ih) l
theorem rf_find_of {pc : Nat} {r : Instr × Nat} : ∀ {l : List (Nat × Instr × Nat)}, rf_find pc l = some r → (pc, r) ∈ l := by
  intro l
  induction l with
  | nil => intro h; cases h
  | cons x l ih =>
    intro h
    have h' : (match Nat.beq x.1 pc with
      | true => some x.2
      | false => rf_find pc l) = some r := h
    split at h'
    · rename_i hb
      have hq := Nat.eq_of_beq_eq_true hb
      cases h'
      obtain ⟨a, b⟩ := x
      cases hq
      exact List.mem_cons_self
    · exact List.mem_cons_of_mem _ (ih h')
noncomputable def rf_nth (n : Nat) : List (List (Nat × Instr × Nat)) → List (Nat × Instr × Nat) :=
  Nat.rec (motive := fun _ => List (List (Nat × Instr × Nat)) → List (Nat × Instr × Nat)) (fun L => match L with
    | [] => []
    | b :: _ => b) (fun _ ih L => match L with
    | [] => []
    | _ :: r => ih r) n
theorem rf_nth_of {x : Nat × Instr × Nat} : ∀ {n : Nat} {L : List (List (Nat × Instr × Nat))}, x ∈ rf_nth n L → ∃ b ∈ L, x ∈ b := by
  intro n
  induction n with
  | zero =>
    intro L h
    match L, h with
    | [], h => cases h
    | b :: r, h => exact ⟨b, List.mem_cons_self, h⟩
  | succ n ih =>
    intro L h
    match L, h with
    | [], h => cases h
    | b :: r, h =>
      obtain ⟨c, hc, hx⟩ := ih (L := r) h
      exact ⟨c, List.mem_cons_of_mem _ hc, hx⟩
noncomputable def rf_meth (key : Nat) (M : List (Nat × List (List (Nat × Instr × Nat)))) : List (List (Nat × Instr × Nat)) :=
  List.rec (motive := fun _ => List (List (Nat × Instr × Nat))) [] (fun x _ ih => match Nat.beq x.1 key with
    | true => x.2
    | false => ih) M
theorem rf_meth_of {key : Nat} {b : List (Nat × Instr × Nat)} : ∀ {M : List (Nat × List (List (Nat × Instr × Nat)))}, b ∈ rf_meth key M → ∃ x ∈ M, x.1 = key ∧ b ∈ x.2 := by
  intro M
  induction M with
  | nil => intro h; cases h
  | cons x M ih =>
    intro h
    have h' : b ∈ (match Nat.beq x.1 key with
      | true => x.2
      | false => rf_meth key M) := h
    split at h'
    · rename_i hb
      exact ⟨x, List.mem_cons_self, Nat.eq_of_beq_eq_true hb, h'⟩
    · obtain ⟨y, hy, hz⟩ := ih h'
      exact ⟨y, List.mem_cons_of_mem _ hy, hz⟩
noncomputable def rf_dc (c i pc : Nat) : Option (Instr × Nat) := match Nat.blt i 64 with
  | true => rf_find pc (rf_nth (pc / 16) (rf_meth (c * 64 + i) rf_M))
  | false => none
theorem rf_dc_of {s : State} {c i pc : Nat} {r : Instr × Nat} (hI : rf_Inv s) (h : rf_dc c i pc = some r) : ∃ cd, s.code? ⟨c, i⟩ = some cd ∧ rf_Pl s ⟨c, i⟩ ∧ decode cd.code pc = .ok r := by
  unfold rf_dc at h
  split at h
  · rename_i hi
    have hi' : i < 64 := Nat.le_of_ble_eq_true hi
    obtain ⟨b, hb, hx⟩ := rf_nth_of (rf_find_of h)
    obtain ⟨x, hxM, hk, hbx⟩ := rf_meth_of hb
    obtain ⟨cd, h1, h2, h4⟩ := hI x hxM
    rw [hk, show (c * 64 + i) / 64 = c by omega, show (c * 64 + i) % 64 = i by omega] at h1 h2
    exact ⟨cd, h1, h2, h4 b hbx pc r hx⟩
  · cases h
noncomputable def rf_step (s : State) : State := match s.frames with
  | .java f :: _ => match rf_dc f.method.cls f.method.idx f.pc with
    | some (i, len) => (afterInstr start1.e0 len ((start1.p0.tables.exec i).run start1.e0 s)).1
    | none => (stepThread start1.p0.tables start1.e0 s).1
  | _ => (stepThread start1.p0.tables start1.e0 s).1
theorem rf_step_eq {s : State} (hI : rf_Inv s) : rf_step s = (stepThread start1.p0.tables start1.e0 s).1 := by
  unfold rf_step
  split
  · rename_i f r hf
    split
    · rename_i i len hd
      obtain ⟨cd, h1, h2, h3⟩ := rf_dc_of hI hd
      have ho : overridden start1.p0.tables start1.e0 s f = none := rf_Pl_ov h2
      unfold stepThread
      simp only [hf, ho]
      have h1' : s.code? f.method = some cd := h1
      rw [h1']
      simp only [Option.map_some, h3]
    · rfl
  · rfl
end
section
/-! the table is what decode says, at the start (by wip/whole/mk.py) -/
set_option maxRecDepth 100000 in
theorem rf_T0 : List.all [(1285, rf_m_20_5), (1284, rf_m_20_4), (1216, rf_m_19_0), (704, rf_m_11_0)] (rf_chk (start1.aboutOf rf_sc)) = true := by decide +kernel
set_option maxRecDepth 100000 in
theorem rf_T1 : List.all [(577, rf_m_9_1), (706, rf_m_11_2), (768, rf_m_12_0), (705, rf_m_11_1), (707, rf_m_11_3), (832, rf_m_13_0), (384, rf_m_6_0)] (rf_chk (start1.aboutOf rf_sc)) = true := by decide +kernel
set_option maxRecDepth 100000 in
theorem rf_T2 : List.all [(139, rf_m_2_11), (708, rf_m_11_4)] (rf_chk (start1.aboutOf rf_sc)) = true := by decide +kernel
set_option maxRecDepth 100000 in
theorem rf_T3 : List.all [(583, rf_m_9_7)] (rf_chk (start1.aboutOf rf_sc)) = true := by decide +kernel
set_option maxRecDepth 100000 in
theorem rf_T4 : List.all [(267, rf_m_4_11), (320, rf_m_5_0), (591, rf_m_9_15), (129, rf_m_2_1)] (rf_chk (start1.aboutOf rf_sc)) = true := by decide +kernel
set_option maxRecDepth 100000 in
theorem rf_T5 : List.all [(257, rf_m_4_1), (265, rf_m_4_9), (264, rf_m_4_8)] (rf_chk (start1.aboutOf rf_sc)) = true := by decide +kernel
set_option maxRecDepth 100000 in
theorem rf_T6 : List.all [(612, rf_m_9_36), (140, rf_m_2_12), (269, rf_m_4_13)] (rf_chk (start1.aboutOf rf_sc)) = true := by decide +kernel
set_option maxRecDepth 100000 in
theorem rf_T7 : List.all [(0, rf_m_0_0)] (rf_chk (start1.aboutOf rf_sc)) = true := by decide +kernel
set_option maxRecDepth 100000 in
theorem rf_T8 : List.all [(266, rf_m_4_10), (263, rf_m_4_7), (268, rf_m_4_12), (520, rf_m_8_8), (451, rf_m_7_3)] (rf_chk (start1.aboutOf rf_sc)) = true := by decide +kernel
set_option maxRecDepth 100000 in
theorem rf_T9 : List.all [(582, rf_m_9_6), (259, rf_m_4_3), (579, rf_m_9_3), (457, rf_m_7_9), (218, rf_m_3_26), (960, rf_m_15_0), (216, rf_m_3_24)] (rf_chk (start1.aboutOf rf_sc)) = true := by decide +kernel
set_option maxRecDepth 100000 in
theorem rf_T10 : List.all [(611, rf_m_9_35), (258, rf_m_4_2), (578, rf_m_9_2), (134, rf_m_2_6), (223, rf_m_3_31), (607, rf_m_9_31), (217, rf_m_3_25), (580, rf_m_9_4), (64, rf_m_1_0), (592, rf_m_9_16)] (rf_chk (start1.aboutOf rf_sc)) = true := by decide +kernel
set_option maxRecDepth 100000 in
theorem rf_T11 : List.all [(594, rf_m_9_18), (1282, rf_m_20_2), (1281, rf_m_20_1), (605, rf_m_9_29), (454, rf_m_7_6), (455, rf_m_7_7)] (rf_chk (start1.aboutOf rf_sc)) = true := by decide +kernel
set_option maxRecDepth 100000 in
theorem rf_T12 : List.all [(456, rf_m_7_8), (576, rf_m_9_0), (533, rf_m_8_21), (584, rf_m_9_8), (222, rf_m_3_30), (523, rf_m_8_11)] (rf_chk (start1.aboutOf rf_sc)) = true := by decide +kernel
set_option maxRecDepth 100000 in
theorem rf_T13 : List.all [(515, rf_m_8_3), (521, rf_m_8_9), (197, rf_m_3_5), (590, rf_m_9_14), (534, rf_m_8_22)] (rf_chk (start1.aboutOf rf_sc)) = true := by decide +kernel
set_option maxRecDepth 100000 in
theorem rf_T14 : List.all [(589, rf_m_9_13), (513, rf_m_8_1), (531, rf_m_8_19), (600, rf_m_9_24)] (rf_chk (start1.aboutOf rf_sc)) = true := by decide +kernel
set_option maxRecDepth 100000 in
theorem rf_T15 : List.all [(205, rf_m_3_13), (597, rf_m_9_21), (532, rf_m_8_20), (260, rf_m_4_4), (448, rf_m_7_0), (262, rf_m_4_6), (522, rf_m_8_10)] (rf_chk (start1.aboutOf rf_sc)) = true := by decide +kernel
set_option maxRecDepth 100000 in
theorem rf_T16 : List.all [(527, rf_m_8_15), (328, rf_m_5_8), (640, rf_m_10_0), (587, rf_m_9_11), (453, rf_m_7_5)] (rf_chk (start1.aboutOf rf_sc)) = true := by decide +kernel
set_option maxRecDepth 100000 in
theorem rf_T17 : List.all [(196, rf_m_3_4), (204, rf_m_3_12), (512, rf_m_8_0), (199, rf_m_3_7), (326, rf_m_5_6)] (rf_chk (start1.aboutOf rf_sc)) = true := by decide +kernel
set_option maxRecDepth 100000 in
theorem rf_T18 : List.all [(192, rf_m_3_0), (206, rf_m_3_14), (526, rf_m_8_14), (528, rf_m_8_16), (128, rf_m_2_0), (130, rf_m_2_2)] (rf_chk (start1.aboutOf rf_sc)) = true := by decide +kernel
set_option maxRecDepth 100000 in
theorem rf_T19 : List.all [(208, rf_m_3_16), (588, rf_m_9_12), (201, rf_m_3_9), (626, rf_m_9_50), (256, rf_m_4_0), (518, rf_m_8_6), (581, rf_m_9_5)] (rf_chk (start1.aboutOf rf_sc)) = true := by decide +kernel
set_option maxRecDepth 100000 in
theorem rf_T20 : List.all [(200, rf_m_3_8), (198, rf_m_3_6), (220, rf_m_3_28), (595, rf_m_9_19), (221, rf_m_3_29), (629, rf_m_9_53), (524, rf_m_8_12), (261, rf_m_4_5), (961, rf_m_15_1), (452, rf_m_7_4), (207, rf_m_3_15)] (rf_chk (start1.aboutOf rf_sc)) = true := by decide +kernel
set_option maxRecDepth 100000 in
theorem rf_T21 : List.all [(585, rf_m_9_9), (2, rf_m_0_2), (530, rf_m_8_18), (1, rf_m_0_1), (133, rf_m_2_5), (514, rf_m_8_2), (327, rf_m_5_7), (586, rf_m_9_10), (616, rf_m_9_40), (321, rf_m_5_1), (601, rf_m_9_25), (450, rf_m_7_2), (137, rf_m_2_9), (449, rf_m_7_1), (322, rf_m_5_2), (195, rf_m_3_3)] (rf_chk (start1.aboutOf rf_sc)) = true := by decide +kernel
theorem rf_T : ∀ x ∈ rf_M, rf_chk (start1.aboutOf rf_sc) x = true := by
  intro x hx
  have h : x ∈ [(1285, rf_m_20_5), (1284, rf_m_20_4), (1216, rf_m_19_0), (704, rf_m_11_0)] ++ ([(577, rf_m_9_1), (706, rf_m_11_2), (768, rf_m_12_0), (705, rf_m_11_1), (707, rf_m_11_3), (832, rf_m_13_0), (384, rf_m_6_0)] ++ ([(139, rf_m_2_11), (708, rf_m_11_4)] ++ ([(583, rf_m_9_7)] ++ ([(267, rf_m_4_11), (320, rf_m_5_0), (591, rf_m_9_15), (129, rf_m_2_1)] ++ ([(257, rf_m_4_1), (265, rf_m_4_9), (264, rf_m_4_8)] ++ ([(612, rf_m_9_36), (140, rf_m_2_12), (269, rf_m_4_13)] ++ ([(0, rf_m_0_0)] ++ ([(266, rf_m_4_10), (263, rf_m_4_7), (268, rf_m_4_12), (520, rf_m_8_8), (451, rf_m_7_3)] ++ ([(582, rf_m_9_6), (259, rf_m_4_3), (579, rf_m_9_3), (457, rf_m_7_9), (218, rf_m_3_26), (960, rf_m_15_0), (216, rf_m_3_24)] ++ ([(611, rf_m_9_35), (258, rf_m_4_2), (578, rf_m_9_2), (134, rf_m_2_6), (223, rf_m_3_31), (607, rf_m_9_31), (217, rf_m_3_25), (580, rf_m_9_4), (64, rf_m_1_0), (592, rf_m_9_16)] ++ ([(594, rf_m_9_18), (1282, rf_m_20_2), (1281, rf_m_20_1), (605, rf_m_9_29), (454, rf_m_7_6), (455, rf_m_7_7)] ++ ([(456, rf_m_7_8), (576, rf_m_9_0), (533, rf_m_8_21), (584, rf_m_9_8), (222, rf_m_3_30), (523, rf_m_8_11)] ++ ([(515, rf_m_8_3), (521, rf_m_8_9), (197, rf_m_3_5), (590, rf_m_9_14), (534, rf_m_8_22)] ++ ([(589, rf_m_9_13), (513, rf_m_8_1), (531, rf_m_8_19), (600, rf_m_9_24)] ++ ([(205, rf_m_3_13), (597, rf_m_9_21), (532, rf_m_8_20), (260, rf_m_4_4), (448, rf_m_7_0), (262, rf_m_4_6), (522, rf_m_8_10)] ++ ([(527, rf_m_8_15), (328, rf_m_5_8), (640, rf_m_10_0), (587, rf_m_9_11), (453, rf_m_7_5)] ++ ([(196, rf_m_3_4), (204, rf_m_3_12), (512, rf_m_8_0), (199, rf_m_3_7), (326, rf_m_5_6)] ++ ([(192, rf_m_3_0), (206, rf_m_3_14), (526, rf_m_8_14), (528, rf_m_8_16), (128, rf_m_2_0), (130, rf_m_2_2)] ++ ([(208, rf_m_3_16), (588, rf_m_9_12), (201, rf_m_3_9), (626, rf_m_9_50), (256, rf_m_4_0), (518, rf_m_8_6), (581, rf_m_9_5)] ++ ([(200, rf_m_3_8), (198, rf_m_3_6), (220, rf_m_3_28), (595, rf_m_9_19), (221, rf_m_3_29), (629, rf_m_9_53), (524, rf_m_8_12), (261, rf_m_4_5), (961, rf_m_15_1), (452, rf_m_7_4), (207, rf_m_3_15)] ++ ([(585, rf_m_9_9), (2, rf_m_0_2), (530, rf_m_8_18), (1, rf_m_0_1), (133, rf_m_2_5), (514, rf_m_8_2), (327, rf_m_5_7), (586, rf_m_9_10), (616, rf_m_9_40), (321, rf_m_5_1), (601, rf_m_9_25), (450, rf_m_7_2), (137, rf_m_2_9), (449, rf_m_7_1), (322, rf_m_5_2), (195, rf_m_3_3)]))))))))))))))))))))) := hx
  rcases List.mem_append.mp h with h | h
  · exact List.all_eq_true.mp rf_T0 x h
  rcases List.mem_append.mp h with h | h
  · exact List.all_eq_true.mp rf_T1 x h
  rcases List.mem_append.mp h with h | h
  · exact List.all_eq_true.mp rf_T2 x h
  rcases List.mem_append.mp h with h | h
  · exact List.all_eq_true.mp rf_T3 x h
  rcases List.mem_append.mp h with h | h
  · exact List.all_eq_true.mp rf_T4 x h
  rcases List.mem_append.mp h with h | h
  · exact List.all_eq_true.mp rf_T5 x h
  rcases List.mem_append.mp h with h | h
  · exact List.all_eq_true.mp rf_T6 x h
  rcases List.mem_append.mp h with h | h
  · exact List.all_eq_true.mp rf_T7 x h
  rcases List.mem_append.mp h with h | h
  · exact List.all_eq_true.mp rf_T8 x h
  rcases List.mem_append.mp h with h | h
  · exact List.all_eq_true.mp rf_T9 x h
  rcases List.mem_append.mp h with h | h
  · exact List.all_eq_true.mp rf_T10 x h
  rcases List.mem_append.mp h with h | h
  · exact List.all_eq_true.mp rf_T11 x h
  rcases List.mem_append.mp h with h | h
  · exact List.all_eq_true.mp rf_T12 x h
  rcases List.mem_append.mp h with h | h
  · exact List.all_eq_true.mp rf_T13 x h
  rcases List.mem_append.mp h with h | h
  · exact List.all_eq_true.mp rf_T14 x h
  rcases List.mem_append.mp h with h | h
  · exact List.all_eq_true.mp rf_T15 x h
  rcases List.mem_append.mp h with h | h
  · exact List.all_eq_true.mp rf_T16 x h
  rcases List.mem_append.mp h with h | h
  · exact List.all_eq_true.mp rf_T17 x h
  rcases List.mem_append.mp h with h | h
  · exact List.all_eq_true.mp rf_T18 x h
  rcases List.mem_append.mp h with h | h
  · exact List.all_eq_true.mp rf_T19 x h
  rcases List.mem_append.mp h with h | h
  · exact List.all_eq_true.mp rf_T20 x h
  exact List.all_eq_true.mp rf_T21 x h
theorem rf_I0 : rf_Inv (start1.aboutOf rf_sc) := fun x hx => rf_chk_of (rf_T x hx)
end
section
/-! the frequent instructions by hand: what they do to the heap, the locals and the stack of the top frame; what isn't met goes the long way ('sl') -/
abbrev RfK := List Cell → Nat → Nat → List Slot → List Value → Bool
abbrev RfF := List Cell → Vm → Nat → Nat → Nat → Nat → List Slot → List Value → RfK → (Unit → Bool) → Bool
noncomputable def rf_at {α : Type} (n : Nat) : List α → Option α :=
  Nat.rec (motive := fun _ => List α → Option α) (fun l => match l with
    | [] => none
    | x :: _ => some x) (fun _ ih l => match l with
    | [] => none
    | _ :: r => ih r) n
noncomputable def rf_set {α : Type} (n : Nat) : α → List α → (List α → Bool) → Bool :=
  Nat.rec (motive := fun _ => α → List α → (List α → Bool) → Bool) (fun y l k => match l with
    | [] => k []
    | _ :: r => k (y :: r)) (fun _ ih y l k => match l with
    | [] => k []
    | x :: r => ih y r fun r' => k (x :: r')) n
noncomputable def rf_iload (n : Nat) : RfF := fun h _ u _ pc len lo st K sl => match rf_at n lo with
  | some (.val (.int v)) => rf_n (pc + len) fun q => K h u q lo (.int v :: st)
  | _ => sl ()
noncomputable def rf_aload (n : Nat) : RfF := fun h _ u _ pc len lo st K sl => match rf_at n lo with
  | some (.val (.ref a)) => rf_n (pc + len) fun q => K h u q lo (.ref a :: st)
  | some (.val .null) => rf_n (pc + len) fun q => K h u q lo (.null :: st)
  | _ => sl ()
noncomputable def rf_istore (n : Nat) : RfF := fun h _ u _ pc len lo st K sl => match st with
  | .int x :: t => match rf_at n lo with
    | some (.val (.int _)) => rf_set n (.val (.int x)) lo fun lo' => rf_n (pc + len) fun q => K h u q lo' t
    | some .unset => rf_set n (.val (.int x)) lo fun lo' => rf_n (pc + len) fun q => K h u q lo' t
    | _ => sl ()
  | _ => sl ()
noncomputable def rf_iinc (n : Nat) (d : Int) : RfF := fun h _ u _ pc len lo st K sl => match rf_at n lo with
  | some (.val (.int x)) => rf_i (x + Int32.ofInt d) fun y => rf_set n (.val (.int y)) lo fun lo' => rf_n (pc + len) fun q => K h u q lo' st
  | _ => sl ()
noncomputable def rf_const (v : Int32) : RfF := fun h _ u _ pc len lo st K _ => rf_i v fun v' => rf_n (pc + len) fun q => K h u q lo (.int v' :: st)
noncomputable def rf_bin (g : Int32 → Int32 → Int32) : RfF := fun h _ u _ pc len lo st K sl => match st with
  | .int y :: .int x :: t => rf_i (g x y) fun v => rf_n (pc + len) fun q => K h u q lo (.int v :: t)
  | _ => sl ()
noncomputable def rf_dup : RfF := fun h _ u _ pc len lo st K sl => match st with
  | .ref a :: t => rf_n (pc + len) fun q => K h u q lo (.ref a :: .ref a :: t)
  | .int a :: t => rf_n (pc + len) fun q => K h u q lo (.int a :: .int a :: t)
  | _ => sl ()
noncomputable def rf_jump (pc : Nat) (o : Int) (k : Nat → Bool) (sl : Unit → Bool) : Bool := match (pc : Int) + o with
  | .ofNat q => rf_n q k
  | _ => sl ()
noncomputable def rf_goto (o : Int) : RfF := fun h _ u _ pc _ lo st K sl => rf_jump pc o (fun q => K h u q lo st) sl
noncomputable def rf_if (c : ClassFile.Cond) (o : Int) : RfF := fun h _ u _ pc len lo st K sl => match st with
  | .int x :: t => match Op.ifCond.holds c x with
    | true => rf_jump pc o (fun q => K h u q lo t) sl
    | false => rf_n (pc + len) fun q => K h u q lo t
  | _ => sl ()
noncomputable def rf_icmp (c : ClassFile.Cond) (o : Int) : RfF := fun h _ u _ pc len lo st K sl => match st with
  | .int y :: .int x :: t => match Op.if_icmp.holds c x y with
    | true => rf_jump pc o (fun q => K h u q lo t) sl
    | false => rf_n (pc + len) fun q => K h u q lo t
  | _ => sl ()
/-- the slot of the instance field that an entry is resolved to, and whether it may be written as an int without more ado -/
def rf_fld (ve : Vm) (c ix : Nat) : Option (Nat × Bool) := match ve.classes[c]? with
  | some k => match k.resolved[ix]? with
    | some (some (.field c' j)) => match ve.classes[c']? with
      | some kc => match kc.fields[j]? with
        | some f => if f.isStatic then none else some (f.slot, !hasFlag f.accessFlags Acc.final && decide (f.type = .int))
        | none => none
      | none => none
    | _ => none
  | none => none
noncomputable def rf_getf (ix : Nat) : RfF := fun h ve u c pc len lo st K sl => match st with
  | .ref a :: t => match rf_fld ve c ix with
    | some (j, _) => match rf_at a h with
      | some ⟨_, ⟨sls⟩, _, _, .none⟩ => match rf_at j sls with
        | some v => rf_v v fun v' => rf_n (pc + len) fun q => K h u q lo (v' :: t)
        | none => sl ()
      | _ => sl ()
    | none => sl ()
  | _ => sl ()
/-- slot j of an object of class cl is an int -/
def rf_isI (ve : Vm) (cl j : Nat) : Bool := match ve.classes[cl]? with
  | some k => match k.kind with
    | .array _ _ => false
    | _ => match k.instanceTypes[j]? with
      | some .int => true
      | _ => false
  | none => false
noncomputable def rf_putf (ix : Nat) : RfF := fun h ve u c pc len lo st K sl => match st with
  | .int x :: .ref a :: t => match rf_fld ve c ix with
    | some (j, true) => match rf_at a h with
      | some ⟨cl, ⟨sls⟩, mo, ha, .none⟩ => match rf_isI ve cl j with
        | true => match rf_at j sls with
          | some _ => rf_set j (.int x) sls fun sls' => rf_set a ⟨cl, ⟨sls'⟩, mo, ha, .none⟩ h fun h' => rf_n (pc + len) fun q => K h' u q lo t
          | none => sl ()
        | false => sl ()
      | _ => sl ()
    | _ => sl ()
  | _ => sl ()
/-- class cl is that of arrays of ints -/
def rf_isA (ve : Vm) (cl : Nat) : Bool := match ve.classes[cl]? with
  | some k => match k.kind with
    | .array _ .int => true
    | _ => false
  | none => false
noncomputable def rf_ias : RfF := fun h ve u _ pc len lo st K sl => match st with
  | .int x :: .int i :: .ref a :: t => match rf_at a h with
    | some ⟨cl, ⟨sls⟩, mo, ha, .none⟩ => match rf_isA ve cl with
      | true => match Int32.decLt i 0 with
        | .isFalse _ => rf_n i.toNatClampNeg fun j => match rf_at j sls with
          | some _ => rf_set j (.int x) sls fun sls' => rf_set a ⟨cl, ⟨sls'⟩, mo, ha, .none⟩ h fun h' => rf_n (pc + len) fun q => K h' u q lo t
          | none => sl ()
        | .isTrue _ => sl ()
      | false => sl ()
    | _ => sl ()
  | _ => sl ()
noncomputable def rf_ial : RfF := fun h ve u _ pc len lo st K sl => match st with
  | .int i :: .ref a :: t => match rf_at a h with
    | some ⟨cl, ⟨sls⟩, _, _, .none⟩ => match rf_isA ve cl with
      | true => match Int32.decLt i 0 with
        | .isFalse _ => rf_n i.toNatClampNeg fun j => match rf_at j sls with
          | some v => rf_v v fun v' => rf_n (pc + len) fun q => K h u q lo (v' :: t)
          | none => sl ()
        | .isTrue _ => sl ()
      | false => sl ()
    | _ => sl ()
  | _ => sl ()
noncomputable def rf_op (ins : Instr) : Option RfF := match ins with
  | .iload n => some (rf_iload n)
  | .iload_n n => some (rf_iload n.val)
  | .aload n => some (rf_aload n)
  | .aload_n n => some (rf_aload n.val)
  | .istore n => some (rf_istore n)
  | .istore_n n => some (rf_istore n.val)
  | .iinc n d => some (rf_iinc n d)
  | .iconst k => some (rf_const (Int32.ofInt k))
  | .bipush k => some (rf_const (Int8.ofInt k).toInt32)
  | .sipush k => some (rf_const (Int16.ofInt k).toInt32)
  | .iadd => some (rf_bin fun x y => x + y)
  | .isub => some (rf_bin fun x y => x - y)
  | .imul => some (rf_bin fun x y => x * y)
  | .iand => some (rf_bin fun x y => x &&& y)
  | .ior => some (rf_bin fun x y => x ||| y)
  | .ishl => some (rf_bin fun x y => x <<< (y &&& 31))
  | .ishr => some (rf_bin fun x y => x >>> (y &&& 31))
  | .dup => some rf_dup
  | .goto o => some (rf_goto o)
  | .ifCond c o => some (rf_if c o)
  | .if_icmp c o => some (rf_icmp c o)
  | .getfield ix => some (rf_getf ix)
  | .putfield ix => some (rf_putf ix)
  | .iastore => some rf_ias
  | .iaload => some rf_ial
  | _ => none
/-- which of the others change the heap -/
def rf_dp (ins : Instr) : Nat := match ins with
  | .new _ => 2
  | .newarray _ => 2
  | .anewarray _ => 2
  | .putfield _ => 2
  | .aastore => 2
  | .castore => 2
  | .lastore => 2
  | .iastore => 2
  | _ => 1
end
section
/-! the frequent instructions do what the machine does -/
theorem rf_at_eq {α : Type} : ∀ (n : Nat) (l : List α), rf_at n l = l[n]? := by
  intro n
  induction n with
  | zero => intro l; cases l <;> rfl
  | succ n ih =>
    intro l
    cases l with
    | nil => rfl
    | cons x r => rw [List.getElem?_cons_succ]; exact ih r
theorem rf_set_eq {α : Type} : ∀ (n : Nat) (y : α) (l : List α) (k : List α → Bool), rf_set n y l k = k (l.set n y) := by
  intro n
  induction n with
  | zero => intro y l k; cases l <;> rfl
  | succ n ih =>
    intro y l k
    cases l with
    | nil => rfl
    | cons x r => exact ih y r fun r' => k (x :: r')
theorem rf_arr {α : Type} (l : List α) (n : Nat) : (Array.mk l)[n]? = l[n]? := List.getElem?_toArray
theorem rf_sib {α : Type} (l : List α) (n : Nat) (y : α) : (Array.mk l).setIfInBounds n y = Array.mk (l.set n y) := List.setIfInBounds_toArray ..
def rf_mk (h : List Cell) (ve : Vm) (w : World) (dr : Drawn) (u c i pc : Nat) (lo : List Slot) (st : List Value) (r : List Frame) : State :=
  ⟨⟨h⟩, ve, ⟨[⟨.java ⟨⟨c, i⟩, pc, ⟨lo⟩, st, none, [], 0⟩ :: r, .runnable, none, false, false, .other, none, .null, 0⟩]⟩, 0, w, dr, 0, u, .running⟩
abbrev rf_F (c i pc : Nat) (lo : List Slot) (st : List Value) : JFrame := ⟨⟨c, i⟩, pc, ⟨lo⟩, st, none, [], 0⟩
theorem rf_wok {t : Sem Unit} {e : Env} {s X : State} (h : wp t (fun _ _ _ s' => s' = X) (fun _ _ _ => False) e false [] s) : ∃ acts, t.run e s = .ok () X acts := by
  have h' := (Sem.wp_iff_go t (fun _ s' _ => s' = X) (fun _ _ _ => False) e false [] s).mp h
  unfold Sem.run
  split at h'
  · rename_i a s' as hg
    exact ⟨as, by rw [hg, h']⟩
  · cases h'
  · cases h'
theorem rf_wbr {t : Sem Unit} {e : Env} {s X : State} {o : Int} (h : wp t (fun _ _ _ _ => False) (fun q _ s' => q = .branch o ∧ s' = X) e false [] s) : ∃ acts, t.run e s = .ctl (.branch o) X acts := by
  have h' := (Sem.wp_iff_go t (fun _ _ _ => False) (fun q s' _ => q = .branch o ∧ s' = X) e false [] s).mp h
  unfold Sem.run
  split at h'
  · cases h'
  · cases h'
  · rename_i q s' as hn hg
    obtain ⟨rfl, rfl⟩ := h'
    exact ⟨as, hg⟩
theorem rf_fin {t : Sem Unit} {e : Env} {h h' : List Cell} {ve : Vm} {w : World} {dr : Drawn} {u u' c i pc len : Nat} {lo lo' : List Slot} {st st' : List Value} {r : List Frame}
    (hw : wp t (fun _ _ _ s' => s' = rf_mk h' ve w dr u' c i pc lo' st' r) (fun _ _ _ => False) e false [] (rf_mk h ve w dr u c i pc lo st r)) :
    (afterInstr e len (t.run e (rf_mk h ve w dr u c i pc lo st r))).1 = rf_mk h' ve w dr u' c i (pc + len) lo' st' r := by
  obtain ⟨acts, ha⟩ := rf_wok hw
  rw [ha]
  rfl
theorem rf_finb {t : Sem Unit} {e : Env} {h : List Cell} {ve : Vm} {w : World} {dr : Drawn} {u c i pc len q : Nat} {lo : List Slot} {st st' : List Value} {r : List Frame} {o : Int}
    (hw : wp t (fun _ _ _ _ => False) (fun q _ s' => q = .branch o ∧ s' = rf_mk h ve w dr u c i pc lo st' r) e false [] (rf_mk h ve w dr u c i pc lo st r)) (ho : (pc : Int) + o = .ofNat q) :
    (afterInstr e len (t.run e (rf_mk h ve w dr u c i pc lo st r))).1 = rf_mk h ve w dr u c i q lo st' r := by
  obtain ⟨acts, ha⟩ := rf_wbr hw
  rw [ha]
  have h1 : afterInstr e len (.ctl (.branch o) (rf_mk h ve w dr u c i pc lo st' r) acts) = if (pc : Int) + o < 0 then ((rf_mk h ve w dr u c i pc lo st' r).halt (.illTyped "a branch to a negative address"), acts) else (rf_mk h ve w dr u c i ((pc : Int) + o).toNat lo st' r, acts) := rfl
  rw [h1, if_neg (by rw [ho]; exact Int.not_lt.mpr (Int.natCast_nonneg q)), ho]
  rfl
def rf_Sd (ins : Instr) (f : RfF) : Prop := ∀ (h : List Cell) (ve : Vm) (w : World) (dr : Drawn) (u c i pc len : Nat) (lo : List Slot) (st : List Value) (r : List Frame) (K : RfK) (sl : Unit → Bool),
  f h ve u c pc len lo st K sl = true → sl () = true ∨ ∃ h' u' pc' lo' st', K h' u' pc' lo' st' = true ∧
    (afterInstr start1.e0 len ((start1.p0.tables.exec ins).run start1.e0 (rf_mk h ve w dr u c i pc lo st r))).1 = rf_mk h' ve w dr u' c i pc' lo' st' r
theorem rf_iload_ok {ins : Instr} {n : Nat} (hx : ∀ {Q : Unit → Pre} {E : CtlPost} {e : Env} {d : Bool} {acts : List Action} {s : State}, wp (start1.p0.tables.exec ins) Q E e d acts s ↔
    ∃ f, s.topJava? = some f ∧ ∃ v, f.locals[n]? = some (.val (.int v)) ∧ Q () true acts (s.setTop { f with stack := .int v :: f.stack })) : rf_Sd ins (rf_iload n) := by
  intro h ve w dr u c i pc len lo st r K sl hk
  unfold rf_iload at hk
  split at hk
  · rename_i v hv
    rw [rf_n_eq] at hk
    rw [rf_at_eq, ← rf_arr] at hv
    exact .inr ⟨_, _, _, _, _, hk, rf_fin (hx.mpr ⟨rf_F c i pc lo st, rfl, v, hv, rfl⟩)⟩
  · exact .inl hk
theorem rf_aload_ok {ins : Instr} {n : Nat} (hx : ∀ {Q : Unit → Pre} {E : CtlPost} {e : Env} {d : Bool} {acts : List Action} {s : State}, wp (start1.p0.tables.exec ins) Q E e d acts s ↔
    ∃ f, s.topJava? = some f ∧ ∃ x, f.locals[n]? = some (.val x) ∧ x.isRef = true ∧ Q () true acts (s.setTop { f with stack := x :: f.stack })) : rf_Sd ins (rf_aload n) := by
  intro h ve w dr u c i pc len lo st r K sl hk
  unfold rf_aload at hk
  split at hk
  · rename_i v hv
    rw [rf_n_eq] at hk
    rw [rf_at_eq, ← rf_arr] at hv
    exact .inr ⟨_, _, _, _, _, hk, rf_fin (hx.mpr ⟨rf_F c i pc lo st, rfl, _, hv, rfl, rfl⟩)⟩
  · rename_i hv
    rw [rf_n_eq] at hk
    rw [rf_at_eq, ← rf_arr] at hv
    exact .inr ⟨_, _, _, _, _, hk, rf_fin (hx.mpr ⟨rf_F c i pc lo st, rfl, _, hv, rfl, rfl⟩)⟩
  · exact .inl hk
theorem rf_stl {lo : List Slot} {n : Nat} {x : Int32} {y : Slot} (h : lo[n]? = some y) (hy : y = .unset ∨ ∃ v, y = .val (.int v)) : storeLocals ⟨lo⟩ n (.int x) = some ⟨lo.set n (.val (.int x))⟩ := by
  have hlt : n < lo.length := (List.getElem?_eq_some_iff.mp h).1
  have hs : storeSelf ⟨lo⟩ n (.int x) = some ⟨lo.set n (.val (.int x))⟩ := by
    unfold storeSelf setAt
    have hz : n < (Array.mk lo).size := hlt
    rw [if_pos hz, rf_sib]
    rfl
  unfold storeLocals
  rw [rf_arr, h]
  rcases hy with rfl | ⟨v, rfl⟩
  · exact hs
  · have hc : ¬ (Value.int v).category = 2 := by intro q; cases q
    simp only [Option.bind_eq_bind, Option.bind_some, hc, if_false]
    exact hs
theorem rf_istore_ok {ins : Instr} {n : Nat} (hx : ∀ {Q : Unit → Pre} {E : CtlPost} {e : Env} {d : Bool} {acts : List Action} {s : State}, wp (start1.p0.tables.exec ins) Q E e d acts s ↔
    ∃ f, s.topJava? = some f ∧ ∃ x rest, f.stack = .int x :: rest ∧ ∃ l', storeLocals f.locals n (.int x) = some l' ∧ Q () true acts (s.setTop { f with stack := rest, locals := l' })) : rf_Sd ins (rf_istore n) := by
  intro h ve w dr u c i pc len lo st r K sl hk
  unfold rf_istore at hk
  split at hk
  · rename_i x t
    split at hk
    · rename_i v hv
      rw [rf_set_eq, rf_n_eq] at hk
      rw [rf_at_eq] at hv
      exact .inr ⟨_, _, _, _, _, hk, rf_fin (hx.mpr ⟨rf_F c i pc lo (.int x :: t), rfl, x, t, rfl, _, rf_stl hv (.inr ⟨_, rfl⟩), rfl⟩)⟩
    · rename_i hv
      rw [rf_set_eq, rf_n_eq] at hk
      rw [rf_at_eq] at hv
      exact .inr ⟨_, _, _, _, _, hk, rf_fin (hx.mpr ⟨rf_F c i pc lo (.int x :: t), rfl, x, t, rfl, _, rf_stl hv (.inl rfl), rfl⟩)⟩
    · exact .inl hk
  · exact .inl hk
theorem rf_iinc_ok (n : Nat) (d : Int) : rf_Sd (.iinc n d) (rf_iinc n d) := by
  intro h ve w dr u c i pc len lo st r K sl hk
  unfold rf_iinc at hk
  split at hk
  · rename_i x hv
    rw [rf_i_eq, rf_set_eq, rf_n_eq] at hk
    rw [rf_at_eq] at hv
    exact .inr ⟨_, _, _, _, _, hk, rf_fin ((Op.iinc.wp_sem n d).mpr ⟨rf_F c i pc lo st, rfl, x, (rf_arr lo n).trans hv, _, rf_stl hv (.inr ⟨_, rfl⟩), rfl⟩)⟩
  · exact .inl hk
theorem rf_const_ok {ins : Instr} {v : Int32} (hx : ∀ {Q : Unit → Pre} {E : CtlPost} {e : Env} {d : Bool} {acts : List Action} {s : State}, wp (start1.p0.tables.exec ins) Q E e d acts s ↔
    ∃ f, s.topJava? = some f ∧ Q () true acts (s.setTop { f with stack := .int v :: f.stack })) : rf_Sd ins (rf_const v) := by
  intro h ve w dr u c i pc len lo st r K sl hk
  unfold rf_const at hk
  rw [rf_i_eq, rf_n_eq] at hk
  exact .inr ⟨_, _, _, _, _, hk, rf_fin (hx.mpr ⟨rf_F c i pc lo st, rfl, rfl⟩)⟩
theorem rf_bin_ok {ins : Instr} {g : Int32 → Int32 → Int32} (hx : ∀ {Q : Unit → Pre} {E : CtlPost} {e : Env} {d : Bool} {acts : List Action} {s : State}, wp (start1.p0.tables.exec ins) Q E e d acts s ↔
    ∃ f, s.topJava? = some f ∧ ∃ y x rest, f.stack = .int y :: .int x :: rest ∧ Q () true acts (s.setTop { f with stack := .int (g x y) :: rest })) : rf_Sd ins (rf_bin g) := by
  intro h ve w dr u c i pc len lo st r K sl hk
  unfold rf_bin at hk
  split at hk
  · rename_i y x t
    rw [rf_i_eq, rf_n_eq] at hk
    exact .inr ⟨_, _, _, _, _, hk, rf_fin (hx.mpr ⟨rf_F c i pc lo (.int y :: .int x :: t), rfl, y, x, t, rfl, rfl⟩)⟩
  · exact .inl hk
theorem rf_dup_ok : rf_Sd .dup rf_dup := by
  intro h ve w dr u c i pc len lo st r K sl hk
  unfold rf_dup at hk
  split at hk
  · rename_i a t
    rw [rf_n_eq] at hk
    exact .inr ⟨_, _, _, _, _, hk, rf_fin (Op.dup.wp_sem.mpr ⟨rf_F c i pc lo (.ref a :: t), rfl, _, t, rfl, rfl, rfl⟩)⟩
  · rename_i a t
    rw [rf_n_eq] at hk
    exact .inr ⟨_, _, _, _, _, hk, rf_fin (Op.dup.wp_sem.mpr ⟨rf_F c i pc lo (.int a :: t), rfl, _, t, rfl, rfl, rfl⟩)⟩
  · exact .inl hk
theorem rf_jump_of {pc : Nat} {o : Int} {k : Nat → Bool} {sl : Unit → Bool} (h : rf_jump pc o k sl = true) : sl () = true ∨ ∃ q, (pc : Int) + o = .ofNat q ∧ k q = true := by
  unfold rf_jump at h
  split at h
  · rename_i q hq
    rw [rf_n_eq] at h
    exact .inr ⟨q, hq, h⟩
  · exact .inl h
theorem rf_goto_ok (o : Int) : rf_Sd (.goto o) (rf_goto o) := by
  intro h ve w dr u c i pc len lo st r K sl hk
  unfold rf_goto at hk
  rcases rf_jump_of hk with hk | ⟨q, hq, hk⟩
  · exact .inl hk
  · exact .inr ⟨_, _, _, _, _, hk, rf_finb ((Op.goto.wp_sem o).mpr ⟨rfl, rfl⟩) hq⟩
theorem rf_if_ok (cn : ClassFile.Cond) (o : Int) : rf_Sd (.ifCond cn o) (rf_if cn o) := by
  intro h ve w dr u c i pc len lo st r K sl hk
  unfold rf_if at hk
  split at hk
  · rename_i x t
    split at hk
    · rename_i hc
      rcases rf_jump_of hk with hk | ⟨q, hq, hk⟩
      · exact .inl hk
      · refine .inr ⟨_, _, _, _, _, hk, rf_finb ((Op.ifCond.wp_sem cn o).mpr ⟨rf_F c i pc lo (.int x :: t), rfl, x, t, rfl, ?_⟩) hq⟩
        rw [if_pos hc]
        exact ⟨rfl, rfl⟩
    · rename_i hc
      rw [rf_n_eq] at hk
      refine .inr ⟨_, _, _, _, _, hk, rf_fin ((Op.ifCond.wp_sem cn o).mpr ⟨rf_F c i pc lo (.int x :: t), rfl, x, t, rfl, ?_⟩)⟩
      rw [if_neg (by rw [hc]; exact Bool.false_ne_true)]
      rfl
  · exact .inl hk
theorem rf_icmp_ok (cn : ClassFile.Cond) (o : Int) : rf_Sd (.if_icmp cn o) (rf_icmp cn o) := by
  intro h ve w dr u c i pc len lo st r K sl hk
  unfold rf_icmp at hk
  split at hk
  · rename_i y x t
    split at hk
    · rename_i hc
      rcases rf_jump_of hk with hk | ⟨q, hq, hk⟩
      · exact .inl hk
      · refine .inr ⟨_, _, _, _, _, hk, rf_finb ((Op.if_icmp.wp_sem cn o).mpr ⟨rf_F c i pc lo (.int y :: .int x :: t), rfl, y, x, t, rfl, ?_⟩) hq⟩
        rw [if_pos hc]
        exact ⟨rfl, rfl⟩
    · rename_i hc
      rw [rf_n_eq] at hk
      refine .inr ⟨_, _, _, _, _, hk, rf_fin ((Op.if_icmp.wp_sem cn o).mpr ⟨rf_F c i pc lo (.int y :: .int x :: t), rfl, y, x, t, rfl, ?_⟩)⟩
      rw [if_neg (by rw [hc]; exact Bool.false_ne_true)]
      rfl
  · exact .inl hk
theorem rf_fld_of {ve : Vm} {c ix j : Nat} {b : Bool} (h : rf_fld ve c ix = some (j, b)) : ∃ c' f, ve.fieldReady c ix c' f ∧ f.isStatic = false ∧ f.slot = j ∧ (b = true → hasFlag f.accessFlags Acc.final = false ∧ f.type = .int) := by
  unfold rf_fld at h
  split at h
  · rename_i k hk
    split at h
    · rename_i c' n hr
      split at h
      · rename_i kc hkc
        split at h
        · rename_i f hf
          split at h
          · cases h
          · rename_i hs
            simp only [Option.some.injEq, Prod.mk.injEq] at h
            obtain ⟨h1, h2⟩ := h
            refine ⟨c', f, ⟨k, n, kc, hk, hr, hkc, hf⟩, by simpa using hs, h1, fun hb => ?_⟩
            subst hb
            simpa using h2
        · cases h
      · cases h
    · cases h
  · cases h
theorem rf_getf_ok (ix : Nat) : rf_Sd (.getfield ix) (rf_getf ix) := by
  intro h ve w dr u c i pc len lo st r K sl hk
  unfold rf_getf at hk
  split at hk
  · rename_i a t
    split at hk
    · rename_i j b hf
      split at hk
      · rename_i cl sls mo ha hc
        split at hk
        · rename_i v hv
          rw [rf_v_eq, rf_n_eq] at hk
          obtain ⟨c', f, hr, hs, hj, -⟩ := rf_fld_of hf
          subst hj
          rw [rf_at_eq, ← rf_arr] at hc hv
          exact .inr ⟨_, _, _, _, _, hk, rf_fin ((Op.getfield.wp_ready (s := rf_mk h ve w dr u c i pc lo (.ref a :: t) r) (f := rf_F c i pc lo (.ref a :: t)) rfl hr hs rfl hc (by intro q; cases q) hv).mpr rfl)⟩
        · exact .inl hk
      · exact .inl hk
    · exact .inl hk
  · exact .inl hk
theorem rf_isI_of {s : State} {cl j : Nat} {x : Int32} (h : rf_isI s.vm cl j = true) : s.fitsSlot cl .none j (.int x) = true := by
  unfold rf_isI at h
  split at h
  · rename_i k hk
    split at h
    · cases h
    · rename_i hn
      split at h
      · rename_i hi
        have hq : s.slotType? cl .none j = some .int := by
          unfold State.slotType?
          rw [hk]
          show (match k.kind with
            | .array _ type => some type
            | _ => k.instanceTypes[j]?) = _
          split
          · rename_i a b hkd
            exact absurd hkd (hn a b)
          · exact hi
        unfold State.fitsSlot
        rw [hq]
        rfl
      · cases h
  · cases h
theorem rf_putf_ok (ix : Nat) : rf_Sd (.putfield ix) (rf_putf ix) := by
  intro h ve w dr u c i pc len lo st r K sl hk
  unfold rf_putf at hk
  split at hk
  · rename_i x a t
    split at hk
    · rename_i j hf
      split at hk
      · rename_i cl sls mo ha hc
        split at hk
        · rename_i hi
          split at hk
          · rename_i v hv
            rw [rf_set_eq, rf_set_eq, rf_n_eq] at hk
            obtain ⟨c', f, hr, hs, hj, hb⟩ := rf_fld_of hf
            obtain ⟨hfin, hty⟩ := hb rfl
            subst hj
            rw [rf_at_eq] at hv
            rw [rf_at_eq, ← rf_arr] at hc
            have hlt : f.slot < sls.length := (List.getElem?_eq_some_iff.mp hv).1
            refine .inr ⟨_, _, _, _, _, hk, rf_fin ((Op.putfield.wp_ready (s := rf_mk h ve w dr u c i pc lo (.int x :: .ref a :: t) r) (f := rf_F c i pc lo (.int x :: .ref a :: t)) rfl hr hs hfin rfl hc (by intro q; cases q)).mpr ⟨hlt, ?_, ?_⟩)⟩
            · rw [hty]
              exact rf_isI_of (s := rf_mk h ve w dr u c i pc lo (.int x :: .ref a :: t) r) hi
            · rw [hty]
              show State.setTop (State.setCell (rf_mk h ve w dr u c i pc lo (.int x :: .ref a :: t) r) a (Cell.setSlot ⟨cl, ⟨sls⟩, mo, ha, .none⟩ f.slot (.int x))) (rf_F c i pc lo t) = _
              unfold State.setCell Cell.setSlot
              show State.setTop { rf_mk h ve w dr u c i pc lo (.int x :: .ref a :: t) r with heap := (Array.mk h).setIfInBounds a ⟨cl, (Array.mk sls).setIfInBounds f.slot (.int x), mo, ha, .none⟩ } (rf_F c i pc lo t) = _
              rw [rf_sib, rf_sib]
              rfl
          · exact .inl hk
        · exact .inl hk
      · exact .inl hk
    · exact .inl hk
  · exact .inl hk
theorem rf_isA_of {s : State} {cl : Nat} (h : rf_isA s.vm cl = true) : ∃ k, s.vm.classes[cl]? = some k ∧ ∃ comp, k.kind = .array comp .int := by
  unfold rf_isA at h
  split at h
  · rename_i k hk
    split at h
    · rename_i comp hkd
      exact ⟨k, hk, comp, hkd⟩
    · cases h
  · cases h
theorem rf_ias_ok : rf_Sd .iastore rf_ias := by
  intro h ve w dr u c i pc len lo st r K sl hk
  unfold rf_ias at hk
  split at hk
  · rename_i x ix a t
    split at hk
    · rename_i cl sls mo ha hc
      split at hk
      · rename_i hi
        split at hk
        · rename_i hn _
          rw [rf_n_eq] at hk
          split at hk
          · rename_i v hv
            rw [rf_set_eq, rf_set_eq, rf_n_eq] at hk
            rw [rf_at_eq] at hv
            rw [rf_at_eq, ← rf_arr] at hc
            have hlt : ix.toNatClampNeg < sls.length := (List.getElem?_eq_some_iff.mp hv).1
            obtain ⟨k, hk1, comp, hkd⟩ := rf_isA_of (s := rf_mk h ve w dr u c i pc lo (.int x :: .int ix :: .ref a :: t) r) hi
            have hA : (rf_mk h ve w dr u c i pc lo (.int x :: .int ix :: .ref a :: t) r).isArrayOf ⟨cl, ⟨sls⟩, mo, ha, .none⟩ .int := ⟨fun q hq => (by cases hq), k, hk1, comp, hkd⟩
            refine .inr ⟨_, _, _, _, _, hk, rf_fin (Op.iastore.wp_sem.mpr ⟨rf_F c i pc lo (.int x :: .int ix :: .ref a :: t), rfl, x, ix, .ref a, t, rfl, ⟨cl, ⟨sls⟩, mo, ha, .none⟩, hc, hA.isArray, ?_⟩)⟩
            rw [if_neg (by
              rintro (h1 | h1)
              · exact hn h1
              · exact absurd hlt (Nat.not_lt.mpr h1))]
            refine ⟨hA, (by intro q; cases q), ?_, ?_⟩
            · unfold State.fitsSlot State.slotType?
              rw [hk1]
              show (match (match k.kind with
                | .array _ type => some type
                | _ => k.instanceTypes[ix.toNatClampNeg]?) with
                | some t => fits t (.int x)
                | none => false) = true
              rw [hkd]
              rfl
            · unfold State.setCell Cell.setSlot
              show State.setTop { rf_mk h ve w dr u c i pc lo (.int x :: .int ix :: .ref a :: t) r with heap := (Array.mk h).setIfInBounds a ⟨cl, (Array.mk sls).setIfInBounds ix.toNatClampNeg (.int x), mo, ha, .none⟩ } (rf_F c i pc lo t) = _
              rw [rf_sib, rf_sib]
              rfl
          · exact .inl hk
        · exact .inl hk
      · exact .inl hk
    · exact .inl hk
  · exact .inl hk
theorem rf_ial_ok : rf_Sd .iaload rf_ial := by
  intro h ve w dr u c i pc len lo st r K sl hk
  unfold rf_ial at hk
  split at hk
  · rename_i ix a t
    split at hk
    · rename_i cl sls mo ha hc
      split at hk
      · rename_i hi
        split at hk
        · rename_i hn _
          rw [rf_n_eq] at hk
          split at hk
          · rename_i v hv
            rw [rf_v_eq, rf_n_eq] at hk
            rw [rf_at_eq] at hv
            rw [rf_at_eq, ← rf_arr] at hc
            have hlt : ix.toNatClampNeg < sls.length := (List.getElem?_eq_some_iff.mp hv).1
            obtain ⟨k, hk1, comp, hkd⟩ := rf_isA_of (s := rf_mk h ve w dr u c i pc lo (.int ix :: .ref a :: t) r) hi
            have hA : (rf_mk h ve w dr u c i pc lo (.int ix :: .ref a :: t) r).isArrayOf ⟨cl, ⟨sls⟩, mo, ha, .none⟩ .int := ⟨fun q hq => (by cases hq), k, hk1, comp, hkd⟩
            refine .inr ⟨_, _, _, _, _, hk, rf_fin (Op.iaload.wp_sem.mpr ⟨rf_F c i pc lo (.int ix :: .ref a :: t), rfl, ix, .ref a, t, rfl, ⟨cl, ⟨sls⟩, mo, ha, .none⟩, hc, hA.isArray, ?_⟩)⟩
            rw [if_neg (by
              rintro (h1 | h1)
              · exact hn h1
              · exact absurd hlt (Nat.not_lt.mpr h1))]
            exact ⟨hA.1, ⟨k, hk1, comp, hkd⟩, (by intro q; cases q), v, (rf_arr sls _).trans hv, rfl⟩
          · exact .inl hk
        · exact .inl hk
      · exact .inl hk
    · exact .inl hk
  · exact .inl hk
theorem rf_op_ok {ins : Instr} {f : RfF} (h : rf_op ins = some f) : rf_Sd ins f := by
  unfold rf_op at h
  split at h
  · cases h; exact rf_iload_ok (Op.iload.wp_sem _)
  · cases h; exact rf_iload_ok (Op.iload_n.wp_sem _)
  · cases h; exact rf_aload_ok (Op.aload.wp_sem _)
  · cases h; exact rf_aload_ok (Op.aload_n.wp_sem _)
  · cases h; exact rf_istore_ok (Op.istore.wp_sem _)
  · cases h; exact rf_istore_ok (Op.istore_n.wp_sem _)
  · cases h; exact rf_iinc_ok _ _
  · cases h; exact rf_const_ok (Op.iconst.wp_sem _)
  · cases h; exact rf_const_ok (Op.bipush.wp_sem _)
  · cases h; exact rf_const_ok (Op.sipush.wp_sem _)
  · cases h; exact rf_bin_ok Op.iadd.wp_sem
  · cases h; exact rf_bin_ok Op.isub.wp_sem
  · cases h; exact rf_bin_ok Op.imul.wp_sem
  · cases h; exact rf_bin_ok Op.iand.wp_sem
  · cases h; exact rf_bin_ok Op.ior.wp_sem
  · cases h; exact rf_bin_ok Op.ishl.wp_sem
  · cases h; exact rf_bin_ok Op.ishr.wp_sem
  · cases h; exact rf_dup_ok
  · cases h; exact rf_goto_ok _
  · cases h; exact rf_if_ok _ _
  · cases h; exact rf_icmp_ok _ _
  · cases h; exact rf_getf_ok _
  · cases h; exact rf_putf_ok _
  · cases h; exact rf_ias_ok
  · cases h; exact rf_ial_ok
  · cases h
end
section
/-! more of them, the heap's alone -/
noncomputable def rf_lload (n : Nat) : RfF := fun h _ u _ pc len lo st K sl => match rf_at n lo with
  | some (.val (.long v)) => rf_n (pc + len) fun q => K h u q lo (.long v :: st)
  | _ => sl ()
theorem rf_lload_ok {ins : Instr} {n : Nat} (hx : ∀ {Q : Unit → Pre} {E : CtlPost} {e : Env} {d : Bool} {acts : List Action} {s : State}, wp (start1.p0.tables.exec ins) Q E e d acts s ↔
    ∃ f, s.topJava? = some f ∧ ∃ v, f.locals[n]? = some (.val (.long v)) ∧ Q () true acts (s.setTop { f with stack := .long v :: f.stack })) : rf_Sd ins (rf_lload n) := by
  intro h ve w dr u c i pc len lo st r K sl hk
  unfold rf_lload at hk
  split at hk
  · rename_i v hv
    rw [rf_n_eq] at hk
    rw [rf_at_eq, ← rf_arr] at hv
    exact .inr ⟨_, _, _, _, _, hk, rf_fin (hx.mpr ⟨rf_F c i pc lo st, rfl, v, hv, rfl⟩)⟩
  · exact .inl hk
noncomputable def rf_i2c : RfF := fun h _ u _ pc len lo st K sl => match st with
  | .int x :: t => rf_i (x.toUInt32.toUInt16.toUInt32.toInt32) fun v => rf_n (pc + len) fun q => K h u q lo (.int v :: t)
  | _ => sl ()
theorem rf_i2c_ok : rf_Sd .i2c rf_i2c := by
  intro h ve w dr u c i pc len lo st r K sl hk
  unfold rf_i2c at hk
  split at hk
  · rename_i x t
    rw [rf_i_eq, rf_n_eq] at hk
    exact .inr ⟨_, _, _, _, _, hk, rf_fin (Op.i2c.wp_sem.mpr ⟨rf_F c i pc lo (.int x :: t), rfl, x, t, rfl, rfl⟩)⟩
  · exact .inl hk
noncomputable def rf_l2i : RfF := fun h _ u _ pc len lo st K sl => match st with
  | .long x :: t => rf_i x.toInt32 fun v => rf_n (pc + len) fun q => K h u q lo (.int v :: t)
  | _ => sl ()
theorem rf_l2i_ok : rf_Sd .l2i rf_l2i := by
  intro h ve w dr u c i pc len lo st r K sl hk
  unfold rf_l2i at hk
  split at hk
  · rename_i x t
    rw [rf_i_eq, rf_n_eq] at hk
    exact .inr ⟨_, _, _, _, _, hk, rf_fin (Op.l2i.wp_sem.mpr ⟨rf_F c i pc lo (.long x :: t), rfl, x, t, rfl, rfl⟩)⟩
  · exact .inl hk
noncomputable def rf_lushr : RfF := fun h _ u _ pc len lo st K sl => match st with
  | .int y :: .long x :: t => rf_l ((x.toUInt64 >>> (y &&& 0x3f).toInt64.toUInt64).toInt64) fun v => rf_n (pc + len) fun q => K h u q lo (.long v :: t)
  | _ => sl ()
theorem rf_lushr_ok : rf_Sd .lushr rf_lushr := by
  intro h ve w dr u c i pc len lo st r K sl hk
  unfold rf_lushr at hk
  split at hk
  · rename_i y x t
    rw [rf_l_eq, rf_n_eq] at hk
    exact .inr ⟨_, _, _, _, _, hk, rf_fin (Op.lushr.wp_sem.mpr ⟨rf_F c i pc lo (.int y :: .long x :: t), rfl, y, x, t, rfl, rfl⟩)⟩
  · exact .inl hk
/-- the type of the components, of a class of arrays -/
def rf_kd (ve : Vm) (cl : Nat) : Option FieldType := match ve.classes[cl]? with
  | some k => match k.kind with
    | .array _ t => some t
    | _ => none
  | none => none
theorem rf_kd_of {s : State} {cl : Nat} {t : FieldType} (h : rf_kd s.vm cl = some t) : ∃ k, s.vm.classes[cl]? = some k ∧ ∃ comp, k.kind = .array comp t := by
  unfold rf_kd at h
  split at h
  · rename_i k hk
    split at h
    · rename_i comp t' hkd
      cases h
      exact ⟨k, hk, comp, hkd⟩
    · cases h
  · cases h
noncomputable def rf_xal (tst : FieldType → Bool) : RfF := fun h ve u _ pc len lo st K sl => match st with
  | .int i :: .ref a :: t => match rf_at a h with
    | some ⟨cl, ⟨sls⟩, _, _, .none⟩ => match rf_kd ve cl with
      | some ty => match tst ty with
        | true => match Int32.decLt i 0 with
          | .isFalse _ => rf_n i.toNatClampNeg fun j => match rf_at j sls with
            | some v => rf_v v fun v' => rf_n (pc + len) fun q => K h u q lo (v' :: t)
            | none => sl ()
          | .isTrue _ => sl ()
        | false => sl ()
      | none => sl ()
    | _ => sl ()
  | _ => sl ()
theorem rf_xal_ok {ins : Instr} {tst : FieldType → Bool} (hx : ∀ {Q : Unit → Pre} {E : CtlPost} {e : Env} {d : Bool} {acts : List Action} {s : State} {f : JFrame} {i : Int32} {a : Addr} {rest : List Value} {c : Cell} {t : FieldType} {v : Value},
    s.topJava? = some f → f.stack = .int i :: .ref a :: rest → s.heap[a]? = some c → s.isArrayOf c t → tst t = true → ¬ (i < 0 ∨ c.slots.size ≤ i.toNatClampNeg) → c.vm ≠ .unknown → c.slots[i.toNatClampNeg]? = some v →
    Q () true (.read ⟨a, i.toNatClampNeg⟩ .plain v :: acts) (s.setTop { f with stack := v :: rest }) → wp (start1.p0.tables.exec ins) Q E e d acts s) : rf_Sd ins (rf_xal tst) := by
  intro h ve w dr u c i pc len lo st r K sl hk
  unfold rf_xal at hk
  split at hk
  · rename_i ix a t
    split at hk
    · rename_i cl sls mo ha hc
      split at hk
      · rename_i ty hty
        split at hk
        · rename_i hts
          split at hk
          · rename_i hn _
            rw [rf_n_eq] at hk
            split at hk
            · rename_i v hv
              rw [rf_v_eq, rf_n_eq] at hk
              rw [rf_at_eq] at hv
              rw [rf_at_eq, ← rf_arr] at hc
              have hlt : ix.toNatClampNeg < sls.length := (List.getElem?_eq_some_iff.mp hv).1
              obtain ⟨k, hk1, comp, hkd⟩ := rf_kd_of (s := rf_mk h ve w dr u c i pc lo (.int ix :: .ref a :: t) r) hty
              have hA : (rf_mk h ve w dr u c i pc lo (.int ix :: .ref a :: t) r).isArrayOf ⟨cl, ⟨sls⟩, mo, ha, .none⟩ ty := ⟨fun q hq => (by cases hq), k, hk1, comp, hkd⟩
              refine .inr ⟨_, _, _, _, _, hk, rf_fin (hx (f := rf_F c i pc lo (.int ix :: .ref a :: t)) rfl rfl hc hA hts ?_ (by intro q; cases q) ((rf_arr sls _).trans hv) rfl)⟩
              rintro (h1 | h1)
              · exact hn h1
              · exact absurd hlt (Nat.not_lt.mpr h1)
            · exact .inl hk
          · exact .inl hk
        · exact .inl hk
      · exact .inl hk
    · exact .inl hk
  · exact .inl hk
theorem rf_cal_ok : rf_Sd .caload (rf_xal fun t => decide (t = .char)) := rf_xal_ok (by
  intro Q E e d acts s f i a rest c t v h1 h2 h3 h4 h5 h6 h7 h8 h9
  have h5' : t = .char := of_decide_eq_true h5
  subst h5'
  refine Op.caload.wp_sem.mpr ⟨f, h1, i, .ref a, rest, h2, c, h3, h4.isArray, ?_⟩
  rw [if_neg h6]
  exact ⟨h4, h7, v, h8, h9⟩)
theorem rf_bal_ok : rf_Sd .baload (rf_xal fun t => decide (t = .byte)) := rf_xal_ok (by
  intro Q E e d acts s f i a rest c t v h1 h2 h3 h4 h5 h6 h7 h8 h9
  have h5' : t = .byte := of_decide_eq_true h5
  subst h5'
  refine Op.baload.wp_sem.mpr ⟨f, h1, i, .ref a, rest, h2, c, h3, h4.isArray, ?_⟩
  rw [if_neg h6]
  exact ⟨_, h4, .inl rfl, h7, v, h8, h9⟩)
theorem rf_aal_ok : rf_Sd .aaload (rf_xal fun t => t.isReference) := rf_xal_ok (by
  intro Q E e d acts s f i a rest c t v h1 h2 h3 h4 h5 h6 h7 h8 h9
  refine Op.aaload.wp_sem.mpr ⟨f, h1, i, .ref a, rest, h2, c, h3, h4.isArray, ?_⟩
  rw [if_neg h6]
  exact ⟨⟨t, h4, h5⟩, h7, v, h8, h9⟩)
noncomputable def rf_alen : RfF := fun h ve u _ pc len lo st K sl => match st with
  | .ref a :: t => match rf_at a h with
    | some ⟨cl, ⟨sls⟩, _, _, .none⟩ => match rf_kd ve cl with
      | some _ => rf_i sls.length.toInt32 fun v => rf_n (pc + len) fun q => K h u q lo (.int v :: t)
      | none => sl ()
    | _ => sl ()
  | _ => sl ()
theorem rf_alen_ok : rf_Sd .arraylength rf_alen := by
  intro h ve w dr u c i pc len lo st r K sl hk
  unfold rf_alen at hk
  split at hk
  · rename_i a t
    split at hk
    · rename_i cl sls mo ha hc
      split at hk
      · rename_i ty hty
        rw [rf_i_eq, rf_n_eq] at hk
        rw [rf_at_eq, ← rf_arr] at hc
        obtain ⟨k, hk1, comp, hkd⟩ := rf_kd_of (s := rf_mk h ve w dr u c i pc lo (.ref a :: t) r) hty
        exact .inr ⟨_, _, _, _, _, hk, rf_fin (Op.arraylength.wp_sem.mpr ⟨rf_F c i pc lo (.ref a :: t), rfl, .ref a, t, rfl, ⟨cl, ⟨sls⟩, mo, ha, .none⟩, hc, ⟨fun q hq => (by cases hq), k, hk1, comp, ty, hkd⟩, rfl⟩)⟩
      · exact .inl hk
    · exact .inl hk
  · exact .inl hk
noncomputable def rf_cas : RfF := fun h ve u _ pc len lo st K sl => match st with
  | .int x :: .int i :: .ref a :: t => match rf_at a h with
    | some ⟨cl, ⟨sls⟩, mo, ha, .none⟩ => match rf_kd ve cl with
      | some .char => match Int32.decLt i 0 with
        | .isFalse _ => rf_n i.toNatClampNeg fun j => match rf_at j sls with
          | some _ => rf_v (narrow .char (.int x)) fun v => match fits .char v with
            | true => rf_set j v sls fun sls' => rf_set a ⟨cl, ⟨sls'⟩, mo, ha, .none⟩ h fun h' => rf_n (pc + len) fun q => K h' u q lo t
            | false => sl ()
          | none => sl ()
        | .isTrue _ => sl ()
      | _ => sl ()
    | _ => sl ()
  | _ => sl ()
theorem rf_cas_ok : rf_Sd .castore rf_cas := by
  intro h ve w dr u c i pc len lo st r K sl hk
  unfold rf_cas at hk
  split at hk
  · rename_i x ix a t
    split at hk
    · rename_i cl sls mo ha hc
      split at hk
      · rename_i hi
        split at hk
        · rename_i hn _
          rw [rf_n_eq] at hk
          split at hk
          · rename_i v hv
            rw [rf_v_eq] at hk
            split at hk
            · rename_i hft
              rw [rf_set_eq, rf_set_eq, rf_n_eq] at hk
              rw [rf_at_eq] at hv
              rw [rf_at_eq, ← rf_arr] at hc
              have hlt : ix.toNatClampNeg < sls.length := (List.getElem?_eq_some_iff.mp hv).1
              obtain ⟨k, hk1, comp, hkd⟩ := rf_kd_of (s := rf_mk h ve w dr u c i pc lo (.int x :: .int ix :: .ref a :: t) r) hi
              have hA : (rf_mk h ve w dr u c i pc lo (.int x :: .int ix :: .ref a :: t) r).isArrayOf ⟨cl, ⟨sls⟩, mo, ha, .none⟩ .char := ⟨fun q hq => (by cases hq), k, hk1, comp, hkd⟩
              refine .inr ⟨_, _, _, _, _, hk, rf_fin (Op.castore.wp_sem.mpr ⟨rf_F c i pc lo (.int x :: .int ix :: .ref a :: t), rfl, x, ix, .ref a, t, rfl, ⟨cl, ⟨sls⟩, mo, ha, .none⟩, hc, hA.isArray, ?_⟩)⟩
              rw [if_neg (by
                rintro (h1 | h1)
                · exact hn h1
                · exact absurd hlt (Nat.not_lt.mpr h1))]
              refine ⟨hA, (by intro q; cases q), ?_, ?_⟩
              · unfold State.fitsSlot State.slotType?
                rw [hk1]
                show (match (match k.kind with
                  | .array _ type => some type
                  | _ => k.instanceTypes[ix.toNatClampNeg]?) with
                  | some t => fits t (narrow .char (.int x))
                  | none => false) = true
                rw [hkd]
                exact hft
              · unfold State.setCell Cell.setSlot
                show State.setTop { rf_mk h ve w dr u c i pc lo (.int x :: .int ix :: .ref a :: t) r with heap := (Array.mk h).setIfInBounds a ⟨cl, (Array.mk sls).setIfInBounds ix.toNatClampNeg (narrow .char (.int x)), mo, ha, .none⟩ } (rf_F c i pc lo t) = _
                rw [rf_sib, rf_sib]
                rfl
            · exact .inl hk
          · exact .inl hk
        · exact .inl hk
      · exact .inl hk
    · exact .inl hk
  · exact .inl hk
/-- the cell of statics and the slot of the static field that an entry is resolved to -/
def rf_sfl (ve : Vm) (c ix : Nat) : Option (Nat × Nat) := match ve.classes[c]? with
  | some k => match k.resolved[ix]? with
    | some (some (.field c' j)) => match ve.classes[c']? with
      | some kc => match kc.fields[j]? with
        | some f => match kc.statics with
          | some a => if f.isStatic && decide (kc.init = .initialized) then some (a, f.slot) else none
          | none => none
        | none => none
      | none => none
    | _ => none
  | none => none
theorem rf_sfl_of {ve : Vm} {c ix a j : Nat} (h : rf_sfl ve c ix = some (a, j)) : ∃ c' f kc, ve.fieldReady c ix c' f ∧ f.isStatic = true ∧ f.slot = j ∧ ve.classes[c']? = some kc ∧ kc.init = .initialized ∧ kc.statics = some a := by
  unfold rf_sfl at h
  split at h
  · rename_i k hk
    split at h
    · rename_i c' n hr
      split at h
      · rename_i kc hkc
        split at h
        · rename_i f hf
          split at h
          · rename_i a' ha
            split at h
            · rename_i hs
              simp only [Option.some.injEq, Prod.mk.injEq] at h
              obtain ⟨h1, h2⟩ := h
              rw [Bool.and_eq_true] at hs
              exact ⟨c', f, kc, ⟨k, n, kc, hk, hr, hkc, hf⟩, hs.1, h2, hkc, of_decide_eq_true hs.2, by rw [ha, h1]⟩
            · cases h
          · cases h
        · cases h
      · cases h
    · cases h
  · cases h
noncomputable def rf_gets (ix : Nat) : RfF := fun h ve u c pc len lo st K sl => match rf_sfl ve c ix with
  | some (a, j) => match rf_at a h with
    | some ⟨_, ⟨sls⟩, _, _, .statics _⟩ => match rf_at j sls with
      | some v => rf_v v fun v' => rf_n (pc + len) fun q => K h u q lo (v' :: st)
      | none => sl ()
    | _ => sl ()
  | none => sl ()
theorem rf_gets_ok (ix : Nat) : rf_Sd (.getstatic ix) (rf_gets ix) := by
  intro h ve w dr u c i pc len lo st r K sl hk
  unfold rf_gets at hk
  split at hk
  · rename_i a j hf
    split at hk
    · rename_i cl sls mo ha sc hc
      split at hk
      · rename_i v hv
        rw [rf_v_eq, rf_n_eq] at hk
        obtain ⟨c', f, kc, hr, hs, hj, hkc, hin, hst⟩ := rf_sfl_of hf
        subst hj
        rw [rf_at_eq, ← rf_arr] at hc hv
        exact .inr ⟨_, _, _, _, _, hk, rf_fin ((Op.getstatic.wp_ready (s := rf_mk h ve w dr u c i pc lo st r) (f := rf_F c i pc lo st) rfl hr hs hkc hin hst hc (by intro q; cases q) hv).mpr rfl)⟩
      · exact .inl hk
    · exact .inl hk
  · exact .inl hk
noncomputable def rf_app {α : Type} (l : List α) (y : α) : (List α → Bool) → Bool :=
  List.rec (motive := fun _ => (List α → Bool) → Bool) (fun k => k [y]) (fun x _ ih k => ih fun r => k (x :: r)) l
theorem rf_app_eq {α : Type} (l : List α) (y : α) : ∀ k, rf_app l y k = k (l ++ [y]) := by
  induction l with
  | nil => intro k; rfl
  | cons x l ih => intro k; exact ih fun r => k (x :: r)
theorem rf_push {α : Type} (l : List α) (y : α) : (Array.mk l).push y = Array.mk (l ++ [y]) := List.push_toArray ..
/-- the class of arrays of a primitive type -/
def rf_nac (ve : Vm) (ty : ClassFile.ArrayType) : Option Nat := match ve.findClass ("[" ++ (Op.newarray.typeOf ty).toString) with
  | some c => match rf_kd ve c with
    | some t => if decide (t = Op.newarray.typeOf ty) then some c else none
    | none => none
  | none => none
noncomputable def rf_na (ty : ClassFile.ArrayType) : RfF := fun h ve u _ pc len lo st K sl => match st with
  | .int n :: t => match rf_nac ve ty with
    | some cl => match Int32.decLt n 0 with
      | .isFalse _ => rf_n n.toNatClampNeg fun m => rf_n h.length fun a =>
          match decide (m ≤ start1.e0.platform.arrayLengthLimit) && (decide (m * componentBytes (Op.newarray.typeOf ty) ≤ start1.e0.platform.maxHeapBytes) && (decide (a < start1.e0.platform.maxCells) && decide (u + m ≤ start1.e0.platform.maxSlots))) with
          | true => rf_vs (List.replicate m (defaultValue (Op.newarray.typeOf ty))) fun sls => rf_app h ⟨cl, ⟨sls⟩, {}, none, .none⟩ fun h' => rf_n (u + m) fun u' => rf_n (pc + len) fun q => K h' u' q lo (.ref a :: t)
          | false => sl ()
      | .isTrue _ => sl ()
    | none => sl ()
  | _ => sl ()
theorem rf_na_ok (ty : ClassFile.ArrayType) : rf_Sd (.newarray ty) (rf_na ty) := by
  intro h ve w dr u c i pc len lo st r K sl hk
  unfold rf_na at hk
  split at hk
  · rename_i n t
    split at hk
    · rename_i cl hcl
      split at hk
      · rename_i hn _
        rw [rf_n_eq, rf_n_eq] at hk
        split at hk
        · rename_i hb
          rw [rf_vs_eq, rf_app_eq, rf_n_eq, rf_n_eq] at hk
          simp only [Bool.and_eq_true, decide_eq_true_eq] at hb
          obtain ⟨b1, b2, b3, b4⟩ := hb
          unfold rf_nac at hcl
          split at hcl
          · rename_i c' hfc
            split at hcl
            · rename_i t' hkd
              split at hcl
              · rename_i hty
                cases hcl
                have hty' := of_decide_eq_true hty
                subst hty'
                obtain ⟨k, hk1, comp, hkind⟩ := rf_kd_of (s := rf_mk h ve w dr u c i pc lo (.int n :: t) r) hkd
                refine .inr ⟨_, _, _, _, _, hk, rf_fin ((Op.newarray.wp_ready (s := rf_mk h ve w dr u c i pc lo (.int n :: t) r) (f := rf_F c i pc lo (.int n :: t)) rfl hfc hk1 hkind rfl hn (Nat.not_lt.mpr b1) (Nat.not_lt.mpr b2)).mpr ⟨b3, b4, ?_⟩)⟩
                show State.setTop { rf_mk h ve w dr u c i pc lo (.int n :: t) r with heap := (Array.mk h).push ⟨cl, Array.replicate n.toNatClampNeg (defaultValue (Op.newarray.typeOf ty)), {}, none, .none⟩, slotsUsed := u + (Array.replicate n.toNatClampNeg (defaultValue (Op.newarray.typeOf ty))).size } (rf_F c i pc lo (.ref h.length :: t)) = _
                rw [Array.size_replicate, rf_push]
                rfl
              · cases hcl
            · cases hcl
          · cases hcl
        · exact .inl hk
      · exact .inl hk
    · exact .inl hk
  · exact .inl hk
/-- the class that an entry of new is resolved to, and what a new object of it holds -/
def rf_nwc (ve : Vm) (c ix : Nat) : Option (Nat × List Value) := match ve.classes[c]? with
  | some kc => match kc.resolved[ix]? with
    | some (some (.cls c')) => match ve.classes[c']? with
      | some k => match decide (k.kind = .ordinary) && (decide (k.init = .initialized) && (!(k.isInterface || hasFlag k.accessFlags Acc.abstract) && !decide (k.name = "java/lang/Class"))) with
        | true => some (c', k.instanceTypes.toList.map defaultValue)
        | false => none
      | none => none
    | _ => none
  | none => none
noncomputable def rf_new (ix : Nat) : RfF := fun h ve u c pc len lo st K sl => match rf_nwc ve c ix with
  | some (cl, vs) => rf_n h.length fun a => rf_n vs.length fun m => match decide (a < start1.e0.platform.maxCells) && decide (u + m ≤ start1.e0.platform.maxSlots) with
    | true => rf_vs vs fun sls => rf_app h ⟨cl, ⟨sls⟩, {}, none, .none⟩ fun h' => rf_n (u + m) fun u' => rf_n (pc + len) fun q => K h' u' q lo (.ref a :: st)
    | false => sl ()
  | none => sl ()
theorem rf_new_ok (ix : Nat) : rf_Sd (.new ix) (rf_new ix) := by
  intro h ve w dr u c i pc len lo st r K sl hk
  unfold rf_new at hk
  split at hk
  · rename_i cl vs hcl
    rw [rf_n_eq, rf_n_eq] at hk
    split at hk
    · rename_i hb
      rw [rf_vs_eq, rf_app_eq, rf_n_eq, rf_n_eq] at hk
      simp only [Bool.and_eq_true, decide_eq_true_eq] at hb
      unfold rf_nwc at hcl
      split at hcl
      · rename_i kc hkc
        split at hcl
        · rename_i c' hr
          split at hcl
          · rename_i k hk1
            split at hcl
            · rename_i hq
              simp only [Option.some.injEq, Prod.mk.injEq] at hcl
              obtain ⟨rfl, rfl⟩ := hcl
              simp only [Bool.and_eq_true, Bool.not_eq_true', decide_eq_true_eq, decide_eq_false_iff_not] at hq
              obtain ⟨q1, q2, q3, q4⟩ := hq
              have hmap : k.instanceTypes.map defaultValue = ⟨k.instanceTypes.toList.map defaultValue⟩ := by apply Array.ext'; simp
              have hsz : (k.instanceTypes.toList.map defaultValue).length = k.instanceTypes.size := by simp
              rw [hsz] at hb hk
              refine .inr ⟨_, _, _, _, _, hk, rf_fin ((Op.new.wp_ready (s := rf_mk h ve w dr u c i pc lo st r) (f := rf_F c i pc lo st) rfl ⟨kc, hkc, hr⟩ hk1 q1 q2 q3 q4).mpr ⟨hb.1, hb.2, ?_⟩)⟩
              show State.setTop { rf_mk h ve w dr u c i pc lo st r with heap := (Array.mk h).push ⟨c', k.instanceTypes.map defaultValue, {}, none, .none⟩, slotsUsed := u + (k.instanceTypes.map defaultValue).size } (rf_F c i pc lo (.ref h.length :: st)) = _
              rw [Array.size_map, hmap, rf_push]
              rfl
            · cases hcl
          · cases hcl
        · cases hcl
      · cases hcl
    · exact .inl hk
  · exact .inl hk
/-- may a reference to an object of class clv be stored into an array of class cl? -/
def rf_aac (ve : Vm) (cl clv : Nat) : Option FieldType := match ve.classes[cl]? with
  | some k => match k.kind with
    | .array comp ty => match (ve.classes[clv]?).isSome && ((ve.classes[comp]?).isSome && ve.assignable clv comp) with
      | true => some ty
      | false => none
    | _ => none
  | none => none
noncomputable def rf_aas : RfF := fun h ve u _ pc len lo st K sl => match st with
  | .ref v :: .int i :: .ref a :: t => match rf_at a h with
    | some ⟨cl, ⟨sls⟩, mo, ha, .none⟩ => match rf_at v h with
      | some ⟨clv, _, _, _, .none⟩ => match rf_aac ve cl clv with
        | some ty => match fits ty (.ref v) with
          | true => match Int32.decLt i 0 with
            | .isFalse _ => rf_n i.toNatClampNeg fun j => match rf_at j sls with
              | some _ => rf_set j (.ref v) sls fun sls' => rf_set a ⟨cl, ⟨sls'⟩, mo, ha, .none⟩ h fun h' => rf_n (pc + len) fun q => K h' u q lo t
              | none => sl ()
            | .isTrue _ => sl ()
          | false => sl ()
        | none => sl ()
      | _ => sl ()
    | _ => sl ()
  | _ => sl ()
theorem rf_aas_ok : rf_Sd .aastore rf_aas := by
  intro h ve w dr u c i pc len lo st r K sl hk
  unfold rf_aas at hk
  split at hk
  · rename_i va ix a t
    split at hk
    · rename_i cl sls mo ha hc
      split at hk
      · rename_i clv sv mv hv' hcv
        split at hk
        · rename_i ty hty
          split at hk
          · rename_i hft
            split at hk
            · rename_i hn _
              rw [rf_n_eq] at hk
              split at hk
              · rename_i v0 hv
                rw [rf_set_eq, rf_set_eq, rf_n_eq] at hk
                rw [rf_at_eq] at hv
                rw [rf_at_eq, ← rf_arr] at hc hcv
                have hlt : ix.toNatClampNeg < sls.length := (List.getElem?_eq_some_iff.mp hv).1
                unfold rf_aac at hty
                split at hty
                · rename_i k hk1
                  split at hty
                  · rename_i comp ty' hkd
                    split at hty
                    · rename_i hb
                      cases hty
                      simp only [Bool.and_eq_true] at hb
                      obtain ⟨b1, b2, b3⟩ := hb
                      obtain ⟨kv, hkv⟩ := Option.isSome_iff_exists.mp b1
                      obtain ⟨kc, hkc⟩ := Option.isSome_iff_exists.mp b2
                      refine .inr ⟨_, _, _, _, _, hk, rf_fin (Op.aastore.wp_of_ref (s := rf_mk h ve w dr u c i pc lo (.ref va :: .int ix :: .ref a :: t) r) (f := rf_F c i pc lo (.ref va :: .int ix :: .ref a :: t)) rfl rfl hc (by intro q hq; cases hq) hk1 hkd ?_ (by intro q; cases q) hcv (by intro q hq; cases hq) hkv hkc b3 hlt ?_ ?_)⟩
                      · rintro (h1 | h1)
                        · exact hn h1
                        · exact absurd hlt (Nat.not_lt.mpr h1)
                      · unfold State.fitsSlot State.slotType?
                        have hk2 : (rf_mk h ve w dr u c i pc lo (.ref va :: .int ix :: .ref a :: t) r).vm.classes[cl]? = some k := hk1
                        rw [hk2]
                        show (match (match k.kind with
                          | .array _ type => some type
                          | _ => k.instanceTypes[ix.toNatClampNeg]?) with
                          | some t => fits t (.ref va)
                          | none => false) = true
                        rw [hkd]
                        exact hft
                      · unfold State.setCell Cell.setSlot
                        show State.setTop { rf_mk h ve w dr u c i pc lo (.ref va :: .int ix :: .ref a :: t) r with heap := (Array.mk h).setIfInBounds a ⟨cl, (Array.mk sls).setIfInBounds ix.toNatClampNeg (.ref va), mo, ha, .none⟩ } (rf_F c i pc lo t) = _
                        rw [rf_sib, rf_sib]
                        rfl
                    · cases hty
                  · cases hty
                · cases hty
              · exact .inl hk
            · exact .inl hk
          · exact .inl hk
        · exact .inl hk
      · exact .inl hk
    · exact .inl hk
  · exact .inl hk
noncomputable def rf_opB (ins : Instr) : Option RfF := match ins with
  | .lload n => some (rf_lload n)
  | .lload_n n => some (rf_lload n.val)
  | .i2c => some rf_i2c
  | .l2i => some rf_l2i
  | .lushr => some rf_lushr
  | .caload => some (rf_xal fun t => decide (t = .char))
  | .baload => some (rf_xal fun t => decide (t = .byte))
  | .aaload => some (rf_xal fun t => t.isReference)
  | .arraylength => some rf_alen
  | .castore => some rf_cas
  | .getstatic ix => some (rf_gets ix)
  | .newarray ty => some (rf_na ty)
  | .new ix => some (rf_new ix)
  | .aastore => some rf_aas
  | _ => none
theorem rf_opB_ok {ins : Instr} {f : RfF} (h : rf_opB ins = some f) : rf_Sd ins f := by
  unfold rf_opB at h
  split at h
  · cases h; exact rf_lload_ok (Op.lload.wp_sem _)
  · cases h; exact rf_lload_ok (Op.lload_n.wp_sem _)
  · cases h; exact rf_i2c_ok
  · cases h; exact rf_l2i_ok
  · cases h; exact rf_lushr_ok
  · cases h; exact rf_cal_ok
  · cases h; exact rf_bal_ok
  · cases h; exact rf_aal_ok
  · cases h; exact rf_alen_ok
  · cases h; exact rf_cas_ok
  · cases h; exact rf_gets_ok _
  · cases h; exact rf_na_ok _
  · cases h; exact rf_new_ok _
  · cases h; exact rf_aas_ok
  · cases h
noncomputable def rf_opA (ins : Instr) : Option RfF := match rf_op ins with
  | some f => some f
  | none => rf_opB ins
theorem rf_opA_ok {ins : Instr} {f : RfF} (h : rf_opA ins = some f) : rf_Sd ins f := by
  unfold rf_opA at h
  split at h
  · rename_i f' hf
    cases h
    exact rf_op_ok hf
  · exact rf_opB_ok h
end
section
/-! calls and returns -/
abbrev RfK2 := List Cell → Nat → Nat → Nat → Nat → List Slot → List Value → List Frame → Bool
abbrev RfF2 := List Cell → Vm → Nat → Nat → Nat → Nat → Nat → List Slot → List Value → List Frame → RfK2 → (Unit → Bool) → Bool
def rf_Sd2 (ins : Instr) (f : RfF2) : Prop := ∀ (h : List Cell) (ve : Vm) (w : World) (dr : Drawn) (u c i pc len : Nat) (lo : List Slot) (st : List Value) (r : List Frame) (K : RfK2) (sl : Unit → Bool),
  rf_last r = true → rf_Inv (rf_mk h ve w dr u c i pc lo st r) → f h ve u c i pc len lo st r K sl = true → sl () = true ∨ ∃ h' u' c' i' pc' lo' st' r', K h' u' c' i' pc' lo' st' r' = true ∧ rf_last r' = true ∧
    (afterInstr start1.e0 len ((start1.p0.tables.exec ins).run start1.e0 (rf_mk h ve w dr u c i pc lo st r))).1 = rf_mk h' ve w dr u' c' i' pc' lo' st' r'
theorem rf_wct {t : Sem Unit} {e : Env} {s X : State} {C : Control} (h : wp t (fun _ _ _ _ => False) (fun q _ s' => q = C ∧ s' = X) e false [] s) : ∃ acts, t.run e s = .ctl C X acts := by
  have h' := (Sem.wp_iff_go t (fun _ _ _ => False) (fun q s' _ => q = C ∧ s' = X) e false [] s).mp h
  unfold Sem.run
  split at h'
  · cases h'
  · cases h'
  · rename_i q s' as hn hg
    obtain ⟨rfl, rfl⟩ := h'
    exact ⟨as, hg⟩
theorem rf_finr {t : Sem Unit} {h : List Cell} {ve : Vm} {w : World} {dr : Drawn} {u c i pc len c2 i2 pc2 len2 : Nat} {lo lo2 : List Slot} {st st' st2 : List Value} {r2 : List Frame} {v : Option Value} {meth : Method} {cg : Code} {ig : Instr}
    (hw : wp t (fun _ _ _ _ => False) (fun q _ s' => q = .ret v ∧ s' = rf_mk h ve w dr u c i pc lo st' (.java (rf_F c2 i2 pc2 lo2 st2) :: r2)) start1.e0 false [] (rf_mk h ve w dr u c i pc lo st (.java (rf_F c2 i2 pc2 lo2 st2) :: r2)))
    (hm : ve.method? ⟨c, i⟩ = some meth) (hl : meth.locks = false) (hcg : (rf_mk h ve w dr u c i pc lo st (.java (rf_F c2 i2 pc2 lo2 st2) :: r2)).code? ⟨c2, i2⟩ = some cg) (hd : decode cg.code pc2 = .ok (ig, len2)) :
    (afterInstr start1.e0 len (t.run start1.e0 (rf_mk h ve w dr u c i pc lo st (.java (rf_F c2 i2 pc2 lo2 st2) :: r2)))).1 = rf_mk h ve w dr u c2 i2 (pc2 + len2) lo2 (v.toList ++ st2) r2 := by
  obtain ⟨acts, ha⟩ := rf_wct hw
  rw [ha]
  exact doReturn_leave (e := start1.e0) (u := rf_mk h ve w dr u c i pc lo st' (.java (rf_F c2 i2 pc2 lo2 st2) :: r2)) (f := rf_F c i pc lo st') (f₀ := rf_F c i pc lo st') (g := rf_F c2 i2 pc2 lo2 st2) (r := r2) (meth := meth) (cg := cg) (ig := ig) (len := len2) (v := v) acts rfl hm hl rfl rfl hcg hd
theorem rf_last_tl {f : JFrame} {r : List Frame} (h : rf_last (.java f :: r) = true) : rf_last r = true := by
  cases r with
  | nil => cases h
  | cons b r => exact h
def rf_mi (ve : Vm) (c i : Nat) : Option (Option FieldType) := match ve.method? ⟨c, i⟩ with
  | some meth => match meth.locks with
    | false => some meth.sig.returnType
    | true => none
  | none => none
theorem rf_mi_of {ve : Vm} {c i : Nat} {t : Option FieldType} (h : rf_mi ve c i = some t) : ∃ meth, ve.method? ⟨c, i⟩ = some meth ∧ meth.locks = false ∧ meth.sig.returnType = t := by
  unfold rf_mi at h
  split at h
  · rename_i meth hm
    split at h
    · rename_i hl
      cases h
      exact ⟨meth, hm, hl, rfl⟩
    · cases h
  · cases h
noncomputable def rf_back (g : List Value → List Value) (h : List Cell) (u : Nat) (r : List Frame) (K : RfK2) (sl : Unit → Bool) : Bool := match r with
  | .java ⟨⟨c2, i2⟩, pc2, ⟨lo2⟩, st2, none, [], 0⟩ :: r2 => match rf_dc c2 i2 pc2 with
    | some (_, len2) => rf_n (pc2 + len2) fun q => K h u c2 i2 q lo2 (g st2) r2
    | none => sl ()
  | _ => sl ()
theorem rf_back_of {g : List Value → List Value} {h : List Cell} {u : Nat} {r : List Frame} {K : RfK2} {sl : Unit → Bool} (hk : rf_back g h u r K sl = true) : sl () = true ∨ ∃ c2 i2 pc2 lo2 st2 r2 ig len2,
    r = .java (rf_F c2 i2 pc2 lo2 st2) :: r2 ∧ rf_dc c2 i2 pc2 = some (ig, len2) ∧ K h u c2 i2 (pc2 + len2) lo2 (g st2) r2 = true := by
  unfold rf_back at hk
  split at hk
  · split at hk
    · rename_i ig len2 hd
      rw [rf_n_eq] at hk
      exact .inr ⟨_, _, _, _, _, _, ig, len2, rfl, hd, hk⟩
    · exact .inl hk
  · exact .inl hk
noncomputable def rf_ret0 : RfF2 := fun h ve u c i _ _ _ _ r K sl => match rf_mi ve c i with
  | some _ => rf_back (fun s => s) h u r K sl
  | none => sl ()
theorem rf_ret0_ok : rf_Sd2 .return_ rf_ret0 := by
  intro h ve w dr u c i pc len lo st r K sl hl hI hk
  unfold rf_ret0 at hk
  split at hk
  · rename_i t hm
    obtain ⟨meth, h1, h2, -⟩ := rf_mi_of hm
    rcases rf_back_of hk with hk | ⟨c2, i2, pc2, lo2, st2, r2, ig, len2, rfl, hd, hk⟩
    · exact .inl hk
    · obtain ⟨cg, hc, -, hdc⟩ := rf_dc_of hI hd
      exact .inr ⟨_, _, _, _, _, _, _, _, hk, rf_last_tl hl, rf_finr (v := none) (Op.return_.wp_sem.mpr ⟨rfl, rfl⟩) h1 h2 hc hdc⟩
  · exact .inl hk
noncomputable def rf_ret1 : RfF2 := fun h ve u c i _ _ _ st r K sl => match st with
  | .int x :: _ => match rf_mi ve c i with
    | some (some ty) => rf_v (narrow ty (.int x)) fun v => rf_back (fun s => v :: s) h u r K sl
    | _ => sl ()
  | _ => sl ()
theorem rf_ret1_ok : rf_Sd2 .ireturn rf_ret1 := by
  intro h ve w dr u c i pc len lo st r K sl hl hI hk
  unfold rf_ret1 at hk
  split at hk
  · rename_i x t
    split at hk
    · rename_i ty hm
      rw [rf_v_eq] at hk
      obtain ⟨meth, h1, h2, h3⟩ := rf_mi_of hm
      rcases rf_back_of hk with hk | ⟨c2, i2, pc2, lo2, st2, r2, ig, len2, rfl, hd, hk⟩
      · exact .inl hk
      · obtain ⟨cg, hc, -, hdc⟩ := rf_dc_of hI hd
        exact .inr ⟨_, _, _, _, _, _, _, _, hk, rf_last_tl hl, rf_finr (v := some (narrow ty (.int x))) (st' := t) (Op.ireturn.wp_sem.mpr ⟨rf_F c i pc lo (.int x :: t), rfl, x, t, rfl, meth, h1, ty, h3, rfl, rfl⟩) h1 h2 hc hdc⟩
    · exact .inl hk
  · exact .inl hk
noncomputable def rf_ret2 : RfF2 := fun h ve u c i _ _ _ st r K sl => match st with
  | .ref a :: _ => match rf_mi ve c i with
    | some (some ty) => match ty.isReference with
      | true => rf_back (fun s => .ref a :: s) h u r K sl
      | false => sl ()
    | _ => sl ()
  | _ => sl ()
theorem rf_ret2_ok : rf_Sd2 .areturn rf_ret2 := by
  intro h ve w dr u c i pc len lo st r K sl hl hI hk
  unfold rf_ret2 at hk
  split at hk
  · rename_i a t
    split at hk
    · rename_i ty hm
      split at hk
      · rename_i hty
        obtain ⟨meth, h1, h2, h3⟩ := rf_mi_of hm
        rcases rf_back_of hk with hk | ⟨c2, i2, pc2, lo2, st2, r2, ig, len2, rfl, hd, hk⟩
        · exact .inl hk
        · obtain ⟨cg, hc, -, hdc⟩ := rf_dc_of hI hd
          exact .inr ⟨_, _, _, _, _, _, _, _, hk, rf_last_tl hl, rf_finr (v := some (.ref a)) (st' := t) (Op.areturn.wp_sem.mpr ⟨rf_F c i pc lo (.ref a :: t), rfl, _, t, rfl, rfl, meth, h1, ⟨ty, h3, hty⟩, rfl, rfl⟩) h1 h2 hc hdc⟩
      · exact .inl hk
    · exact .inl hk
  · exact .inl hk
noncomputable def rf_al (l : List Value) : List Slot := List.rec (motive := fun _ => List Slot) [] (fun v _ ih => match decide (v.category = 2) with
  | true => .val v :: .second :: ih
  | false => .val v :: ih) l
theorem rf_al_cons (v : Value) (l : List Value) : rf_al (v :: l) = if v.category = 2 then .val v :: .second :: rf_al l else .val v :: rf_al l := by
  show (match decide (v.category = 2) with
    | true => Slot.val v :: Slot.second :: rf_al l
    | false => Slot.val v :: rf_al l) = _
  by_cases hv : v.category = 2
  · rw [decide_eq_true hv, if_pos hv]
  · rw [decide_eq_false hv, if_neg hv]
theorem rf_fold (l : List Value) : ∀ acc : Array Slot, (List.foldl (fun (acc : Array Slot) (v : Value) => if v.category = 2 then (acc.push (.val v)).push .second else acc.push (.val v)) acc l).toList = acc.toList ++ rf_al l := by
  induction l with
  | nil => intro acc; exact (List.append_nil _).symm
  | cons v l ih =>
    intro acc
    rw [List.foldl_cons, ih, rf_al_cons]
    by_cases hv : v.category = 2
    · rw [if_pos hv, if_pos hv]; simp
    · rw [if_neg hv, if_neg hv]; simp
theorem rf_atl (l : List Value) (n : Nat) : argsToLocals l.toArray n = ⟨rf_al l ++ List.replicate (n - (rf_al l).length) .unset⟩ := by
  have h := rf_fold l #[]
  apply Array.ext'
  unfold argsToLocals
  rw [List.foldl_toArray]
  generalize List.foldl _ _ l = A at h ⊢
  simp only [List.nil_append] at h
  simp [Array.size, h]
theorem rf_fini {t : Sem Unit} {h : List Cell} {ve : Vm} {w : World} {dr : Drawn} {u c i pc len mc mi : Nat} {lo : List Slot} {st st' args : List Value} {r : List Frame} {meth : Method} {cd : Code}
    (hw : wp t (fun _ _ _ _ => False) (fun q _ s' => q = .invoke ⟨mc, mi⟩ args.toArray ∧ s' = rf_mk h ve w dr u c i pc lo st' r) start1.e0 false [] (rf_mk h ve w dr u c i pc lo st r))
    (hm : ve.method? ⟨mc, mi⟩ = some meth) (hc : meth.code = some cd) (hl : meth.locks = false)
    (hroom : start1.e0.platform.stackFull ⟨.java (rf_F c i pc lo st') :: r, .runnable, none, false, false, .other, none, .null, 0⟩ (.java (rf_F c i pc lo st') :: r) cd.maxLocals = false) :
    (afterInstr start1.e0 len (t.run start1.e0 (rf_mk h ve w dr u c i pc lo st r))).1 = rf_mk h ve w dr u mc mi 0 (rf_al args ++ List.replicate (cd.maxLocals - (rf_al args).length) .unset) [] (.java (rf_F c i pc lo st') :: r) := by
  obtain ⟨acts, ha⟩ := rf_wct hw
  rw [ha]
  have h1 := (doInvoke_java (e := start1.e0) (s := rf_mk h ve w dr u c i pc lo st' r) (acts := acts) (m := ⟨mc, mi⟩) (args := args.toArray) hm hc hl hroom).1
  rw [rf_atl] at h1
  exact h1
noncomputable def rf_split (n : Nat) : List Value → List Value → (List Value → List Value → Bool) → (Unit → Bool) → Bool :=
  Nat.rec (motive := fun _ => List Value → List Value → (List Value → List Value → Bool) → (Unit → Bool) → Bool) (fun acc st k _ => k acc st) (fun _ ih acc st k sl => match st with
    | v :: t => ih (v :: acc) t k sl
    | [] => sl ()) n
theorem rf_split_of : ∀ (n : Nat) (acc st : List Value) (k : List Value → List Value → Bool) (sl : Unit → Bool), rf_split n acc st k sl = true →
    sl () = true ∨ ∃ args rest, st = args.reverse ++ rest ∧ args.length = n ∧ k (args ++ acc) rest = true := by
  intro n
  induction n with
  | zero => intro acc st k sl h; exact .inr ⟨[], st, rfl, rfl, h⟩
  | succ n ih =>
    intro acc st k sl h
    cases st with
    | nil => exact .inl h
    | cons v t =>
      rcases ih (v :: acc) t k sl h with h1 | ⟨args, rest, h1, h2, h3⟩
      · exact .inl h1
      · refine .inr ⟨args ++ [v], rest, by rw [h1]; simp, by simp [h2], ?_⟩
        rw [List.append_assoc]
        exact h3
noncomputable def rf_ent (h : List Cell) (u c i pc : Nat) (lo : List Slot) (rest : List Value) (r : List Frame) (mc mi ml : Nat) (args : List Value) (K : RfK2) (sl : Unit → Bool) : Bool :=
  match start1.e0.platform.stackFull ⟨.java ⟨⟨c, i⟩, pc, ⟨lo⟩, rest, none, [], 0⟩ :: r, .runnable, none, false, false, .other, none, .null, 0⟩ (.java ⟨⟨c, i⟩, pc, ⟨lo⟩, rest, none, [], 0⟩ :: r) ml with
  | false => rf_ss (rf_al args ++ List.replicate (ml - (rf_al args).length) .unset) fun lo' => K h u mc mi 0 lo' [] (.java ⟨⟨c, i⟩, pc, ⟨lo⟩, rest, none, [], 0⟩ :: r)
  | true => sl ()
theorem rf_last_cons {f : JFrame} {r : List Frame} (h : rf_last r = true) : rf_last (.java f :: r) = true := by
  cases r with
  | nil => cases h
  | cons b r => exact h
/-- the parts of a reference to a method as invokestatic's entry looks at them -/
def rf_plr (ve : Vm) (c ix : Nat) : Bool := match ((memberRef c ix).ask start1.e0.toSetting ve).1 with
  | .ok (ci, name, _, _) => match ve.classes[c]? with
    | some kc => match kc.resolved[ci]? with
      | some (some (.cls c')) => match ve.classes[c']? with
        | some k' => !(k'.methods.any fun x => x.name == name && !x.isStatic && signaturePolymorphic k' x)
        | none => false
      | _ => false
    | none => false
  | _ => false
theorem rf_plr_of {s : State} {c ix : Nat} (h : rf_plr s.vm c ix = true) : Op.plainRef s start1.e0 c ix := by
  unfold rf_plr at h
  split at h
  · rename_i ci name desc b hq
    split at h
    · rename_i kc hkc
      split at h
      · rename_i c' hr
        split at h
        · rename_i k' hk'
          exact ⟨ci, name, desc, b, c', k', hq, ⟨kc, hkc, hr⟩, hk', by simpa using h⟩
        · cases h
      · cases h
    · cases h
  · cases h
def rf_ss1 (ve : Vm) (c ix : Nat) : Option (Nat × Nat × Nat × Nat) := match ve.classes[c]? with
  | some kc => match kc.resolved[ix]? with
    | some (some (.method ⟨mc, mi⟩)) => match ve.classes[mc]? with
      | some k => match ve.method? ⟨mc, mi⟩ with
        | some meth => match meth.code with
          | some cd => match rf_plr ve c ix && (!signaturePolymorphic k meth && (meth.isStatic && (decide (k.init = .initialized) && !meth.locks))) with
            | true => some (mc, mi, meth.sig.parameters.length, cd.maxLocals)
            | false => none
          | none => none
        | none => none
      | none => none
    | _ => none
  | none => none
noncomputable def rf_ivs (ix : Nat) : RfF2 := fun h ve u c i pc _ lo st r K sl => match rf_ss1 ve c ix with
  | some (mc, mi, np, ml) => rf_split np [] st (fun args rest => rf_ent h u c i pc lo rest r mc mi ml args K sl) sl
  | none => sl ()
theorem rf_ivs_ok (ix : Nat) : rf_Sd2 (.invokestatic ix) (rf_ivs ix) := by
  intro h ve w dr u c i pc len lo st r K sl hl hI hk
  unfold rf_ivs at hk
  split at hk
  · rename_i mc mi np ml hs
    rcases rf_split_of _ _ _ _ _ hk with hz | ⟨args, rest, hst, hlen, hz⟩
    · exact .inl hz
    · rw [List.append_nil] at hz
      unfold rf_ent at hz
      split at hz
      · rename_i hroom
        rw [rf_ss_eq] at hz
        unfold rf_ss1 at hs
        split at hs
        · rename_i kc hkc
          split at hs
          · rename_i mc' mi' hr
            split at hs
            · rename_i k hk1
              split at hs
              · rename_i meth hm
                split at hs
                · rename_i cd hcd
                  split at hs
                  · rename_i hb
                    simp only [Option.some.injEq, Prod.mk.injEq] at hs
                    obtain ⟨rfl, rfl, rfl, rfl⟩ := hs
                    simp only [Bool.and_eq_true, Bool.not_eq_true', decide_eq_true_eq] at hb
                    obtain ⟨b1, b2, b3, b4, b5⟩ := hb
                    refine .inr ⟨_, _, _, _, _, _, _, _, hz, rf_last_cons hl, rf_fini (st' := rest) ?_ hm hcd b5 hroom⟩
                    exact (Op.invokestatic.wp_ready (s := rf_mk h ve w dr u c i pc lo st r) (f := rf_F c i pc lo st) (m := ⟨mc', mi'⟩) (args := args) (rest := rest) rfl
                      (rf_plr_of (s := rf_mk h ve w dr u c i pc lo st r) b1) ⟨kc, hkc, hr⟩ hk1 hm b2 b3 b4 hlen hst).mpr ⟨rfl, rfl⟩
                  · cases hs
                · cases hs
              · cases hs
            · cases hs
          · cases hs
        · cases hs
      · exact .inl hz
  · exact .inl hk
def rf_nam (ve : Vm) (c ix : Nat) : Bool := match ve.classes[c]? with
  | some kc => match kc.cf with
    | some cf => match cf.constantPool[ix]? with
      | some (.methodref ci _) => match kc.resolved[ci]? with
        | some (some (.cls c')) => match ve.classes[c']? with
          | some k' => !k'.isInterface
          | none => false
        | _ => false
      | _ => false
    | none => false
  | none => false
theorem rf_nam_of {s : State} {c ix : Nat} (h : rf_nam s.vm c ix = true) : Op.namesAClass s c ix := by
  unfold rf_nam at h
  split at h
  · rename_i kc hkc
    split at h
    · rename_i cf hcf
      split at h
      · rename_i ci n hp
        split at h
        · rename_i c' hr
          split at h
          · rename_i k' hk'
            exact ⟨kc, cf, ci, n, c', k', hkc, hcf, hp, ⟨kc, hkc, hr⟩, hk', by simpa using h⟩
          · cases h
        · cases h
      · cases h
    · cases h
  · cases h
def rf_vnp (ve : Vm) (c ix : Nat) : Option Nat := match ve.classes[c]? with
  | some kc => match kc.resolved[ix]? with
    | some (some (.method r0)) => match ve.method? r0 with
      | some rm => some rm.sig.parameters.length
      | none => none
    | _ => none
  | none => none
def rf_vs1 (ve : Vm) (c ix cl : Nat) : Option (Nat × Nat × Nat × Nat) := match ve.classes[c]? with
  | some kc => match kc.resolved[ix]? with
    | some (some (.method r0)) => match ve.classes[r0.cls]? with
      | some k => match ve.method? r0 with
        | some rm => match selectMethod start1.e0.platform ve cl r0 with
          | .method ⟨mc, mi⟩ => match ve.method? ⟨mc, mi⟩ with
            | some meth => match ve.classes[mc]? with
              | some kq => match meth.code with
                | some cd => match rf_nam ve c ix && (!signaturePolymorphic k rm && (!rm.isStatic && (!meth.isAbstract && (!kq.isInterface && !meth.locks)))) with
                  | true => some (mc, mi, rm.sig.parameters.length, cd.maxLocals)
                  | false => none
                | none => none
              | none => none
            | none => none
          | _ => none
        | none => none
      | none => none
    | _ => none
  | none => none
noncomputable def rf_ivv (ix : Nat) : RfF2 := fun h ve u c i pc _ lo st r K sl => match rf_vnp ve c ix with
  | some n => rf_split n [] st (fun args rest => match rest with
    | .ref a :: t => match rf_at a h with
      | some ⟨cl, _, _, _, .none⟩ => match rf_vs1 ve c ix cl with
        | some (mc, mi, np, ml) => match Nat.beq n np with
          | true => rf_ent h u c i pc lo t r mc mi ml (.ref a :: args) K sl
          | false => sl ()
        | none => sl ()
      | _ => sl ()
    | _ => sl ()) sl
  | none => sl ()
theorem rf_ivv_ok (ix : Nat) : rf_Sd2 (.invokevirtual ix) (rf_ivv ix) := by
  intro h ve w dr u c i pc len lo st r K sl hl hI hk
  unfold rf_ivv at hk
  split at hk
  · rename_i n hn
    rcases rf_split_of _ _ _ _ _ hk with hz | ⟨args, rest, hst, hlen, hz⟩
    · exact .inl hz
    · rw [List.append_nil] at hz
      split at hz
      · rename_i a t
        split at hz
        · rename_i cl sls mo ha hc
          split at hz
          · rename_i mc mi np ml hs
            split at hz
            · rename_i hnp
              have hnp' := Nat.eq_of_beq_eq_true hnp
              subst hnp'
              unfold rf_ent at hz
              split at hz
              · rename_i hroom
                rw [rf_ss_eq] at hz
                rw [rf_at_eq, ← rf_arr] at hc
                unfold rf_vs1 at hs
                split at hs
                · rename_i kc hkc
                  split at hs
                  · rename_i r0 hr
                    split at hs
                    · rename_i k hk1
                      split at hs
                      · rename_i rm hrm
                        split at hs
                        · rename_i mc' mi' hsel
                          split at hs
                          · rename_i meth hm
                            split at hs
                            · rename_i kq hmk
                              split at hs
                              · rename_i cd hcd
                                split at hs
                                · rename_i hb
                                  simp only [Option.some.injEq, Prod.mk.injEq] at hs
                                  obtain ⟨rfl, rfl, h3, rfl⟩ := hs
                                  simp only [Bool.and_eq_true, Bool.not_eq_true'] at hb
                                  obtain ⟨b1, b2, b3, b4, b5, b6⟩ := hb
                                  refine .inr ⟨_, _, _, _, _, _, _, _, hz, rf_last_cons hl, rf_fini (st' := t) ?_ hm hcd b6 hroom⟩
                                  exact (Op.invokevirtual.wp_ready (s := rf_mk h ve w dr u c i pc lo st r) (f := rf_F c i pc lo st) (r := r0) (m := ⟨mc', mi'⟩) (args := args) (rest := t) rfl
                                    (rf_nam_of (s := rf_mk h ve w dr u c i pc lo st r) b1) ⟨kc, hkc, hr⟩ hk1 hrm b2 b3 (hlen.trans h3.symm) hst hc (by intro q hq; cases hq) hsel hm b4 hmk b5).mpr ⟨rfl, rfl⟩
                                · cases hs
                              · cases hs
                            · cases hs
                          · cases hs
                        · cases hs
                      · cases hs
                    · cases hs
                  · cases hs
                · cases hs
              · exact .inl hz
            · exact .inl hz
          · exact .inl hz
        · exact .inl hz
      · exact .inl hz
  · exact .inl hk
def rf_is1 (ve : Vm) (c ix : Nat) : Option (Nat × Nat × Nat × Nat) := match ve.classes[c]? with
  | some kc => match kc.cf with
    | some cf => match cf.constantPool[ix]? with
      | some (.methodref ci _) => match kc.resolved[ci]? with
        | some (some (.cls c')) => match kc.resolved[ix]? with
          | some (some (.method ⟨mc, mi⟩)) => match ve.classes[mc]? with
            | some _ => match ve.method? ⟨mc, mi⟩ with
              | some meth => match meth.code with
                | some cd => match lookupSpecial ve mc "<init>" meth.desc with
                  | .method m' => match decide (m' = ⟨mc, mi⟩) && (decide (c' = mc) && (decide (meth.name = "<init>") && (!meth.isStatic && (!meth.isAbstract && !meth.locks)))) with
                    | true => some (mc, mi, meth.sig.parameters.length, cd.maxLocals)
                    | false => none
                  | _ => none
                | none => none
              | none => none
            | none => none
          | _ => none
        | _ => none
      | _ => none
    | none => none
  | none => none
noncomputable def rf_ivi (ix : Nat) : RfF2 := fun h ve u c i pc _ lo st r K sl => match rf_is1 ve c ix with
  | some (mc, mi, np, ml) => rf_split np [] st (fun args rest => match rest with
    | .ref a :: t => rf_ent h u c i pc lo t r mc mi ml (.ref a :: args) K sl
    | _ => sl ()) sl
  | none => sl ()
theorem rf_ivi_ok (ix : Nat) : rf_Sd2 (.invokespecial ix) (rf_ivi ix) := by
  intro h ve w dr u c i pc len lo st r K sl hl hI hk
  unfold rf_ivi at hk
  split at hk
  · rename_i mc mi np ml hs
    rcases rf_split_of _ _ _ _ _ hk with hz | ⟨args, rest, hst, hlen, hz⟩
    · exact .inl hz
    · rw [List.append_nil] at hz
      split at hz
      · rename_i a t
        unfold rf_ent at hz
        split at hz
        · rename_i hroom
          rw [rf_ss_eq] at hz
          unfold rf_is1 at hs
          split at hs
          · rename_i kc hkc
            split at hs
            · rename_i cf hcf
              split at hs
              · rename_i ci n hp
                split at hs
                · rename_i c' hrc
                  split at hs
                  · rename_i mc' mi' hr
                    split at hs
                    · rename_i k hk1
                      split at hs
                      · rename_i meth hm
                        split at hs
                        · rename_i cd hcd
                          split at hs
                          · rename_i m' hfound
                            split at hs
                            · rename_i hb
                              simp only [Option.some.injEq, Prod.mk.injEq] at hs
                              obtain ⟨rfl, rfl, rfl, rfl⟩ := hs
                              simp only [Bool.and_eq_true, Bool.not_eq_true', decide_eq_true_eq] at hb
                              obtain ⟨b1, b2, b3, b4, b5, b6⟩ := hb
                              subst b1
                              subst b2
                              refine .inr ⟨_, _, _, _, _, _, _, _, hz, rf_last_cons hl, rf_fini (st' := t) ?_ hm hcd b6 hroom⟩
                              exact (Op.invokespecial.wp_init (s := rf_mk h ve w dr u c i pc lo st r) (f := rf_F c i pc lo st) (args := args) (rest := t) rfl
                                ⟨kc, cf, ci, n, hkc, hcf, .inl hp, ⟨kc, hkc, hrc⟩⟩ ⟨kc, hkc, hr⟩ hk1 hm b3 b4 b5 hfound hlen hst).mpr ⟨rfl, rfl⟩
                            · cases hs
                          · cases hs
                        · cases hs
                      · cases hs
                    · cases hs
                  · cases hs
                · cases hs
              · cases hs
            · cases hs
          · cases hs
        · exact .inl hz
      · exact .inl hz
  · exact .inl hk
noncomputable def rf_opC (ins : Instr) : Option RfF2 := match ins with
  | .return_ => some rf_ret0
  | .ireturn => some rf_ret1
  | .areturn => some rf_ret2
  | .invokestatic ix => some (rf_ivs ix)
  | .invokevirtual ix => some (rf_ivv ix)
  | .invokespecial ix => some (rf_ivi ix)
  | _ => none
theorem rf_opC_ok {ins : Instr} {f : RfF2} (h : rf_opC ins = some f) : rf_Sd2 ins f := by
  unfold rf_opC at h
  split at h
  · cases h; exact rf_ret0_ok
  · cases h; exact rf_ret1_ok
  · cases h; exact rf_ret2_ok
  · cases h; exact rf_ivs_ok _
  · cases h; exact rf_ivv_ok _
  · cases h; exact rf_ivi_ok _
  · cases h
end
section
/-! the run: instruction by instruction, by the table; what is not frequent goes the machine's own way -/
abbrev RfR := List Cell → Vm → World → Drawn → Nat → Nat → Nat → Nat → List Slot → List Value → List Frame → Bool
/-- on with a state whose top is a bytecode frame -/
noncomputable def rf_in (s : State) (k : RfR) (other : Unit → Bool) : Bool := match s with
  | ⟨⟨h⟩, ve, ⟨[⟨fr, .runnable, none, false, false, .other, none, .null, 0⟩]⟩, 0, w, dr, 0, u, .running⟩ => match fr with
    | .java ⟨⟨c, i⟩, pc, ⟨lo⟩, st, none, [], 0⟩ :: r => match rf_last r with
      | true => k h ve w dr u c i pc lo st r
      | false => false
    | _ => other ()
  | _ => false
noncomputable def rf_slow (dp : Nat) (s : State) (k : RfR) : Bool :=
  rf_st dp s fun s1 => rf_in s1 k fun _ => match rf_end s1 with
    | true => true
    | false => match rf_go s1 with
      | true => rf_st 2 (stepThread start1.p0.tables start1.e0 s1).1 fun s2 => rf_in s2 k fun _ => false
      | false => false
noncomputable def rf_R (z : Bool) (n : Nat) : RfR :=
  Nat.rec (motive := fun _ => RfR) (fun _ _ _ _ _ _ _ _ _ _ _ => z) (fun _ ih h ve w dr u c i pc lo st r => match rf_dc c i pc with
    | some (ins, len) => match rf_opA ins with
      | some f => f h ve u c pc len lo st (fun h' u' pc' lo' st' => ih h' ve w dr u' c i pc' lo' st' r) fun _ =>
          rf_slow (rf_dp ins) (afterInstr start1.e0 len ((start1.p0.tables.exec ins).run start1.e0 (rf_mk h ve w dr u c i pc lo st r))).1 ih
      | none => match rf_opC ins with
        | some g => g h ve u c i pc len lo st r (fun h' u' c' i' pc' lo' st' r' => ih h' ve w dr u' c' i' pc' lo' st' r') fun _ => rf_slow (rf_dp ins) (afterInstr start1.e0 len ((start1.p0.tables.exec ins).run start1.e0 (rf_mk h ve w dr u c i pc lo st r))).1 ih
        | none => rf_slow (rf_dp ins) (afterInstr start1.e0 len ((start1.p0.tables.exec ins).run start1.e0 (rf_mk h ve w dr u c i pc lo st r))).1 ih
    | none => rf_slow 1 (stepThread start1.p0.tables start1.e0 (rf_mk h ve w dr u c i pc lo st r)).1 ih) n
noncomputable def rf_start (z : Bool) (n : Nat) (s : State) : Bool := match rf_go s with
  | true => rf_st 0 (stepThread start1.p0.tables start1.e0 s).1 fun s1 => rf_in s1 (rf_R z n) fun _ => false
  | false => false
/-- from s on the call ends, with the answer 0 -/
def rf_G (s : State) : Prop := ∃ k, (∀ j, j < k → Within (stepsAlone start1.p0.tables start1.e0 j s) Lib.HandBits.below0) ∧ (stepsAlone start1.p0.tables start1.e0 k s).status = .running ∧
  Ended (stepsAlone start1.p0.tables start1.e0 k s) Lib.HandBits.below0 (.returned (some (.int 0)))
theorem rf_G_step {s : State} (hg : rf_go s = true) (h : rf_G (stepThread start1.p0.tables start1.e0 s).1) : rf_G s := by
  obtain ⟨hw, h1, h2, h3⟩ := rf_go_of hg
  obtain ⟨k, hk, hs, he⟩ := h
  have hq : ∀ j, stepsAlone start1.p0.tables start1.e0 (j + 1) s = stepsAlone start1.p0.tables start1.e0 j (stepThread start1.p0.tables start1.e0 s).1 := by
    intro j
    rw [stepsAlone, h1, h2, h3]
  refine ⟨k + 1, ?_, by rw [hq]; exact hs, by rw [hq]; exact he⟩
  intro j hj
  cases j with
  | zero => exact hw
  | succ i => rw [hq]; exact hk i (by omega)
theorem rf_G_end {s : State} (h : rf_end s = true) : rf_G s := by
  obtain ⟨hs, he⟩ := rf_end_of h
  exact ⟨0, fun j hj => absurd hj (by omega), hs, he⟩
def rf_Gk (k : RfR) : Prop := ∀ (h : List Cell) (ve : Vm) (w : World) (dr : Drawn) (u c i pc : Nat) (lo : List Slot) (st : List Value) (r : List Frame),
  rf_last r = true → rf_Inv (rf_mk h ve w dr u c i pc lo st r) → k h ve w dr u c i pc lo st r = true → rf_G (rf_mk h ve w dr u c i pc lo st r)
theorem rf_in_of {s : State} {k : RfR} {other : Unit → Bool} (hk : rf_Gk k) (hI : rf_Inv s) (h : rf_in s k other = true) : rf_G s ∨ other () = true := by
  unfold rf_in at h
  split at h
  · split at h
    · split at h
      · rename_i hl
        exact .inl (hk _ _ _ _ _ _ _ _ _ _ _ hl hI h)
      · cases h
    · exact .inr h
  · cases h
theorem rf_slow_of {dp : Nat} {s : State} {k : RfR} (hk : rf_Gk k) (hI : rf_Inv s) (h : rf_slow dp s k = true) : rf_G s := by
  unfold rf_slow at h
  have h1 := rf_st_of h
  rcases rf_in_of hk hI h1 with h2 | h2
  · exact h2
  · split at h2
    · rename_i he
      exact rf_G_end he
    · split at h2
      · rename_i hg
        have h3 := rf_st_of h2
        rcases rf_in_of hk (rf_Inv_step hI) h3 with h4 | h4
        · exact rf_G_step hg h4
        · cases h4
      · cases h2
theorem rf_mk_go {h : List Cell} {ve : Vm} {w : World} {dr : Drawn} {u c i pc : Nat} {lo : List Slot} {st : List Value} {r : List Frame} (hl : rf_last r = true) : rf_go (rf_mk h ve w dr u c i pc lo st r) = true := hl
theorem rf_tab {h : List Cell} {ve : Vm} {w : World} {dr : Drawn} {u c i pc : Nat} {lo : List Slot} {st : List Value} {r : List Frame} {ins : Instr} {len : Nat} (hI : rf_Inv (rf_mk h ve w dr u c i pc lo st r))
    (hd : rf_dc c i pc = some (ins, len)) : (afterInstr start1.e0 len ((start1.p0.tables.exec ins).run start1.e0 (rf_mk h ve w dr u c i pc lo st r))).1 = (stepThread start1.p0.tables start1.e0 (rf_mk h ve w dr u c i pc lo st r)).1 := by
  rw [← rf_step_eq hI]
  have hf : (rf_mk h ve w dr u c i pc lo st r).frames = .java ⟨⟨c, i⟩, pc, ⟨lo⟩, st, none, [], 0⟩ :: r := rfl
  unfold rf_step
  rw [hf]
  show _ = match rf_dc c i pc with
    | some (i', len') => (afterInstr start1.e0 len' ((start1.p0.tables.exec i').run start1.e0 (rf_mk h ve w dr u c i pc lo st r))).1
    | none => (stepThread start1.p0.tables start1.e0 (rf_mk h ve w dr u c i pc lo st r)).1
  rw [hd]
theorem rf_R_of : ∀ n, rf_Gk (rf_R false n) := by
  intro n
  induction n with
  | zero => intro h ve w dr u c i pc lo st r _ _ hk; cases hk
  | succ n ih =>
    intro h ve w dr u c i pc lo st r hl hI hk
    refine rf_G_step (rf_mk_go hl) ?_
    have hk' : (match rf_dc c i pc with
      | some (ins, len) => match rf_opA ins with
        | some f => f h ve u c pc len lo st (fun h' u' pc' lo' st' => rf_R false n h' ve w dr u' c i pc' lo' st' r) fun _ =>
            rf_slow (rf_dp ins) (afterInstr start1.e0 len ((start1.p0.tables.exec ins).run start1.e0 (rf_mk h ve w dr u c i pc lo st r))).1 (rf_R false n)
        | none => match rf_opC ins with
          | some g => g h ve u c i pc len lo st r (fun h' u' c' i' pc' lo' st' r' => rf_R false n h' ve w dr u' c' i' pc' lo' st' r') fun _ => rf_slow (rf_dp ins) (afterInstr start1.e0 len ((start1.p0.tables.exec ins).run start1.e0 (rf_mk h ve w dr u c i pc lo st r))).1 (rf_R false n)
          | none => rf_slow (rf_dp ins) (afterInstr start1.e0 len ((start1.p0.tables.exec ins).run start1.e0 (rf_mk h ve w dr u c i pc lo st r))).1 (rf_R false n)
      | none => rf_slow 1 (stepThread start1.p0.tables start1.e0 (rf_mk h ve w dr u c i pc lo st r)).1 (rf_R false n)) = true := hk
    have hI' := rf_Inv_step hI
    split at hk'
    · rename_i ins len hd
      have ht := rf_tab hI hd
      split at hk'
      · rename_i f hf
        rcases rf_opA_ok hf h ve w dr u c i pc len lo st r _ _ hk' with h1 | ⟨h', u', pc', lo', st', h1, h2⟩
        · rw [ht] at h1
          exact rf_slow_of ih hI' h1
        · rw [ht] at h2
          rw [h2]
          rw [h2] at hI'
          exact ih _ _ _ _ _ _ _ _ _ _ _ hl hI' h1
      · split at hk'
        · rename_i g hg
          rcases rf_opC_ok hg h ve w dr u c i pc len lo st r _ _ hl hI hk' with h1 | ⟨h', u', c', i', pc', lo', st', r', h1, h2, h3⟩
          · rw [ht] at h1
            exact rf_slow_of ih hI' h1
          · rw [ht] at h3
            rw [h3]
            rw [h3] at hI'
            exact ih _ _ _ _ _ _ _ _ _ _ _ h2 hI' h1
        · rw [ht] at hk'
          exact rf_slow_of ih hI' hk'
    · exact rf_slow_of ih hI' hk'
theorem rf_start_of {n : Nat} {s : State} (hI : rf_Inv s) (h : rf_start false n s = true) : rf_G s := by
  unfold rf_start at h
  split at h
  · rename_i hg
    rcases rf_in_of (rf_R_of n) (rf_Inv_step hI) (rf_st_of h) with h1 | h1
    · exact rf_G_step hg h1
    · cases h1
  · cases h
end
section
/-! the start at the script: all premises hold there -/
/-- words that look at the tables of classes alone -/
def rf_vo : Jvm.Cond → Bool
  | .arrayClass .. => true
  | .arrayOver .. => true
  | .castable .. => true
  | .classLink .. => true
  | .code .. => true
  | .codeSync .. => true
  | .codeWith .. => true
  | .constantLong .. => true
  | .declares .. => true
  | .fieldLink .. => true
  | .fieldLinkNest .. => true
  | .initialized .. => true
  | .instanceMethod .. => true
  | .instantiable .. => true
  | .lays .. => true
  | .laysFinal .. => true
  | .methodLink .. => true
  | .methodLinkNest .. => true
  | .native .. => true
  | .privateMethod .. => true
  | .sameMethod .. => true
  | .selects .. => true
  | .soleField .. => true
  | .static .. => true
  | .superclass .. => true
  | _ => false
theorem rf_vo_of {c : Jvm.Cond} {a : Array Value} {s : State} {hh : Heap} {u : Nat} (h : rf_vo c = true) (hb : c.before a s = true) : c.before a { s with heap := hh, slotsUsed := u } = true := by
  cases c <;> first | (cases h; done) | exact hb
set_option maxRecDepth 100000 in
theorem rf_oth : (tables_1.all fun c => rf_vo c || c.before start1.args0 (start1.aboutOf rf_sc)) = true := by decide +kernel
theorem rf_words : ∀ c ∈ (Cond.code x code maxLocals ret :: tables_1), c.before start1.args0 (start1.aboutOf rf_sc) = true := by
  intro c hc
  have hw := start1.words c hc
  rcases List.mem_cons.mp hc with h | h
  · subst h
    exact rf_vo_of (s := start1.about) (hh := (start1.aboutOf rf_sc).heap) (u := (start1.aboutOf rf_sc).slotsUsed) rfl hw
  · have ho := List.all_eq_true.mp rf_oth c h
    rw [Bool.or_eq_true] at ho
    rcases ho with ho | ho
    · exact rf_vo_of (s := start1.about) (hh := (start1.aboutOf rf_sc).heap) (u := (start1.aboutOf rf_sc).slotsUsed) ho hw
    · exact ho
set_option maxRecDepth 100000 in
theorem rf_atStart : AtStart classFile x code maxLocals ret World_1 tables_1 room_1 Calls_1 rest_1 Pre_1 launch0 start1.p0 start1.e0 (start1.aboutOf rf_sc) ⟨0, 0⟩ start1.args0 Lib.HandBits.below0 := by
  obtain ⟨h1, h2, h3, h4, h5, h6, -, -, -, -, h7, -, -⟩ := start1.atStart
  refine ⟨h1, h2, h3, h4, h5, h6, rfl, by decide +kernel, by decide +kernel, (Spec.applies_iff rfl).mpr ⟨rfl, rfl, rfl, by decide +kernel, by decide +kernel, by decide +kernel, ?_, atoms_intro rf_words⟩, h7, ?_, ?_⟩
  · exact launch0.hasRoom_least _ room_1 (by decide +kernel) (by decide +kernel) (by decide +kernel) (by decide +kernel) (by decide +kernel) (by decide +kernel)
  · show rest_1_c.before start1.args0 (start1.aboutOf rf_sc) = true
    decide +kernel
  · show (Cond.and given_1 narrow_1).before start1.args0 (start1.aboutOf rf_sc) = true
    decide +kernel
end
section
/-! so the claim is false -/
set_option maxRecDepth 100000 in
theorem rf_run0 : rf_start false 62500 (start1.aboutOf rf_sc) = true := by decide +kernel
theorem rf_not2 (tb : Tables) (e : Env) (a : Array Value) (s t : State) : ¬ Post_1_2 tb e a s (.returned (some (.int 0))) t := by
  intro h
  have h0 := h.1
  have hv : Jvm.D.postC limb_1_2 tb e a s (.returned (some (.int 0))) t = ((some (decide ((0 : Int32) = 1)) == some true) = true) := rfl
  rw [hv] at h0
  exact absurd h0 (by decide)
/-- at the script rf_sc the law comes back with the answer 0 -/
theorem rf_falls : Jvm.D.FallsFor flags0 classFile x code maxLocals ret World_1 tables_1 room_1 Calls_1 rest_1 Pre_1 Post_1_2 := by
  obtain ⟨n, h1, h2, h3⟩ := rf_start_of rf_I0 rf_run0
  exact ⟨launch0, start1.p0, start1.e0, start1.aboutOf rf_sc, ⟨0, 0⟩, start1.args0, Lib.HandBits.below0, rfl, rf_atStart, n, _, h1, h2, h3, rf_not2 _ _ _ _ _⟩
/-- THE REFUTATION: what is claimed is false -/
theorem rf_refuted : ¬ (Claimed_1_1 ∧ Claimed_1_2) := by
  rintro ⟨-, hA⟩
  obtain ⟨l, p, e, s, m, args, below, hfl, ⟨a1, a2, a3, a4, a5, a6, a7, a8, a9, a10, a11, a12, a13⟩, n, o, h1, -, h3, h4⟩ := rf_falls
  obtain ⟨k, q, g1, -, g3, g4⟩ := hA l hfl a1 a2 p e a3 a5 a6 s m args below a7 a8 a9 a10 ⟨a11, a12, a13⟩
  rcases Nat.lt_trichotomy n k with hl | hl | hl
  · exact absurd (g1 n hl) h3.not_within
  · subst hl
    cases h3.outcome_unique g3
    exact h4 g4
  · exact absurd (h1 k hl) g3.not_within
end
