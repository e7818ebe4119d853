/-! a run of the machine at one script that the kernel can follow: after each step the parts of the state that the next step looks at are brought to their plain form -/
def rf_n (n : Nat) (k : Nat → Bool) : Bool := match n with
  | 0 => k 0
  | m + 1 => k (m + 1)
theorem rf_n_eq (n : Nat) (k : Nat → Bool) : rf_n n k = k n := by cases n <;> rfl
def rf_i (v : Int32) (k : Int32 → Bool) : Bool := rf_n v.toBitVec.toNat fun n => k (Int32.ofBitVec (BitVec.ofNat 32 n))
theorem rf_i_eq (v : Int32) (k : Int32 → Bool) : rf_i v k = k v := by
  unfold rf_i
  rw [rf_n_eq, BitVec.ofNat_toNat, BitVec.setWidth_eq, Int32.ofBitVec_toBitVec]
def rf_l (v : Int64) (k : Int64 → Bool) : Bool := rf_n v.toBitVec.toNat fun n => k (Int64.ofBitVec (BitVec.ofNat 64 n))
theorem rf_l_eq (v : Int64) (k : Int64 → Bool) : rf_l v k = k v := by
  unfold rf_l
  rw [rf_n_eq, BitVec.ofNat_toNat, BitVec.setWidth_eq, Int64.ofBitVec_toBitVec]
def rf_v (v : Value) (k : Value → Bool) : Bool := match v with
  | .int i => rf_i i fun i' => k (.int i')
  | .long i => rf_l i fun i' => k (.long i')
  | .ref a => rf_n a fun a' => k (.ref a')
  | .null => k .null
  | w => k w
theorem rf_v_eq (v : Value) (k : Value → Bool) : rf_v v k = k v := by
  cases v <;> simp only [rf_v, rf_i_eq, rf_l_eq, rf_n_eq]
noncomputable def rf_vs (l : List Value) : (List Value → Bool) → Bool :=
  List.rec (motive := fun _ => (List Value → Bool) → Bool) (fun k => k []) (fun v _ ih k => rf_v v fun v' => ih fun l' => k (v' :: l')) l
theorem rf_vs_eq (l : List Value) : ∀ k, rf_vs l k = k l := by
  induction l with
  | nil => intro k; rfl
  | cons v l ih =>
    intro k
    show (rf_v v fun v' => rf_vs l fun l' => k (v' :: l')) = _
    rw [rf_v_eq, ih]
def rf_s (v : Slot) (k : Slot → Bool) : Bool := match v with
  | .val w => rf_v w fun w' => k (.val w')
  | .unset => k .unset
  | .second => k .second
theorem rf_s_eq (v : Slot) (k : Slot → Bool) : rf_s v k = k v := by
  cases v <;> simp only [rf_s, rf_v_eq]
noncomputable def rf_ss (l : List Slot) : (List Slot → Bool) → Bool :=
  List.rec (motive := fun _ => (List Slot → Bool) → Bool) (fun k => k []) (fun v _ ih k => rf_s v fun v' => ih fun l' => k (v' :: l')) l
theorem rf_ss_eq (l : List Slot) : ∀ k, rf_ss l k = k l := by
  induction l with
  | nil => intro k; rfl
  | cons v l ih =>
    intro k
    show (rf_s v fun v' => rf_ss l fun l' => k (v' :: l')) = _
    rw [rf_s_eq, ih]
def rf_mo (m : Monitor) (k : Monitor → Bool) : Bool := match m with
  | ⟨none, 0, []⟩ => k ⟨none, 0, []⟩
  | w => k w
theorem rf_mo_eq (m : Monitor) (k : Monitor → Bool) : rf_mo m k = k m := by
  unfold rf_mo; split <;> rfl
def rf_ha (m : Option Int32) (k : Option Int32 → Bool) : Bool := match m with
  | none => k none
  | w => k w
theorem rf_ha_eq (m : Option Int32) (k : Option Int32 → Bool) : rf_ha m k = k m := by
  unfold rf_ha; split <;> rfl
def rf_vd (m : VmData) (k : VmData → Bool) : Bool := match m with
  | .none => k .none
  | .statics c => rf_n c fun c' => k (.statics c')
  | w => k w
theorem rf_vd_eq (m : VmData) (k : VmData → Bool) : rf_vd m k = k m := by
  unfold rf_vd; split <;> first | rfl | exact rf_n_eq _ _
noncomputable def rf_c (c : Cell) (k : Cell → Bool) : Bool := match c with
  | ⟨cl, ⟨sl⟩, mo, ha, vd⟩ => rf_n cl fun cl' => rf_vs sl fun sl' => rf_mo mo fun mo' => rf_ha ha fun ha' => rf_vd vd fun vd' => k ⟨cl', ⟨sl'⟩, mo', ha', vd'⟩
theorem rf_c_eq (c : Cell) (k : Cell → Bool) : rf_c c k = k c := by
  obtain ⟨cl, ⟨sl⟩, mo, ha, vd⟩ := c
  simp only [rf_c, rf_n_eq, rf_vs_eq, rf_mo_eq, rf_ha_eq, rf_vd_eq]
noncomputable def rf_cs (l : List Cell) : (List Cell → Bool) → Bool :=
  List.rec (motive := fun _ => (List Cell → Bool) → Bool) (fun k => k []) (fun v _ ih k => rf_c v fun v' => ih fun l' => k (v' :: l')) l
theorem rf_cs_eq (l : List Cell) : ∀ k, rf_cs l k = k l := by
  induction l with
  | nil => intro k; rfl
  | cons v l ih =>
    intro k
    show (rf_c v fun v' => rf_cs l fun l' => k (v' :: l')) = _
    rw [rf_c_eq, ih]
def rf_c0 (c : Cell) (k : Cell → Bool) : Bool := match c with
  | ⟨cl, ⟨sl⟩, mo, ha, vd⟩ => rf_n cl fun cl' => rf_mo mo fun mo' => rf_ha ha fun ha' => rf_vd vd fun vd' => k ⟨cl', ⟨sl⟩, mo', ha', vd'⟩
theorem rf_c0_eq (c : Cell) (k : Cell → Bool) : rf_c0 c k = k c := by
  obtain ⟨cl, ⟨sl⟩, mo, ha, vd⟩ := c
  simp only [rf_c0, rf_n_eq, rf_mo_eq, rf_ha_eq, rf_vd_eq]
noncomputable def rf_cs0 (l : List Cell) : (List Cell → Bool) → Bool :=
  List.rec (motive := fun _ => (List Cell → Bool) → Bool) (fun k => k []) (fun v _ ih k => rf_c0 v fun v' => ih fun l' => k (v' :: l')) l
theorem rf_cs0_eq (l : List Cell) : ∀ k, rf_cs0 l k = k l := by
  induction l with
  | nil => intro k; rfl
  | cons v l ih =>
    intro k
    show (rf_c0 v fun v' => rf_cs0 l fun l' => k (v' :: l')) = _
    rw [rf_c0_eq, ih]
noncomputable def rf_f (f : Frame) (k : Frame → Bool) : Bool := match f with
  | .java ⟨⟨mc, mi⟩, pc, ⟨lo⟩, st, none, [], 0⟩ => rf_n mc fun mc' => rf_n mi fun mi' => rf_n pc fun pc' => rf_ss lo fun lo' => rf_vs st fun st' => k (.java ⟨⟨mc', mi'⟩, pc', ⟨lo'⟩, st', none, [], 0⟩)
  | g => k g
theorem rf_f_eq (f : Frame) (k : Frame → Bool) : rf_f f k = k f := by
  unfold rf_f; split
  · simp only [rf_n_eq, rf_ss_eq, rf_vs_eq]
  · rfl
noncomputable def rf_t (l : List Frame) (k : List Frame → Bool) : Bool := match l with
  | a :: b :: r => rf_f a fun a' => rf_f b fun b' => k (a' :: b' :: r)
  | r => k r
theorem rf_t_eq (l : List Frame) (k : List Frame → Bool) : rf_t l k = k l := by
  unfold rf_t; split
  · simp only [rf_f_eq]
  · rfl
noncomputable def rf_st (deep : Nat) (s : State) (k : State → Bool) : Bool := match s with
  | ⟨⟨h⟩, ve, ⟨[⟨fr, .runnable, none, false, false, .other, none, .null, 0⟩]⟩, 0, w, dr, 0, su, .running⟩ =>
    match ve with
    | ve'@(.mk ..) => match w with
      | w'@(.mk ..) => match dr with
        | dr'@(.mk ..) => rf_t fr fun fr' => rf_n su fun su' => match deep with
          | 0 => rf_cs h fun h' => k ⟨⟨h'⟩, ve', ⟨[⟨fr', .runnable, none, false, false, .other, none, .null, 0⟩]⟩, 0, w', dr', 0, su', .running⟩
          | 2 => rf_cs0 h fun h' => k ⟨⟨h'⟩, ve', ⟨[⟨fr', .runnable, none, false, false, .other, none, .null, 0⟩]⟩, 0, w', dr', 0, su', .running⟩
          | _ => k ⟨⟨h⟩, ve', ⟨[⟨fr', .runnable, none, false, false, .other, none, .null, 0⟩]⟩, 0, w', dr', 0, su', .running⟩
  | _ => false
theorem rf_st_of {deep : Nat} {s : State} {k : State → Bool} (h : rf_st deep s k = true) : k s = true := by
  unfold rf_st at h
  split at h
  · split at h
    split at h
    split at h
    rw [rf_t_eq, rf_n_eq] at h
    split at h
    · rw [rf_cs_eq] at h; exact h
    · rw [rf_cs0_eq] at h; exact h
    · exact h
  · cases h
def rf_bot : Frame → Bool
  | .native ⟨⟨0, 0⟩, ⟨[]⟩, 0, ⟨[]⟩, false, none, none, 0⟩ => true
  | _ => false
theorem rf_bot_of {f : Frame} (h : rf_bot f = true) : [f] = Lib.HandBits.below0 := by
  unfold rf_bot at h; split at h
  · rfl
  · cases h
def rf_last : List Frame → Bool
  | [] => false
  | [b] => rf_bot b
  | _ :: r => rf_last r
theorem rf_last_of : ∀ (l : List Frame), rf_last l = true → ∃ pre, l = pre ++ Lib.HandBits.below0
  | [], h => by simp [rf_last] at h
  | [b], h => ⟨[], by rw [List.nil_append]; exact rf_bot_of (by simpa [rf_last] using h)⟩
  | a :: b :: r, h => by
    obtain ⟨pre, hp⟩ := rf_last_of (b :: r) (by simpa [rf_last] using h)
    exact ⟨a :: pre, by rw [hp]; rfl⟩
/-- the law's call is still under way, and its thread goes on alone -/
def rf_go (s : State) : Bool := match s with
  | ⟨_, _, ⟨[⟨fr, .runnable, _, false, _, _, _, _, _⟩]⟩, 0, _, _, _, _, .running⟩ => match fr with
    | .throwing _ :: _ => false
    | _ :: r => rf_last r
    | [] => false
  | _ => false
theorem rf_go_of {s : State} (h : rf_go s = true) : Within s Lib.HandBits.below0 ∧ s.status = .running ∧ s.curStatus? = some .runnable ∧ s.alone = true := by
  unfold rf_go at h
  split at h
  · rename_i hp vm fr ob pe wo mo sc sb w dr nw su
    refine ⟨?_, rfl, rfl, rfl⟩
    split at h
    · cases h
    · rename_i a r hn
      obtain ⟨pre, hp⟩ := rf_last_of _ h
      refine ⟨a :: pre, ?_, by simp, ?_⟩
      · show a :: r = _
        rw [hp]; rfl
      · intro q hq
        injection hq with h1 h2
        exact hn _ h1
    · cases h
  · cases h
/-- it has come back, with the answer 0 -/
def rf_end (s : State) : Bool := match s with
  | ⟨_, _, ⟨[⟨[.native ⟨⟨0, 0⟩, ⟨[]⟩, 0, ⟨[]⟩, false, some (.returned (some (.int v))), none, 0⟩], _, _, _, _, _, _, _, _⟩]⟩, 0, _, _, _, _, .running⟩ => decide (v = 0)
  | _ => false
theorem rf_end_of {s : State} (h : rf_end s = true) : s.status = .running ∧ Ended s Lib.HandBits.below0 (.returned (some (.int 0))) := by
  unfold rf_end at h
  split at h
  · have hv := of_decide_eq_true h
    subst hv
    exact ⟨rfl, rfl⟩
  · cases h
