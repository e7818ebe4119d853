/-! the reference's state: its int fields by place, its arrays by place -/
abbrev nM : Type := (Nat → Int32) × (Nat → Nat → Int32)
def nm_ar : Nat → Nat := fun k => match k with | 2 => 180 | 12 => 260 | 13 => 260 | 14 => 260 | 16 => 100 | 17 => 100 | 18 => 100 | 19 => 100 | 20 => 100 | 26 => 400 | 27 => 400 | 28 => 400 | 30 => 400 | 31 => 400 | 32 => 400 | 40 => 200 | 41 => 8 | _ => 0
def nm_f (x : nM) (k : Nat) (v : Int32) : nM := (upd x.1 k v, x.2)
def nm_a (x : nM) (k : Nat) (i : Int32) (v : Int32) : nM := (x.1, fun j => if j = k then upd (x.2 k) i.toNatClampNeg v else x.2 j)
def nm_g (x : nM) (k : Nat) (i : Int32) : Int32 := x.2 k i.toNatClampNeg
def nm_v (ad : Nat → Nat) (x : nM) (k : Nat) : Value := if nm_ar k = 0 then .int (x.1 k) else .ref (ad k)
abbrev nm_al : List Nat := [2, 12, 13, 14, 16, 17, 18, 19, 20, 26, 27, 28, 30, 31, 32, 40, 41]
def nm_c (G : nn_G) (ad : Nat → Nat) (x : nM) (k : Nat) : Nat × va_E := (ad k, .inl (G.2 (if k = 2 then 1 else 0), nm_ar k, .inl (x.2 k)))
def nm_W (G : nn_G) (mo : Nat) (ad : Nat → Nat) (x : nM) : va_W := (mo, .inr (7, (List.range 42).map (nm_v ad x))) :: nm_al.map (nm_c G ad x)
theorem nm_fs {ad : Nat → Nat} {x : nM} {k : Nat} (hk : k < 42) : ((List.range 42).map (nm_v ad x))[k]? = some (nm_v ad x k) := by
  rw [List.getElem?_map, List.getElem?_range hk]; rfl
theorem nm_fset {ad : Nat → Nat} {x : nM} {k : Nat} {v : Int32} (h0 : nm_ar k = 0) : ((List.range 42).map (nm_v ad x)).set k (.int v) = (List.range 42).map (nm_v ad (nm_f x k v)) := by
  apply List.ext_getElem?
  intro j
  rw [List.getElem?_set]
  by_cases hj : j < 42
  · rw [nm_fs hj, nm_fs hj]
    by_cases e : k = j
    · subst e
      simp [hj, nm_v, h0, nm_f, upd]
    · rw [if_neg e]
      simp only [nm_v, nm_f, upd]
      rw [if_neg (show ¬ j = k from fun q => e q.symm)]
  · rw [List.getElem?_eq_none (by simp; omega), List.getElem?_eq_none (by simp; omega)]
    simp; omega
theorem nm_wf {G : nn_G} {mo : Nat} {ad : Nat → Nat} {x : nM} {k : Nat} {v : Int32} (h0 : nm_ar k = 0) : (nm_W G mo ad x).set 0 (mo, .inr (7, ((List.range 42).map (nm_v ad x)).set k (.int v))) = nm_W G mo ad (nm_f x k v) := by
  rw [nm_fset h0]; rfl
theorem nm_wc {G : nn_G} {mo : Nat} {ad : Nat → Nat} {x : nM} {k p : Nat} (hp : nm_al[p]? = some k) : (nm_W G mo ad x)[p + 1]? = some (nm_c G ad x k) := by
  show (nm_al.map (nm_c G ad x))[p]? = _
  rw [List.getElem?_map, hp]; rfl
theorem nm_nd : ∀ i, i < 17 → ∀ j, j < 17 → nm_al[i]? = nm_al[j]? → i = j := by decide
theorem nm_wa {G : nn_G} {mo : Nat} {ad : Nat → Nat} {x : nM} {k p : Nat} {i v : Int32} (hp : nm_al[p]? = some k) : (nm_W G mo ad x).set (p + 1) (ad k, .inl (G.2 (if k = 2 then 1 else 0), nm_ar k, .inl (upd (x.2 k) i.toNatClampNeg v))) = nm_W G mo ad (nm_a x k i v) := by
  have hp17 : p < 17 := by
    rcases Nat.lt_or_ge p 17 with h | h
    · exact h
    · rw [List.getElem?_eq_none (by simpa using h)] at hp; cases hp
  show (mo, _) :: (nm_al.map (nm_c G ad x)).set p _ = (mo, _) :: nm_al.map (nm_c G ad (nm_a x k i v))
  congr 1
  apply List.ext_getElem?
  intro j
  rw [List.getElem?_set, List.getElem?_map, List.getElem?_map]
  by_cases e : p = j
  · subst e
    rw [if_pos rfl, if_pos (by simpa using hp17), hp]
    simp [nm_c, nm_a]
  · rw [if_neg e]
    cases hj : nm_al[j]? with
    | none => rfl
    | some k1 =>
      have hj17 : j < 17 := by
        rcases Nat.lt_or_ge j 17 with h | h
        · exact h
        · rw [List.getElem?_eq_none (by simpa using h)] at hj; cases hj
      have hne : ¬ k1 = k := fun q => e (nm_nd p hp17 j hj17 (by rw [hp, hj, q]))
      simp [nm_c, nm_a, hne]
theorem nm_T1 : ∀ k, k < 42 → (T_Mo k).1 = R_Mo := by decide +kernel
theorem nm_T2 : ∀ k, k < 42 → nm_ar k = 0 → (T_Mo k).2.2.2 = false := by decide +kernel
theorem nm_T3 : ∀ k, k < 42 → nm_ar k = 0 → k ≠ 33 → (T_Mo k).2.2.1 = "I" := by decide +kernel
section NM1
variable {p : Program} {l : Launch} {e : Env} {R : Room} {s : State} {m : MethodId} {args : Array Value} {below : List Frame} {meth : Method} {c : Code} {H : Heap} {locs : List Loc} {cells slots : Nat} {Q : State → Prop}
variable {cc : ByteArray} {pc : Nat} {ls : Array Slot} {rest : List Value} {G : nn_G} {A : Nat → Prop} {mo : Nat} {ad : Nat → Nat} {x : nM} {H0 : Heap}
theorem nm_get (hexec : p.tables.exec = Jvm.exec) (hb : c.code = cc) {index : Nat} (hg : ∀ w ∈ nn_gw, w.before args s = true) (hown : s.vm.findClass R_Mo = some m.cls) (hK : va_K G.1 nn_cls (nn_T G) s) (hP : va_P G.1 nn_cls (nm_W G mo ad x) H) (k : Nat) (hk : k < 42) (h0 : nm_ar k = 0) (hlink : (Cond.fieldLink R_Mo index R_Mo (T_Mo k).2.1 (T_Mo k).2.2.1).before args s = true) (hdg : decode cc pc = .ok (.getfield index, 3))
    (kk : W p l e R s m args below meth c H locs cells slots Q (F0 m (pc + 3) ls (.int (x.1 k) :: rest))) : W p l e R s m args below meth c H locs cells slots Q (F0 m pc ls (.ref mo :: rest)) :=
  va_get (C := R_Mo) (T := T_Mo) (N := 42) hexec hb hg in_Mo hown hK hP 0 rfl rfl k hk hlink (by rw [nm_T1 k hk]; exact fun _ h => h) (v := .int (x.1 k)) (by rw [nm_fs hk]; simp [nm_v, h0]) hdg kk
theorem nm_getA (hexec : p.tables.exec = Jvm.exec) (hb : c.code = cc) {index : Nat} (hg : ∀ w ∈ nn_gw, w.before args s = true) (hown : s.vm.findClass R_Mo = some m.cls) (hK : va_K G.1 nn_cls (nn_T G) s) (hP : va_P G.1 nn_cls (nm_W G mo ad x) H) (k : Nat) (hk : k < 42) (h0 : ¬ nm_ar k = 0) (hlink : (Cond.fieldLink R_Mo index R_Mo (T_Mo k).2.1 (T_Mo k).2.2.1).before args s = true) (hdg : decode cc pc = .ok (.getfield index, 3))
    (kk : W p l e R s m args below meth c H locs cells slots Q (F0 m (pc + 3) ls (.ref (ad k) :: rest))) : W p l e R s m args below meth c H locs cells slots Q (F0 m pc ls (.ref mo :: rest)) :=
  va_get (C := R_Mo) (T := T_Mo) (N := 42) hexec hb hg in_Mo hown hK hP 0 rfl rfl k hk hlink (by rw [nm_T1 k hk]; exact fun _ h => h) (v := .ref (ad k)) (by rw [nm_fs hk]; simp [nm_v, h0]) hdg kk
theorem nm_put (hexec : p.tables.exec = Jvm.exec) (hb : c.code = cc) {index : Nat} (hg : ∀ w ∈ nn_gw, w.before args s = true) (hown : s.vm.findClass R_Mo = some m.cls) (hK : va_K G.1 nn_cls (nn_T G) s) (hP : va_P G.1 nn_cls (nm_W G mo ad x) H) (hD : va_D A (nm_W G mo ad x)) (hS : va_S A H0 H locs) (k : Nat) (hk : k < 42) (h0 : nm_ar k = 0) (h33 : k ≠ 33) {v : Int32} (hlink : (Cond.fieldLink R_Mo index R_Mo (T_Mo k).2.1 (T_Mo k).2.2.1).before args s = true) (hdg : decode cc pc = .ok (.putfield index, 3))
    (kk : ∀ (H1 : Heap) (locs1 : List Loc), va_P G.1 nn_cls (nm_W G mo ad (nm_f x k v)) H1 → va_D A (nm_W G mo ad (nm_f x k v)) → va_S A H0 H1 locs1 → W p l e R s m args below meth c H1 locs1 cells slots Q (F0 m (pc + 3) ls rest)) : W p l e R s m args below meth c H locs cells slots Q (F0 m pc ls (.int v :: .ref mo :: rest)) := by
  refine va_put (C := R_Mo) (T := T_Mo) (N := 42) (v := .int v) (ty := .int) hexec hb hg in_Mo t_Mo ok_Mo nm_Mo hown hK hP hD hS 0 rfl rfl k hk hlink (by rw [nm_T1 k hk]; exact fun _ h => h) (nm_T2 k hk h0) (by rw [nm_T3 k hk h0 h33]; decide +kernel) rfl rfl (by simpa using hk) hdg (fun H1 locs1 h1 h2 h3 => ?_)
  rw [nm_wf h0] at h1 h2
  exact kk H1 locs1 h1 h2 h3
theorem nm_putB (hexec : p.tables.exec = Jvm.exec) (hb : c.code = cc) {index : Nat} (hg : ∀ w ∈ nn_gw, w.before args s = true) (hown : s.vm.findClass R_Mo = some m.cls) (hK : va_K G.1 nn_cls (nn_T G) s) (hP : va_P G.1 nn_cls (nm_W G mo ad x) H) (hD : va_D A (nm_W G mo ad x)) (hS : va_S A H0 H locs) (hlink : (Cond.fieldLink R_Mo index R_Mo "there" "Z").before args s = true) (hdg : decode cc pc = .ok (.putfield index, 3))
    (kk : ∀ (H1 : Heap) (locs1 : List Loc), va_P G.1 nn_cls (nm_W G mo ad (nm_f x 33 1)) H1 → va_D A (nm_W G mo ad (nm_f x 33 1)) → va_S A H0 H1 locs1 → W p l e R s m args below meth c H1 locs1 cells slots Q (F0 m (pc + 3) ls rest)) : W p l e R s m args below meth c H locs cells slots Q (F0 m pc ls (.int 1 :: .ref mo :: rest)) := by
  refine va_put (C := R_Mo) (T := T_Mo) (N := 42) (v := .int 1) (ty := .boolean) hexec hb hg in_Mo t_Mo ok_Mo nm_Mo hown hK hP hD hS 0 rfl rfl 33 (by decide) hlink (fun _ h => h) rfl (by decide +kernel) rfl rfl (by simp) hdg (fun H1 locs1 h1 h2 h3 => ?_)
  rw [nm_wf rfl] at h1 h2
  exact kk H1 locs1 h1 h2 h3
theorem nm_ld (hexec : p.tables.exec = Jvm.exec) (hb : c.code = cc) (hK : va_K G.1 nn_cls (nn_T G) s) (hP : va_P G.1 nn_cls (nm_W G mo ad x) H) (k p0 : Nat) (hp : nm_al[p0]? = some k) (h2 : ¬ k = 2) {i : Int32} (hin : vp_in i (nm_ar k)) (hdg : decode cc pc = .ok (.iaload, 1))
    (kk : W p l e R s m args below meth c H locs cells slots Q (F0 m (pc + 1) ls (.int (nm_g x k i) :: rest))) : W p l e R s m args below meth c H locs cells slots Q (F0 m pc ls (.int i :: .ref (ad k) :: rest)) :=
  va_iald hexec hb hK hP (p0 + 1) 0 ((nm_wc hp).trans (by simp only [nm_c, if_neg h2])) rfl hin hdg kk
theorem nm_ldc (hexec : p.tables.exec = Jvm.exec) (hb : c.code = cc) (hK : va_K G.1 nn_cls (nn_T G) s) (hP : va_P G.1 nn_cls (nm_W G mo ad x) H) {i : Int32} (hin : vp_in i 180) (hdg : decode cc pc = .ok (.caload, 1))
    (kk : W p l e R s m args below meth c H locs cells slots Q (F0 m (pc + 1) ls (.int (nm_g x 2 i) :: rest))) : W p l e R s m args below meth c H locs cells slots Q (F0 m pc ls (.int i :: .ref (ad 2) :: rest)) :=
  va_cald hexec hb hK hP 1 1 (nm_wc (p := 0) rfl) rfl hin hdg kk
theorem nm_st (hexec : p.tables.exec = Jvm.exec) (hb : c.code = cc) (hK : va_K G.1 nn_cls (nn_T G) s) (hP : va_P G.1 nn_cls (nm_W G mo ad x) H) (hD : va_D A (nm_W G mo ad x)) (hS : va_S A H0 H locs) (k p0 : Nat) (hp : nm_al[p0]? = some k) (h2 : ¬ k = 2) {i v : Int32} (hin : vp_in i (nm_ar k)) (hdg : decode cc pc = .ok (.iastore, 1))
    (kk : ∀ (H1 : Heap) (locs1 : List Loc), va_P G.1 nn_cls (nm_W G mo ad (nm_a x k i v)) H1 → va_D A (nm_W G mo ad (nm_a x k i v)) → va_S A H0 H1 locs1 → W p l e R s m args below meth c H1 locs1 cells slots Q (F0 m (pc + 1) ls rest)) : W p l e R s m args below meth c H locs cells slots Q (F0 m pc ls (.int v :: .int i :: .ref (ad k) :: rest)) := by
  refine va_iast (f := x.2 k) (n := nm_ar k) (cA := G.2 0) hexec hb hK hP hD hS (p0 + 1) 0 ((nm_wc hp).trans (by simp only [nm_c, if_neg h2])) rfl hin hdg (fun H1 locs1 h1 h3 h4 => ?_)
  have e := nm_wa (G := G) (mo := mo) (ad := ad) (x := x) (i := i) (v := v) hp
  rw [if_neg h2] at e
  rw [e] at h1 h3
  exact kk H1 locs1 h1 h3 h4
theorem nm_stc (hexec : p.tables.exec = Jvm.exec) (hb : c.code = cc) (hK : va_K G.1 nn_cls (nn_T G) s) (hP : va_P G.1 nn_cls (nm_W G mo ad x) H) (hD : va_D A (nm_W G mo ad x)) (hS : va_S A H0 H locs) {i v : Int32} (hin : vp_in i 180) (hdg : decode cc pc = .ok (.castore, 1))
    (kk : ∀ (H1 : Heap) (locs1 : List Loc), va_P G.1 nn_cls (nm_W G mo ad (nm_a x 2 i (vp_nar .char v))) H1 → va_D A (nm_W G mo ad (nm_a x 2 i (vp_nar .char v))) → va_S A H0 H1 locs1 → W p l e R s m args below meth c H1 locs1 cells slots Q (F0 m (pc + 1) ls rest)) : W p l e R s m args below meth c H locs cells slots Q (F0 m pc ls (.int v :: .int i :: .ref (ad 2) :: rest)) := by
  refine va_cast hexec hb hK hP hD hS 1 1 (nm_wc (p := 0) rfl) rfl hin hdg (fun H1 locs1 h1 h3 h4 => ?_)
  have e := nm_wa (G := G) (mo := mo) (ad := ad) (x := x) (i := i) (v := vp_nar .char v) (p := 0) (k := 2) rfl
  rw [e] at h1 h3
  exact kk H1 locs1 h1 h3 h4
end NM1
theorem nm_free {A0 : Nat → Prop} {ws : va_W} {H0 H : Heap} {locs : List Loc} (hD : va_D A0 ws) (hS : va_S A0 H0 H locs) (hA : ∀ q, H0.size ≤ q → A0 q) : ∀ q, va_A ws H.size q → A0 q := by
  intro q h
  rcases h with ⟨k, e, h⟩ | h
  · exact hD.2 k _ h
  · exact hA q (Nat.le_trans hS.1 h)
abbrev nm_Qv (G : nn_G) (mo : Nat) (ad : Nat → Nat) (y : nM) (A : Nat → Prop) : Array Value → State → Outcome → State → Prop := va_Qv (fun _ : Unit => True) (fun _ t => va_P G.1 nn_cls (nm_W G mo ad y) t.heap ∧ va_D A (nm_W G mo ad y)) A
abbrev nm_Qi (G : nn_G) (mo : Nat) (ad : Nat → Nat) (y : nM × Int32) (A : Nat → Prop) : Array Value → State → Outcome → State → Prop := va_Qi (fun (r : Int32) (_ : Unit) => r = y.2) (fun _ t => va_P G.1 nn_cls (nm_W G mo ad y.1) t.heap ∧ va_D A (nm_W G mo ad y.1)) A
section NM2
variable {p : Program} {l : Launch} {e : Env} {R : Room} {s : State} {m : MethodId} {args ar : Array Value} {below : List Frame} {meth : Method} {c : Code} {H : Heap} {locs : List Loc} {cells slots : Nat} {g : JFrame} {G : nn_G} {A : Nat → Prop} {mo : Nat} {ad : Nat → Nat}
theorem nm_W1 {y1 y2 : nM} (h : y1 = y2) (k : W p l e R s m args below meth c H locs cells slots (MQ below (nm_Qv G mo ad y2 A) ar s 0 0 A) g) : W p l e R s m args below meth c H locs cells slots (MQ below (nm_Qv G mo ad y1 A) ar s 0 0 A) g := by
  subst h; exact k
theorem nm_W2 {y1 y2 : nM × Int32} (h : y1 = y2) (k : W p l e R s m args below meth c H locs cells slots (MQ below (nm_Qi G mo ad y2 A) ar s 0 0 A) g) : W p l e R s m args below meth c H locs cells slots (MQ below (nm_Qi G mo ad y1 A) ar s 0 0 A) g := by
  subst h; exact k
theorem nm_W3 {y1 y2 : Int32} {f : Addr → Prop} (h : y1 = y2) (k : W p l e R s m args below meth c H locs cells slots (MQ below (vp_Si (fun r => r = y2)) ar s 0 0 f) g) : W p l e R s m args below meth c H locs cells slots (MQ below (vp_Si (fun r => r = y1)) ar s 0 0 f) g := by
  subst h; exact k
end NM2
