/-! the frequent instructions by hand: what they do to the heap, the locals and the stack of the top frame; what isn't met goes the long way ('sl') -/
abbrev RfK := List Cell → Nat → Nat → List Slot → List Value → Bool
abbrev RfF := List Cell → Vm → Nat → Nat → Nat → Nat → List Slot → List Value → RfK → (Unit → Bool) → Bool
noncomputable def rf_at {α : Type} (n : Nat) : List α → Option α :=
  Nat.rec (motive := fun _ => List α → Option α) (fun l => match l with
    | [] => none
    | x :: _ => some x) (fun _ ih l => match l with
    | [] => none
    | _ :: r => ih r) n
noncomputable def rf_set {α : Type} (n : Nat) : α → List α → (List α → Bool) → Bool :=
  Nat.rec (motive := fun _ => α → List α → (List α → Bool) → Bool) (fun y l k => match l with
    | [] => k []
    | _ :: r => k (y :: r)) (fun _ ih y l k => match l with
    | [] => k []
    | x :: r => ih y r fun r' => k (x :: r')) n
noncomputable def rf_iload (n : Nat) : RfF := fun h _ u _ pc len lo st K sl => match rf_at n lo with
  | some (.val (.int v)) => rf_n (pc + len) fun q => K h u q lo (.int v :: st)
  | _ => sl ()
noncomputable def rf_aload (n : Nat) : RfF := fun h _ u _ pc len lo st K sl => match rf_at n lo with
  | some (.val (.ref a)) => rf_n (pc + len) fun q => K h u q lo (.ref a :: st)
  | some (.val .null) => rf_n (pc + len) fun q => K h u q lo (.null :: st)
  | _ => sl ()
noncomputable def rf_istore (n : Nat) : RfF := fun h _ u _ pc len lo st K sl => match st with
  | .int x :: t => match rf_at n lo with
    | some (.val (.int _)) => rf_set n (.val (.int x)) lo fun lo' => rf_n (pc + len) fun q => K h u q lo' t
    | some .unset => rf_set n (.val (.int x)) lo fun lo' => rf_n (pc + len) fun q => K h u q lo' t
    | _ => sl ()
  | _ => sl ()
noncomputable def rf_iinc (n : Nat) (d : Int) : RfF := fun h _ u _ pc len lo st K sl => match rf_at n lo with
  | some (.val (.int x)) => rf_i (x + Int32.ofInt d) fun y => rf_set n (.val (.int y)) lo fun lo' => rf_n (pc + len) fun q => K h u q lo' st
  | _ => sl ()
noncomputable def rf_const (v : Int32) : RfF := fun h _ u _ pc len lo st K _ => rf_i v fun v' => rf_n (pc + len) fun q => K h u q lo (.int v' :: st)
noncomputable def rf_bin (g : Int32 → Int32 → Int32) : RfF := fun h _ u _ pc len lo st K sl => match st with
  | .int y :: .int x :: t => rf_i (g x y) fun v => rf_n (pc + len) fun q => K h u q lo (.int v :: t)
  | _ => sl ()
noncomputable def rf_dup : RfF := fun h _ u _ pc len lo st K sl => match st with
  | .ref a :: t => rf_n (pc + len) fun q => K h u q lo (.ref a :: .ref a :: t)
  | .int a :: t => rf_n (pc + len) fun q => K h u q lo (.int a :: .int a :: t)
  | _ => sl ()
noncomputable def rf_jump (pc : Nat) (o : Int) (k : Nat → Bool) (sl : Unit → Bool) : Bool := match (pc : Int) + o with
  | .ofNat q => rf_n q k
  | _ => sl ()
noncomputable def rf_goto (o : Int) : RfF := fun h _ u _ pc _ lo st K sl => rf_jump pc o (fun q => K h u q lo st) sl
noncomputable def rf_if (c : ClassFile.Cond) (o : Int) : RfF := fun h _ u _ pc len lo st K sl => match st with
  | .int x :: t => match Op.ifCond.holds c x with
    | true => rf_jump pc o (fun q => K h u q lo t) sl
    | false => rf_n (pc + len) fun q => K h u q lo t
  | _ => sl ()
noncomputable def rf_icmp (c : ClassFile.Cond) (o : Int) : RfF := fun h _ u _ pc len lo st K sl => match st with
  | .int y :: .int x :: t => match Op.if_icmp.holds c x y with
    | true => rf_jump pc o (fun q => K h u q lo t) sl
    | false => rf_n (pc + len) fun q => K h u q lo t
  | _ => sl ()
/-- the slot of the instance field that an entry is resolved to, and whether it may be written as an int without more ado -/
def rf_fld (ve : Vm) (c ix : Nat) : Option (Nat × Bool) := match ve.classes[c]? with
  | some k => match k.resolved[ix]? with
    | some (some (.field c' j)) => match ve.classes[c']? with
      | some kc => match kc.fields[j]? with
        | some f => if f.isStatic then none else some (f.slot, !hasFlag f.accessFlags Acc.final && decide (f.type = .int))
        | none => none
      | none => none
    | _ => none
  | none => none
noncomputable def rf_getf (ix : Nat) : RfF := fun h ve u c pc len lo st K sl => match st with
  | .ref a :: t => match rf_fld ve c ix with
    | some (j, _) => match rf_at a h with
      | some ⟨_, ⟨sls⟩, _, _, .none⟩ => match rf_at j sls with
        | some v => rf_v v fun v' => rf_n (pc + len) fun q => K h u q lo (v' :: t)
        | none => sl ()
      | _ => sl ()
    | none => sl ()
  | _ => sl ()
/-- slot j of an object of class cl is an int -/
def rf_isI (ve : Vm) (cl j : Nat) : Bool := match ve.classes[cl]? with
  | some k => match k.kind with
    | .array _ _ => false
    | _ => match k.instanceTypes[j]? with
      | some .int => true
      | _ => false
  | none => false
noncomputable def rf_putf (ix : Nat) : RfF := fun h ve u c pc len lo st K sl => match st with
  | .int x :: .ref a :: t => match rf_fld ve c ix with
    | some (j, true) => match rf_at a h with
      | some ⟨cl, ⟨sls⟩, mo, ha, .none⟩ => match rf_isI ve cl j with
        | true => match rf_at j sls with
          | some _ => rf_set j (.int x) sls fun sls' => rf_set a ⟨cl, ⟨sls'⟩, mo, ha, .none⟩ h fun h' => rf_n (pc + len) fun q => K h' u q lo t
          | none => sl ()
        | false => sl ()
      | _ => sl ()
    | _ => sl ()
  | _ => sl ()
/-- class cl is that of arrays of ints -/
def rf_isA (ve : Vm) (cl : Nat) : Bool := match ve.classes[cl]? with
  | some k => match k.kind with
    | .array _ .int => true
    | _ => false
  | none => false
noncomputable def rf_ias : RfF := fun h ve u _ pc len lo st K sl => match st with
  | .int x :: .int i :: .ref a :: t => match rf_at a h with
    | some ⟨cl, ⟨sls⟩, mo, ha, .none⟩ => match rf_isA ve cl with
      | true => match Int32.decLt i 0 with
        | .isFalse _ => rf_n i.toNatClampNeg fun j => match rf_at j sls with
          | some _ => rf_set j (.int x) sls fun sls' => rf_set a ⟨cl, ⟨sls'⟩, mo, ha, .none⟩ h fun h' => rf_n (pc + len) fun q => K h' u q lo t
          | none => sl ()
        | .isTrue _ => sl ()
      | false => sl ()
    | _ => sl ()
  | _ => sl ()
noncomputable def rf_ial : RfF := fun h ve u _ pc len lo st K sl => match st with
  | .int i :: .ref a :: t => match rf_at a h with
    | some ⟨cl, ⟨sls⟩, _, _, .none⟩ => match rf_isA ve cl with
      | true => match Int32.decLt i 0 with
        | .isFalse _ => rf_n i.toNatClampNeg fun j => match rf_at j sls with
          | some v => rf_v v fun v' => rf_n (pc + len) fun q => K h u q lo (v' :: t)
          | none => sl ()
        | .isTrue _ => sl ()
      | false => sl ()
    | _ => sl ()
  | _ => sl ()
noncomputable def rf_op (ins : Instr) : Option RfF := match ins with
  | .iload n => some (rf_iload n)
  | .iload_n n => some (rf_iload n.val)
  | .aload n => some (rf_aload n)
  | .aload_n n => some (rf_aload n.val)
  | .istore n => some (rf_istore n)
  | .istore_n n => some (rf_istore n.val)
  | .iinc n d => some (rf_iinc n d)
  | .iconst k => some (rf_const (Int32.ofInt k))
  | .bipush k => some (rf_const (Int8.ofInt k).toInt32)
  | .sipush k => some (rf_const (Int16.ofInt k).toInt32)
  | .iadd => some (rf_bin fun x y => x + y)
  | .isub => some (rf_bin fun x y => x - y)
  | .imul => some (rf_bin fun x y => x * y)
  | .iand => some (rf_bin fun x y => x &&& y)
  | .ior => some (rf_bin fun x y => x ||| y)
  | .ishl => some (rf_bin fun x y => x <<< (y &&& 31))
  | .ishr => some (rf_bin fun x y => x >>> (y &&& 31))
  | .dup => some rf_dup
  | .goto o => some (rf_goto o)
  | .ifCond c o => some (rf_if c o)
  | .if_icmp c o => some (rf_icmp c o)
  | .getfield ix => some (rf_getf ix)
  | .putfield ix => some (rf_putf ix)
  | .iastore => some rf_ias
  | .iaload => some rf_ial
  | _ => none
/-- which of the others change the heap -/
def rf_dp (ins : Instr) : Nat := match ins with
  | .new _ => 2
  | .newarray _ => 2
  | .anewarray _ => 2
  | .putfield _ => 2
  | .aastore => 2
  | .castore => 2
  | .lastore => 2
  | .iastore => 2
  | _ => 1
