/-! blocks, types of the stack, code: ghosts beside the reference's state -/
abbrev q_Ty : Type := List (Option Nat)
abbrev q_G : Type := (Nat → Nat) × (Nat → Nat) × (Nat → Nat) × (Nat → Nat) × (Nat → Nat) × (Nat → Nat × Option q_Ty)
/-- of a block: the one around, its parameters, its cells, its first instruction, its level; of an instruction: its block, and what lies on the stack before it -/
abbrev g_p (Γ : q_G) : Nat → Nat := Γ.1
abbrev g_n (Γ : q_G) : Nat → Nat := Γ.2.1
abbrev g_c (Γ : q_G) : Nat → Nat := Γ.2.2.1
abbrev g_e (Γ : q_G) : Nat → Nat := Γ.2.2.2.1
abbrev g_l (Γ : q_G) : Nat → Nat := Γ.2.2.2.2.1
abbrev g_a (Γ : q_G) : Nat → Nat × Option q_Ty := Γ.2.2.2.2.2
/-- the block l links around -/
def q_an (p : Nat → Nat) : Nat → Nat → Nat
  | 0, b => b
  | l + 1, b => q_an p l (p b)
/-- a variable's or a parameter's place in a frame of block b -/
def q_pl (Γ : q_G) (b : Nat) (A : Int32) : Prop := (∃ a, A = nI a ∧ 3 ≤ a ∧ a < g_c Γ b) ∨ (∃ k, k < g_n Γ b ∧ A = nI k - nI (g_n Γ b))
def q_var (Γ : q_G) (b : Nat) (L A : Int32) : Prop := ∃ l, L = nI l ∧ l ≤ g_l Γ b ∧ q_pl Γ (q_an (g_p Γ) l b) A
def q_arr (Γ : q_G) (b : Nat) (L A : Int32) (m : Nat) : Prop := ∃ l a, L = nI l ∧ l ≤ g_l Γ b ∧ A = nI a ∧ 3 ≤ a ∧ a + m ≤ g_c Γ (q_an (g_p Γ) l b)
/-- an instruction that lies in a row: what it makes of the stack -/
def q_st (Γ : q_G) (b : Nat) (O L A : Int32) (t t' : q_Ty) : Prop :=
  (O = 0 ∧ t' = none :: t) ∨ (O = 1 ∧ q_var Γ b L A ∧ t' = none :: t) ∨ (O = 2 ∧ q_var Γ b L A ∧ ∃ u, t = u :: t') ∨ (O = 3 ∧ ∃ m r, t = some m :: r ∧ t' = none :: r ∧ q_arr Γ b L A m) ∨ (O = 4 ∧ ∃ u m, t = u :: some m :: t' ∧ q_arr Γ b L A m) ∨
  (O = 9 ∧ A = 1 ∧ ∃ u r, t = u :: r ∧ t' = none :: r) ∨ (O = 9 ∧ A = 10 ∧ ∃ u, t = u :: t') ∨ (O = 9 ∧ (∃ k, 2 ≤ k ∧ k ≤ 9 ∧ A = nI k) ∧ ∃ u v r, t = u :: v :: r ∧ t' = none :: r) ∨ (O = 11 ∧ ∃ m u r, A = nI m ∧ 1 ≤ m ∧ m ≤ 30 ∧ t = u :: r ∧ t' = some m :: r)
/-- an instruction by itself; md: how many there are -/
def q_ok (Γ : q_G) (nb : Nat) (O L A : Nat → Int32) (i : Nat) : Prop := (g_a Γ i).1 < nb ∧
  ((∃ b t t', g_a Γ i = (b, some t) ∧ g_a Γ (i + 1) = (b, some t') ∧ q_st Γ b (O i) (L i) (A i) t t') ∨
   (O i = 5 ∧ ∃ b c l, g_a Γ i = (b, some (List.replicate (g_n Γ c) none)) ∧ g_a Γ (i + 1) = (b, some []) ∧ c < nb ∧ L i = nI l ∧ l ≤ g_l Γ b ∧ A i = nI (g_e Γ c) ∧ c ≠ 0 ∧ g_p Γ c = q_an (g_p Γ) l b) ∨
   (O i = 6 ∧ ∃ b, g_a Γ i = (b, none) ∧ g_a Γ (i + 1) = (b, some []) ∧ A i = nI (g_c Γ b) ∧ 3 ≤ g_c Γ b ∧ g_c Γ b ≤ 3000) ∨
   (O i = 7 ∧ ∃ b, g_a Γ i = (b, none) ∨ g_a Γ i = (b, some [])) ∨
   (O i = 8 ∧ ∃ b u, g_a Γ i = (b, some [u]) ∧ g_a Γ (i + 1) = (b, some [])) ∨
   (O i = 9 ∧ A i = 0 ∧ ∃ b, g_a Γ i = (b, some []) ∧ L i = nI (g_n Γ b)))
/-- where a jump leads -/
def q_tg (Γ : q_G) (md : Nat) (O A : Nat → Int32) (i : Nat) : Prop := (O i = 7 ∨ O i = 8) → ∃ t, A i = nI t ∧ t < md ∧ (((g_a Γ i).2 = none ∧ g_a Γ t = ((g_a Γ i).1, none) ∧ O t = 6) ∨ ((g_a Γ i).2 ≠ none ∧ g_a Γ t = ((g_a Γ i).1, some [])))
/-- the same, where the target may be the next instruction -/
def q_tq (Γ : q_G) (md mm : Nat) (O A : Nat → Int32) (i : Nat) : Prop := (O i = 7 ∨ O i = 8) → ∃ t, A i = nI t ∧ (((g_a Γ i).2 = none ∧ t < md ∧ g_a Γ t = ((g_a Γ i).1, none) ∧ O t = 6) ∨ ((g_a Γ i).2 ≠ none ∧ t < mm ∧ g_a Γ t = ((g_a Γ i).1, some [])))
/-- a jump that waits for its target, by a task -/
def q_pd (x : nM) (nt i : Nat) : Prop := ∃ j, j < nt ∧ ((x.2 12 j = 1 ∧ x.2 13 j = nI i) ∨ (x.2 12 j = 9 ∧ x.2 13 j = nI i) ∨ (x.2 12 j = 10 ∧ x.2 13 j = nI i) ∨ (x.2 12 j = 12 ∧ x.2 14 j = nI i))
/-- a name, seen from block b -/
def q_nm (Γ : q_G) (nb : Nat) (x : nM) (b k : Nat) : Prop := ∃ v, x.2 18 k = nI v ∧ v ≤ g_l Γ b ∧
  ((x.2 17 k = 0 ∧ q_pl Γ (q_an (g_p Γ) (g_l Γ b - v) b) (x.2 19 k)) ∨
   (x.2 17 k = 1 ∧ ∃ a m, x.2 19 k = nI a ∧ x.2 20 k = nI m ∧ 1 ≤ m ∧ m ≤ 30 ∧ 3 ≤ a ∧ a + m ≤ g_c Γ (q_an (g_p Γ) (g_l Γ b - v) b)) ∨
   (x.2 17 k = 2 ∧ ∃ c, c < nb ∧ c ≠ 0 ∧ x.2 19 k = nI (g_e Γ c) ∧ x.2 20 k = nI (g_n Γ c) ∧ g_p Γ c = q_an (g_p Γ) (g_l Γ b - v) b))
/-- where the compile stands: block, part of it (0 fresh, 1 head, 2 body, 3 done, 4 the end), stack, deep, how many names are sure -/
abbrev q_C : Type := Nat × Nat × q_Ty × Nat × Nat
/-- a task: what it finds and what it leaves; n: how many tasks lie below; mm: instructions that may be spoken of -/
def q_ru (Γ : q_G) (x : nM) (md mm a n kd : Nat) (f s : Int32) (c c' : q_C) : Prop :=
  match kd with
  | 0 => c.2.1 = 0 ∧ n ≤ 1 + 2 * g_l Γ c.1 ∧ c.2.2.2.1 = 0 ∧ c' = (c.1, 3, [], c.2.2.2.1, c.2.2.2.2)
  | 1 => c.2.1 = 1 ∧ n ≤ 1 + 2 * g_l Γ c.1 ∧ c.2.2.2.1 = 0 ∧ s = nI (g_n Γ c.1) ∧ (∃ j, f = nI j ∧ j < md ∧ g_a Γ j = (c.1, none) ∧ x.2 26 j = 7) ∧ c' = (c.1, 3, [], c.2.2.2.1, c.2.2.2.2)
  | 2 => c.2.1 = 2 ∧ c.2.2.1 = [] ∧ c.2.2.2.1 = 0 ∧ f = nI (g_n Γ c.1) ∧ c' = (c.1, 3, [], c.2.2.2.1, c.2.2.2.2)
  | 3 => c.2.1 = 3 ∧ c.2.2.2.1 = 0 ∧ c.1 ≠ 0 ∧ n ≤ 2 * g_l Γ c.1 ∧ s = nI (g_c Γ (g_p Γ c.1)) ∧ 3 ≤ g_c Γ (g_p Γ c.1) ∧ g_c Γ (g_p Γ c.1) ≤ 3000 ∧ (∃ k, f = nI k ∧ k ≤ c.2.2.2.2 ∧ (∀ j, j < k → ∃ v, x.2 18 j = nI v ∧ v < g_l Γ c.1) ∧ c' = (g_p Γ c.1, 1, [], c.2.2.2.1, k))
  | 4 => c.2.1 = 3 ∧ c.2.2.2.1 = 0 ∧ n = 0 ∧ c' = (c.1, 4, [], 0, 0)
  | 5 => c.2.1 = 2 ∧ c.2.2.1 = [] ∧ n ≤ 2 + 2 * g_l Γ c.1 + 5 * c.2.2.2.1 ∧ c' = c
  | 6 => c.2.1 = 2 ∧ c.2.2.1 = [] ∧ n ≤ 3 + 2 * g_l Γ c.1 + 5 * c.2.2.2.1 ∧ c' = c
  | 7 => c.2.1 = 2 ∧ c.2.2.1 = [] ∧ 1 ≤ c.2.2.2.1 ∧ c' = (c.1, 2, [], c.2.2.2.1 - 1, c.2.2.2.2)
  | 8 => c.2.1 = 2 ∧ (∃ u, c.2.2.1 = [u]) ∧ 1 ≤ c.2.2.2.1 ∧ n + 5 ≤ 3 + 2 * g_l Γ c.1 + 5 * c.2.2.2.1 ∧ c' = (c.1, 2, [], c.2.2.2.1 - 1, c.2.2.2.2)
  | 9 => c.2.1 = 2 ∧ c.2.2.1 = [] ∧ 1 ≤ c.2.2.2.1 ∧ n + 5 ≤ 3 + 2 * g_l Γ c.1 + 5 * c.2.2.2.1 ∧ (∃ j, f = nI j ∧ j < md ∧ (∃ t, g_a Γ j = (c.1, some t)) ∧ x.2 26 j = 8) ∧ c' = (c.1, 2, [], c.2.2.2.1 - 1, c.2.2.2.2)
  | 10 => c.2.1 = 2 ∧ c.2.2.1 = [] ∧ 1 ≤ c.2.2.2.1 ∧ n + 5 ≤ 3 + 2 * g_l Γ c.1 + 5 * c.2.2.2.1 ∧ (∃ j, f = nI j ∧ j < md ∧ (∃ t, g_a Γ j = (c.1, some t)) ∧ x.2 26 j = 7) ∧ c' = (c.1, 2, [], c.2.2.2.1 - 1, c.2.2.2.2)
  | 11 => c.2.1 = 2 ∧ (∃ u, c.2.2.1 = [u]) ∧ 1 ≤ c.2.2.2.1 ∧ n + 5 ≤ 3 + 2 * g_l Γ c.1 + 5 * c.2.2.2.1 ∧ (∃ j, f = nI j ∧ j < mm ∧ g_a Γ j = (c.1, some [])) ∧ c' = (c.1, 2, [], c.2.2.2.1 - 1, c.2.2.2.2)
  | 12 => c.2.1 = 2 ∧ c.2.2.1 = [] ∧ 1 ≤ c.2.2.2.1 ∧ (∃ j, f = nI j ∧ j < mm ∧ g_a Γ j = (c.1, some [])) ∧ (∃ j, s = nI j ∧ j < md ∧ (∃ t, g_a Γ j = (c.1, some t)) ∧ x.2 26 j = 8) ∧ c' = (c.1, 2, [], c.2.2.2.1 - 1, c.2.2.2.2)
  | 13 => c.2.1 = 2 ∧ (∃ t, c.2.2.1 = none :: t) ∧ n ≤ 4 + 2 * g_l Γ c.1 + 5 * c.2.2.2.1 ∧ c' = c
  | 14 => c.2.1 = 2 ∧ n ≤ 5 + 2 * g_l Γ c.1 + 5 * c.2.2.2.1 ∧ c' = (c.1, 2, none :: c.2.2.1, c.2.2.2)
  | 15 => c.2.1 = 2 ∧ (∃ t, c.2.2.1 = none :: t) ∧ n ≤ 5 + 2 * g_l Γ c.1 + 5 * c.2.2.2.1 ∧ c' = c
  | 16 => c.2.1 = 2 ∧ n ≤ 7 + 2 * g_l Γ c.1 + 5 * c.2.2.2.1 ∧ c' = (c.1, 2, none :: c.2.2.1, c.2.2.2)
  | 17 => c.2.1 = 2 ∧ (∃ t, c.2.2.1 = none :: t) ∧ n ≤ 7 + 2 * g_l Γ c.1 + 5 * c.2.2.2.1 ∧ c' = c
  | 18 => c.2.1 = 2 ∧ n ≤ 9 + 2 * g_l Γ c.1 + 5 * c.2.2.2.1 ∧ c' = (c.1, 2, none :: c.2.2.1, c.2.2.2)
  | 19 => c.2.1 = 2 ∧ 1 ≤ c.2.2.2.1 ∧ c' = (c.1, 2, c.2.2.1, c.2.2.2.1 - 1, c.2.2.2.2)
  | 20 => c.2.1 = 2 ∧ 1 ≤ c.2.2.2.1 ∧ (∃ t, c.2.2.1 = none :: t) ∧ (∃ k, f = nI k ∧ k < c.2.2.2.2 ∧ x.2 17 k = 1) ∧ c' = (c.1, 2, c.2.2.1, c.2.2.2.1 - 1, c.2.2.2.2)
  | 21 => c.2.1 = 2 ∧ 1 ≤ c.2.2.2.1 ∧ c.2.2.1 = [none] ∧ n + 5 ≤ 3 + 2 * g_l Γ c.1 + 5 * c.2.2.2.1 ∧ (∃ k, f = nI k ∧ k < c.2.2.2.2 ∧ x.2 17 k = 1) ∧ c' = (c.1, 2, [], c.2.2.2.1 - 1, c.2.2.2.2)
  | 22 => c.2.1 = 2 ∧ 1 ≤ c.2.2.2.1 ∧ n ≤ 4 + 2 * g_l Γ c.1 + 5 * c.2.2.2.1 ∧ (∃ k, f = nI k ∧ k < c.2.2.2.2 ∧ x.2 17 k = 2) ∧ (∃ m, s = nI m ∧ m ≤ a ∧ c.2.2.1 = List.replicate m none) ∧ c' = (c.1, 2, [], c.2.2.2.1 - 1, c.2.2.2.2)
  | 23 => c.2.1 = 2 ∧ n ≤ 8 + 2 * g_l Γ c.1 + 5 * c.2.2.2.1 ∧ (∃ o l t', o < 12 ∧ l ≤ 4 ∧ f = nI (16 * o + l) ∧ q_st Γ c.1 (nI o) (nI l) s c.2.2.1 t' ∧ c' = (c.1, 2, t', c.2.2.2))
  | _ => False
/-- the stack of tasks, n of them -/
def q_TS (Γ : q_G) (nb : Nat) (x : nM) (md mm a : Nat) : Nat → q_C → Prop
  | 0, c => c.2.1 = 4
  | n + 1, c => c.1 < nb ∧ ∃ (kd : Nat) (c' : q_C), kd < 24 ∧ x.2 12 n = nI kd ∧ q_ru Γ x md mm a n kd (x.2 13 n) (x.2 14 n) c c' ∧ q_TS Γ nb x md mm a n c'
/-- instructions that the tasks will still make without a token; what they weigh -/
def q_we (x : nM) : Nat → Nat
  | 0 => 0
  | n + 1 => (if x.2 12 n = 0 ∨ x.2 12 n = 2 ∨ x.2 12 n = 12 ∨ x.2 12 n = 23 then 1 else 0) + q_we x n
def q_wt (x : nM) : Nat → Nat
  | 0 => 0
  | n + 1 => (if x.2 12 n = 14 then 5 else if x.2 12 n = 16 then 3 else if x.2 12 n = 0 then 2 else 1) + q_wt x n
/-- the compile's invariant; r: rounds that are left -/
abbrev q_mm (md ph : Nat) : Nat := if ph = 2 then md + 1 else md
def q_BO (Γ : q_G) (nb md ph b : Nat) : Prop := 0 < nb ∧ g_e Γ 0 = 0 ∧ g_p Γ 0 = 0 ∧ ∀ e, e < nb → ((e = 0 ∧ g_l Γ e = 0 ∧ g_n Γ e = 0) ∨ (g_p Γ e < e ∧ g_l Γ e = g_l Γ (g_p Γ e) + 1)) ∧ g_n Γ e ≤ 3 ∧ g_l Γ e ≤ 4 ∧ g_a Γ (g_e Γ e) = (e, none) ∧ (g_e Γ e < md ∨ (ph = 0 ∧ e = b ∧ g_e Γ e = md))
def q_CO (x : nM) (Γ : q_G) (nb nt md ph : Nat) : Prop := (∀ i, i < md → q_ok Γ nb (x.2 26) (x.2 27) (x.2 28) i ∧ (q_tq Γ md (q_mm md ph) (x.2 26) (x.2 28) i ∨ q_pd x nt i)) ∧ (ph ≠ 2 → ∀ i, i + 1 = md → x.2 26 i = 7 ∨ (x.2 26 i = 9 ∧ x.2 28 i = 0))
def q_PH (x : nM) (Γ : q_G) (md : Nat) (c : q_C) : Prop := (c.2.1 = 0 → g_e Γ c.1 = md ∧ g_c Γ c.1 = 0 ∧ x.1 22 = nI 3 ∧ x.1 23 = nI (g_n Γ c.1)) ∧ (c.2.1 = 1 → x.1 22 = nI (g_c Γ c.1) ∧ 3 ≤ g_c Γ c.1 ∧ g_c Γ c.1 ≤ 3000) ∧ (c.2.1 = 2 → g_a Γ md = (c.1, some c.2.2.1))
def q_CI (x : nM) (Γ : q_G) (nb ty a b0 nt nm md r : Nat) (c : q_C) : Prop :=
  q_T x ty a b0 ∧ x.1 7 = 0 ∧ x.1 11 = nI nt ∧ x.1 15 = nI nm ∧ x.1 25 = nI md ∧ x.1 21 = nI (g_l Γ c.1) ∧ x.1 24 = nI c.2.2.2.1 ∧ c.2.2.2.1 ≤ 6 ∧ c.2.2.2.2 ≤ nm ∧ 2 * nm ≤ a + 1 ∧ c.1 < nb ∧ q_BO Γ nb md c.2.1 c.1 ∧
  (∀ k, k < nm → q_nm Γ nb x c.1 k) ∧ q_CO x Γ nb nt md c.2.1 ∧ q_PH x Γ md c ∧ q_TS Γ nb x md (q_mm md c.2.1) a nt c ∧ md + q_we x nt ≤ 2 * a + 3 ∧ q_wt x nt + 8 * (ty - a) ≤ r
/-! from one ghost to a larger one -/
def q_GE (Γ Δ : q_G) (nb mm : Nat) : Prop := (∀ e, e < nb → g_p Δ e = g_p Γ e ∧ g_n Δ e = g_n Γ e ∧ g_e Δ e = g_e Γ e ∧ g_l Δ e = g_l Γ e ∧ (g_c Δ e = g_c Γ e ∨ g_c Γ e = 0)) ∧ (∀ i, i < mm → g_a Δ i = g_a Γ i) ∧ ∀ e, e < nb → g_p Γ e < nb
theorem q_GE.rf {Γ : q_G} {nb mm : Nat} (h : ∀ e, e < nb → g_p Γ e < nb) : q_GE Γ Γ nb mm := ⟨fun _ _ => ⟨rfl, rfl, rfl, rfl, Or.inl rfl⟩, fun _ _ => rfl, h⟩
theorem q_an.lt {p : Nat → Nat} {nb : Nat} (h : ∀ e, e < nb → p e < nb) : ∀ (l b : Nat), b < nb → q_an p l b < nb := by
  intro l
  induction l with
  | zero => intro b hb; exact hb
  | succ l ih => intro b hb; exact ih _ (h b hb)
theorem q_an.eq {p q : Nat → Nat} {nb : Nat} (h : ∀ e, e < nb → p e < nb) (hq : ∀ e, e < nb → q e = p e) : ∀ (l b : Nat), b < nb → q_an q l b = q_an p l b := by
  intro l
  induction l with
  | zero => intro b hb; rfl
  | succ l ih =>
    intro b hb
    show q_an q l (q b) = q_an p l (p b)
    rw [hq b hb]; exact ih _ (h b hb)
theorem q_GE.an {Γ Δ : q_G} {nb mm : Nat} (h : q_GE Γ Δ nb mm) (l : Nat) {b : Nat} (hb : b < nb) : q_an (g_p Δ) l b = q_an (g_p Γ) l b ∧ q_an (g_p Γ) l b < nb := ⟨q_an.eq h.2.2 (fun e he => (h.1 e he).1) l b hb, q_an.lt h.2.2 l b hb⟩
theorem q_GE.c {Γ Δ : q_G} {nb mm : Nat} (h : q_GE Γ Δ nb mm) {b : Nat} (hb : b < nb) : g_c Γ b ≤ g_c Δ b := by
  rcases (h.1 b hb).2.2.2.2 with q | q <;> omega
theorem q_GE.pl {Γ Δ : q_G} {nb mm : Nat} (h : q_GE Γ Δ nb mm) {b : Nat} (hb : b < nb) {A : Int32} (g : q_pl Γ b A) : q_pl Δ b A := by
  have := h.c hb
  rcases g with ⟨a, g1, g2, g3⟩ | ⟨k, g1, g2⟩
  · exact Or.inl ⟨a, g1, g2, by omega⟩
  · exact Or.inr ⟨k, by rw [(h.1 b hb).2.1]; exact g1, by rw [(h.1 b hb).2.1]; exact g2⟩
theorem q_GE.var {Γ Δ : q_G} {nb mm : Nat} (h : q_GE Γ Δ nb mm) {b : Nat} (hb : b < nb) {L A : Int32} (g : q_var Γ b L A) : q_var Δ b L A := by
  obtain ⟨l, g1, g2, g3⟩ := g
  have k := h.an l hb
  exact ⟨l, g1, by rw [(h.1 b hb).2.2.2.1]; exact g2, by rw [k.1]; exact h.pl k.2 g3⟩
theorem q_GE.arr {Γ Δ : q_G} {nb mm : Nat} (h : q_GE Γ Δ nb mm) {b : Nat} (hb : b < nb) {L A : Int32} {m : Nat} (g : q_arr Γ b L A m) : q_arr Δ b L A m := by
  obtain ⟨l, a, g1, g2, g3, g4, g5⟩ := g
  have k := h.an l hb
  have := h.c k.2
  exact ⟨l, a, g1, by rw [(h.1 b hb).2.2.2.1]; exact g2, g3, g4, by rw [k.1]; omega⟩
theorem q_GE.st {Γ Δ : q_G} {nb mm : Nat} (h : q_GE Γ Δ nb mm) {b : Nat} (hb : b < nb) {O L A : Int32} {t t' : q_Ty} (g : q_st Γ b O L A t t') : q_st Δ b O L A t t' := by
  rcases g with g | ⟨g1, g2, g3⟩ | ⟨g1, g2, g3⟩ | ⟨g1, m, r, g2, g3, g4⟩ | ⟨g1, u, m, g2, g3⟩ | g
  · exact Or.inl g
  · exact Or.inr (Or.inl ⟨g1, h.var hb g2, g3⟩)
  · exact Or.inr (Or.inr (Or.inl ⟨g1, h.var hb g2, g3⟩))
  · exact Or.inr (Or.inr (Or.inr (Or.inl ⟨g1, m, r, g2, g3, h.arr hb g4⟩)))
  · exact Or.inr (Or.inr (Or.inr (Or.inr (Or.inl ⟨g1, u, m, g2, h.arr hb g3⟩))))
  · exact Or.inr (Or.inr (Or.inr (Or.inr (Or.inr g))))
theorem q_GE.nm {Γ Δ : q_G} {nb nb' mm : Nat} (h : q_GE Γ Δ nb mm) (hnb : nb ≤ nb') {x y : nM} {b k : Nat} (hb : b < nb) (e17 : y.2 17 k = x.2 17 k) (e18 : y.2 18 k = x.2 18 k) (e19 : y.2 19 k = x.2 19 k) (e20 : y.2 20 k = x.2 20 k) (g : q_nm Γ nb x b k) : q_nm Δ nb' y b k := by
  obtain ⟨v, g1, g2, g3⟩ := g
  have hl := (h.1 b hb).2.2.2.1
  have k := h.an (g_l Γ b - v) hb
  have := h.c k.2
  refine ⟨v, by rw [e18]; exact g1, by rw [hl]; exact g2, ?_⟩
  rw [e17, e19, e20, hl, k.1]
  rcases g3 with ⟨q1, q2⟩ | ⟨q1, a, m, q2, q3, q4, q5, q6, q7⟩ | ⟨q1, c, q2, q3, q4, q5, q6⟩
  · exact Or.inl ⟨q1, h.pl k.2 q2⟩
  · exact Or.inr (Or.inl ⟨q1, a, m, q2, q3, q4, q5, q6, by omega⟩)
  · obtain ⟨e1, e2, e3, -⟩ := h.1 c q2
    exact Or.inr (Or.inr ⟨q1, c, by omega, q3, by rw [e3]; exact q4, by rw [e2]; exact q5, by rw [e1]; exact q6⟩)
/-- what a task says stays true while names, code and ghosts only grow -/
theorem q_GE.ru {Γ Δ : q_G} {nb mm md md' mm' a a' n kd : Nat} {x y : nM} {f s : Int32} {c c' : q_C} (h : q_GE Γ Δ nb mm) (hb : c.1 < nb) (hmd : md ≤ md') (hmm : mm ≤ mm') (hdm : md ≤ mm) (ha : a ≤ a')
    (h17 : ∀ k, k < c.2.2.2.2 → y.2 17 k = x.2 17 k ∧ y.2 18 k = x.2 18 k) (h26 : ∀ j, j < md → y.2 26 j = x.2 26 j) (g : q_ru Γ x md mm a n kd f s c c') : q_ru Δ y md' mm' a' n kd f s c c' := by
  obtain ⟨e1, e2, e3, e4, e5⟩ := h.1 c.1 hb
  have jn : ∀ j, j < mm → g_a Δ j = g_a Γ j := h.2.1
  match kd, g with
  | 0, ⟨g1, g2, g3, g4⟩ => exact ⟨g1, by rw [e4]; exact g2, g3, g4⟩
  | 1, ⟨g1, g2, g3, g4, ⟨j, k1, k2, k3, k4⟩, g5⟩ => exact ⟨g1, by rw [e4]; exact g2, g3, by rw [e2]; exact g4, ⟨j, k1, by omega, by rw [jn j (by omega)]; exact k3, by rw [h26 j k2]; exact k4⟩, g5⟩
  | 2, ⟨g1, g2, g3, g4, g5⟩ => exact ⟨g1, g2, g3, by rw [e2]; exact g4, g5⟩
  | 3, ⟨g1, g2, g3, g4, g5, g6, g7, k, k1, k2, k3, k4⟩ =>
    have hp := h.2.2 c.1 hb
    have ec : g_c Δ (g_p Γ c.1) = g_c Γ (g_p Γ c.1) := by rcases (h.1 _ hp).2.2.2.2 with q | q <;> omega
    refine ⟨g1, g2, g3, by rw [e4]; exact g4, by rw [e1, ec]; exact g5, by rw [e1, ec]; exact g6, by rw [e1, ec]; exact g7, k, k1, k2, ?_, by rw [e1]; exact k4⟩
    intro j hj
    obtain ⟨v, q1, q2⟩ := k3 j hj
    exact ⟨v, by rw [(h17 j (by omega)).2]; exact q1, by rw [e4]; exact q2⟩
  | 4, g => exact g
  | 5, ⟨g1, g2, g3, g4⟩ => exact ⟨g1, g2, by rw [e4]; exact g3, g4⟩
  | 6, ⟨g1, g2, g3, g4⟩ => exact ⟨g1, g2, by rw [e4]; exact g3, g4⟩
  | 7, g => exact g
  | 8, ⟨g1, g2, g3, g4, g5⟩ => exact ⟨g1, g2, g3, by rw [e4]; exact g4, g5⟩
  | 9, ⟨g1, g2, g3, g4, ⟨j, k1, k2, ⟨t, k3⟩, k4⟩, g5⟩ => exact ⟨g1, g2, g3, by rw [e4]; exact g4, ⟨j, k1, by omega, ⟨t, by rw [jn j (by omega)]; exact k3⟩, by rw [h26 j k2]; exact k4⟩, g5⟩
  | 10, ⟨g1, g2, g3, g4, ⟨j, k1, k2, ⟨t, k3⟩, k4⟩, g5⟩ => exact ⟨g1, g2, g3, by rw [e4]; exact g4, ⟨j, k1, by omega, ⟨t, by rw [jn j (by omega)]; exact k3⟩, by rw [h26 j k2]; exact k4⟩, g5⟩
  | 11, ⟨g1, g2, g3, g4, ⟨j, k1, k2, k3⟩, g5⟩ => exact ⟨g1, g2, g3, by rw [e4]; exact g4, ⟨j, k1, by omega, by rw [jn j k2]; exact k3⟩, g5⟩
  | 12, ⟨g1, g2, g3, ⟨i, q1, q2, q3⟩, ⟨j, k1, k2, ⟨t, k3⟩, k4⟩, g5⟩ => exact ⟨g1, g2, g3, ⟨i, q1, by omega, by rw [jn i q2]; exact q3⟩, ⟨j, k1, by omega, ⟨t, by rw [jn j (by omega)]; exact k3⟩, by rw [h26 j k2]; exact k4⟩, g5⟩
  | 13, ⟨g1, g2, g3, g4⟩ => exact ⟨g1, g2, by rw [e4]; exact g3, g4⟩
  | 14, ⟨g1, g2, g3⟩ => exact ⟨g1, by rw [e4]; exact g2, g3⟩
  | 15, ⟨g1, g2, g3, g4⟩ => exact ⟨g1, g2, by rw [e4]; exact g3, g4⟩
  | 16, ⟨g1, g2, g3⟩ => exact ⟨g1, by rw [e4]; exact g2, g3⟩
  | 17, ⟨g1, g2, g3, g4⟩ => exact ⟨g1, g2, by rw [e4]; exact g3, g4⟩
  | 18, ⟨g1, g2, g3⟩ => exact ⟨g1, by rw [e4]; exact g2, g3⟩
  | 19, g => exact g
  | 20, ⟨g1, g2, g3, ⟨k, k1, k2, k3⟩, g4⟩ => exact ⟨g1, g2, g3, ⟨k, k1, k2, by rw [(h17 k k2).1]; exact k3⟩, g4⟩
  | 21, ⟨g1, g2, g3, g4, ⟨k, k1, k2, k3⟩, g5⟩ => exact ⟨g1, g2, g3, by rw [e4]; exact g4, ⟨k, k1, k2, by rw [(h17 k k2).1]; exact k3⟩, g5⟩
  | 22, ⟨g1, g2, g3, ⟨k, k1, k2, k3⟩, ⟨m, q1, q2, q3⟩, g4⟩ => exact ⟨g1, g2, by rw [e4]; exact g3, ⟨k, k1, k2, by rw [(h17 k k2).1]; exact k3⟩, ⟨m, q1, by omega, q3⟩, g4⟩
  | 23, ⟨g1, g2, o, l, t', k1, k2, k3, k4, k5⟩ => exact ⟨g1, by rw [e4]; exact g2, o, l, t', k1, k2, k3, h.st hb k4, k5⟩
  | _ + 24, g => exact absurd g id
/-- the sure names don't grow on the way down -/
theorem q_ru.nm {Γ : q_G} {mm md a n kd : Nat} {x : nM} {f s : Int32} {c c' : q_C} (g : q_ru Γ x md mm a n kd f s c c') : c'.2.2.2.2 ≤ c.2.2.2.2 := by
  match kd, g with
  | 0, ⟨_, _, _, g⟩ => rw [g]; exact Nat.le_refl _
  | 1, ⟨_, _, _, _, _, g⟩ => rw [g]; exact Nat.le_refl _
  | 2, ⟨_, _, _, _, g⟩ => rw [g]; exact Nat.le_refl _
  | 3, ⟨_, _, _, _, _, _, _, k, _, k2, _, k4⟩ => rw [k4]; exact k2
  | 4, ⟨_, _, _, g⟩ => rw [g]; exact Nat.zero_le _
  | 5, ⟨_, _, _, g⟩ => rw [g]; exact Nat.le_refl _
  | 6, ⟨_, _, _, g⟩ => rw [g]; exact Nat.le_refl _
  | 7, ⟨_, _, _, g⟩ => rw [g]; exact Nat.le_refl _
  | 8, ⟨_, _, _, _, g⟩ => rw [g]; exact Nat.le_refl _
  | 9, ⟨_, _, _, _, _, g⟩ => rw [g]; exact Nat.le_refl _
  | 10, ⟨_, _, _, _, _, g⟩ => rw [g]; exact Nat.le_refl _
  | 11, ⟨_, _, _, _, _, g⟩ => rw [g]; exact Nat.le_refl _
  | 12, ⟨_, _, _, _, _, g⟩ => rw [g]; exact Nat.le_refl _
  | 13, ⟨_, _, _, g⟩ => rw [g]; exact Nat.le_refl _
  | 14, ⟨_, _, g⟩ => rw [g]; exact Nat.le_refl _
  | 15, ⟨_, _, _, g⟩ => rw [g]; exact Nat.le_refl _
  | 16, ⟨_, _, g⟩ => rw [g]; exact Nat.le_refl _
  | 17, ⟨_, _, _, g⟩ => rw [g]; exact Nat.le_refl _
  | 18, ⟨_, _, g⟩ => rw [g]; exact Nat.le_refl _
  | 19, ⟨_, _, g⟩ => rw [g]; exact Nat.le_refl _
  | 20, ⟨_, _, _, _, g⟩ => rw [g]; exact Nat.le_refl _
  | 21, ⟨_, _, _, _, _, g⟩ => rw [g]; exact Nat.le_refl _
  | 22, ⟨_, _, _, _, _, g⟩ => rw [g]; exact Nat.le_refl _
  | 23, ⟨_, _, _, _, _, _, _, _, _, g⟩ => rw [g]; exact Nat.le_refl _
  | _ + 24, g => exact absurd g id
theorem q_GE.TS {Γ Δ : q_G} {nb nb' mm md md' mm' a a' : Nat} {x y : nM} (h : q_GE Γ Δ nb mm) (hnb : nb ≤ nb') (hmd : md ≤ md') (hmm : mm ≤ mm') (hdm : md ≤ mm) (ha : a ≤ a') (h26 : ∀ j, j < md → y.2 26 j = x.2 26 j) :
    ∀ (n : Nat) (c : q_C), (∀ j, j < n → y.2 12 j = x.2 12 j ∧ y.2 13 j = x.2 13 j ∧ y.2 14 j = x.2 14 j) → (∀ k, k < c.2.2.2.2 → y.2 17 k = x.2 17 k ∧ y.2 18 k = x.2 18 k) → q_TS Γ nb x md mm a n c → q_TS Δ nb' y md' mm' a' n c := by
  intro n
  induction n with
  | zero => intro c _ _ g; exact g
  | succ n ih =>
    intro c hj h17 g
    obtain ⟨g1, kd, c', g2, g3, g4, g5⟩ := g
    obtain ⟨j1, j2, j3⟩ := hj n (by omega)
    refine ⟨by omega, kd, c', g2, by rw [j1]; exact g3, by rw [j2, j3]; exact h.ru g1 hmd hmm hdm ha h17 h26 g4, ?_⟩
    have := q_ru.nm g4
    exact ih c' (fun j q => hj j (by omega)) (fun k q => h17 k (by omega)) g5
theorem q_we.eq {x y : nM} : ∀ n : Nat, (∀ j, j < n → y.2 12 j = x.2 12 j) → q_we y n = q_we x n := by
  intro n
  induction n with
  | zero => intro _; rfl
  | succ n ih => intro h; rw [q_we, q_we, h n (by omega), ih (fun j q => h j (by omega))]
theorem q_wt.eq {x y : nM} : ∀ n : Nat, (∀ j, j < n → y.2 12 j = x.2 12 j) → q_wt y n = q_wt x n := by
  intro n
  induction n with
  | zero => intro _; rfl
  | succ n ih => intro h; rw [q_wt, q_wt, h n (by omega), ih (fun j q => h j (by omega))]
/-- code -/
theorem q_GE.ok {Γ Δ : q_G} {nb nb' mm i : Nat} {O L A O' L' A' : Nat → Int32} (h : q_GE Γ Δ nb mm) (hnb : nb ≤ nb') (hi : i < mm) (hi2 : i + 1 < mm ∨ O i = 7 ∨ (O i = 9 ∧ A i = 0)) (eO : O' i = O i) (eL : L' i = L i) (eA : A' i = A i ∨ O i = 7 ∨ O i = 8) (g : q_ok Γ nb O L A i) : q_ok Δ nb' O' L' A' i := by
  obtain ⟨g0, g⟩ := g
  have ei := h.2.1 i hi
  refine ⟨by rw [ei]; omega, ?_⟩
  rw [ei, eO, eL]
  rcases g with ⟨b, t, t', q1, q2, q3⟩ | ⟨q0, b, c, l, q1, q2, q3, q4, q5, q6, q7, q8⟩ | ⟨q0, b, q1, q2, q3, q4, q5⟩ | q | ⟨q0, b, u, q1, q2⟩ | ⟨q0, q1, b, q2, q3⟩
  · have hb : b < nb := by rw [q1] at g0; exact g0
    have hn : ¬ (O i = 7 ∨ O i = 8) := fun q => by
      rcases q3 with ⟨r, _⟩ | ⟨r, _⟩ | ⟨r, _⟩ | ⟨r, _⟩ | ⟨r, _⟩ | ⟨r, _⟩ | ⟨r, _⟩ | ⟨r, _⟩ | ⟨r, _⟩ <;> rw [r] at q <;> exact absurd q (by decide)
    have eA' : A' i = A i := by
      rcases eA with e | e
      · exact e
      · exact absurd e hn
    have hi3 : i + 1 < mm := by
      rcases hi2 with e | e | ⟨e1, e2⟩
      · exact e
      · exact absurd (Or.inl e) hn
      · exfalso
        rcases q3 with ⟨r, _⟩ | ⟨r, _⟩ | ⟨r, _⟩ | ⟨r, _⟩ | ⟨r, _⟩ | ⟨r, r2, _⟩ | ⟨r, r2, _⟩ | ⟨r, ⟨k, r1, r2, r3⟩, _⟩ | ⟨r, _⟩
        · rw [r] at e1; exact absurd e1 (by decide)
        · rw [r] at e1; exact absurd e1 (by decide)
        · rw [r] at e1; exact absurd e1 (by decide)
        · rw [r] at e1; exact absurd e1 (by decide)
        · rw [r] at e1; exact absurd e1 (by decide)
        · rw [r2] at e2; exact absurd e2 (by decide)
        · rw [r2] at e2; exact absurd e2 (by decide)
        · rw [r3] at e2; exact absurd e2 (nI_ne0 (by omega) (by omega))
        · rw [r] at e1; exact absurd e1 (by decide)
    rw [eA', h.2.1 _ hi3]
    exact Or.inl ⟨b, t, t', q1, q2, h.st hb q3⟩
  · have hb : b < nb := by rw [q1] at g0; exact g0
    have eA' : A' i = A i := by
      rcases eA with e | e | e
      · exact e
      · rw [q0] at e; exact absurd e (by decide)
      · rw [q0] at e; exact absurd e (by decide)
    have hi3 : i + 1 < mm := by
      rcases hi2 with e | e | ⟨e, _⟩
      · exact e
      · rw [q0] at e; exact absurd e (by decide)
      · rw [q0] at e; exact absurd e (by decide)
    obtain ⟨e1, e2, e3, e4, -⟩ := h.1 c q3
    obtain ⟨-, -, -, eb, -⟩ := h.1 b hb
    rw [eA', h.2.1 _ hi3]
    exact Or.inr (Or.inl ⟨q0, b, c, l, by rw [e2]; exact q1, q2, by omega, q4, by rw [eb]; exact q5, by rw [e3]; exact q6, q7, by rw [e1, (h.an l hb).1]; exact q8⟩)
  · have hb : b < nb := by rw [q1] at g0; exact g0
    have eA' : A' i = A i := by
      rcases eA with e | e | e
      · exact e
      · rw [q0] at e; exact absurd e (by decide)
      · rw [q0] at e; exact absurd e (by decide)
    have hi3 : i + 1 < mm := by
      rcases hi2 with e | e | ⟨e, _⟩
      · exact e
      · rw [q0] at e; exact absurd e (by decide)
      · rw [q0] at e; exact absurd e (by decide)
    have ec : g_c Δ b = g_c Γ b := by rcases (h.1 _ hb).2.2.2.2 with q | q <;> omega
    rw [eA', h.2.1 _ hi3]
    exact Or.inr (Or.inr (Or.inl ⟨q0, b, q1, q2, by rw [ec]; exact q3, by rw [ec]; exact q4, by rw [ec]; exact q5⟩))
  · exact Or.inr (Or.inr (Or.inr (Or.inl q)))
  · have hi3 : i + 1 < mm := by
      rcases hi2 with e | e | ⟨e, _⟩
      · exact e
      · rw [q0] at e; exact absurd e (by decide)
      · rw [q0] at e; exact absurd e (by decide)
    rw [h.2.1 _ hi3]
    exact Or.inr (Or.inr (Or.inr (Or.inr (Or.inl ⟨q0, b, u, q1, q2⟩))))
  · have hb : b < nb := by rw [q2] at g0; exact g0
    have eA' : A' i = A i := by
      rcases eA with e | e | e
      · exact e
      · rw [q0] at e; exact absurd e (by decide)
      · rw [q0] at e; exact absurd e (by decide)
    rw [eA']
    exact Or.inr (Or.inr (Or.inr (Or.inr (Or.inr ⟨q0, q1, b, q2, by rw [(h.1 b hb).2.1]; exact q3⟩))))
theorem q_GE.tq {Γ Δ : q_G} {nb mm md md' mm' i : Nat} {O A O' A' : Nat → Int32} (h : q_GE Γ Δ nb mm) (hi : i < mm) (hmd : md ≤ md') (hmm : mm ≤ mm') (hdm : md ≤ mm) (eO : ∀ j, j < md → O' j = O j) (eOi : O' i = O i) (eA : A' i = A i) (g : q_tq Γ md mm O A i) : q_tq Δ md' mm' O' A' i := by
  intro hO
  rw [eOi] at hO
  obtain ⟨t, g1, g2⟩ := g hO
  refine ⟨t, by rw [eA]; exact g1, ?_⟩
  rw [h.2.1 i hi]
  rcases g2 with ⟨q1, q2, q3, q4⟩ | ⟨q1, q2, q3⟩
  · exact Or.inl ⟨q1, by omega, by rw [h.2.1 t (by omega)]; exact q3, by rw [eO t q2]; exact q4⟩
  · exact Or.inr ⟨q1, by omega, by rw [h.2.1 t q2]; exact q3⟩
theorem q_pd.up {x y : nM} {nt nt' i : Nat} (h : q_pd x nt i) (hn : nt ≤ nt') (hj : ∀ j, j < nt → y.2 12 j = x.2 12 j ∧ y.2 13 j = x.2 13 j ∧ y.2 14 j = x.2 14 j) : q_pd y nt' i := by
  obtain ⟨j, h1, h2⟩ := h
  obtain ⟨e1, e2, e3⟩ := hj j h1
  exact ⟨j, by omega, by rw [e1, e2, e3]; exact h2⟩
/-! in a block's body: what holds between two tasks; E: jumps whose target is still wanted beside those of the tasks -/
def q_CB (x : nM) (Γ : q_G) (nb ty a b0 n nm md b : Nat) (t : q_Ty) (d : Nat) (E : Nat → Prop) : Prop :=
  q_T x ty a b0 ∧ x.1 7 = 0 ∧ x.1 11 = nI n ∧ x.1 15 = nI nm ∧ x.1 25 = nI md ∧ x.1 21 = nI (g_l Γ b) ∧ x.1 24 = nI d ∧ d ≤ 6 ∧ 2 * nm ≤ a + 1 ∧ b < nb ∧ q_BO Γ nb md 2 b ∧ (∀ k, k < nm → q_nm Γ nb x b k) ∧
  (∀ i, i < md → q_ok Γ nb (x.2 26) (x.2 27) (x.2 28) i ∧ (q_tq Γ md (md + 1) (x.2 26) (x.2 28) i ∨ q_pd x n i ∨ E i)) ∧ g_a Γ md = (b, some t)
/-- what stays for the tasks below -/
def q_FR (x y : nM) (Γ Δ : q_G) (nb n md : Nat) : Prop := (∀ j, j < n → y.2 12 j = x.2 12 j ∧ y.2 13 j = x.2 13 j ∧ y.2 14 j = x.2 14 j) ∧ (∀ k, 16 ≤ k → k ≤ 20 → y.2 k = x.2 k) ∧ (∀ j, j < md → y.2 26 j = x.2 26 j) ∧ q_GE Γ Δ nb (md + 1)
theorem q_BO.p {Γ : q_G} {nb md ph b : Nat} (h : q_BO Γ nb md ph b) : ∀ e, e < nb → g_p Γ e < nb := fun e he => by
  rcases (h.2.2.2 e he).1 with ⟨q, _⟩ | ⟨q, _⟩
  · rw [q, h.2.2.1]; exact h.1
  · omega
theorem q_GE.tr {Γ Δ Θ : q_G} {nb mm mm' : Nat} (h : q_GE Γ Δ nb mm) (g : q_GE Δ Θ nb mm') (hm : mm ≤ mm') : q_GE Γ Θ nb mm := by
  refine ⟨fun e he => ?_, fun i hi => (g.2.1 i (by omega)).trans (h.2.1 i hi), h.2.2⟩
  obtain ⟨a1, a2, a3, a4, a5⟩ := h.1 e he
  obtain ⟨b1, b2, b3, b4, b5⟩ := g.1 e he
  refine ⟨b1.trans a1, b2.trans a2, b3.trans a3, b4.trans a4, ?_⟩
  rcases a5 with q | q
  · rcases b5 with r | r
    · exact Or.inl (r.trans q)
    · exact Or.inr (q ▸ r)
  · exact Or.inr q
theorem q_FR.tr {x y z : nM} {Γ Δ Θ : q_G} {nb n n' md md' : Nat} (h : q_FR x y Γ Δ nb n md) (g : q_FR y z Δ Θ nb n' md') (hn : n ≤ n') (hm : md ≤ md') : q_FR x z Γ Θ nb n md := by
  refine ⟨fun j hj => ?_, fun k h1 h2 => (g.2.1 k h1 h2).trans (h.2.1 k h1 h2), fun j hj => (g.2.2.1 j (by omega)).trans (h.2.2.1 j hj), h.2.2.2.tr g.2.2.2 (by omega)⟩
  obtain ⟨a1, a2, a3⟩ := h.1 j hj
  obtain ⟨b1, b2, b3⟩ := g.1 j (by omega)
  exact ⟨b1.trans a1, b2.trans a2, b3.trans a3⟩
theorem q_CB.rf {x : nM} {Γ : q_G} {nb ty a b0 n nm md b d : Nat} {t : q_Ty} {E : Nat → Prop} (h : q_CB x Γ nb ty a b0 n nm md b t d E) : q_FR x x Γ Γ nb n md := ⟨fun _ _ => ⟨rfl, rfl, rfl⟩, fun _ _ _ => rfl, fun _ _ => rfl, q_GE.rf h.2.2.2.2.2.2.2.2.2.2.1.p⟩
/-- tokens and fields apart -/
theorem q_CB.cong {x y : nM} {Γ : q_G} {nb ty a b0 a' b' n nm md b d d' : Nat} {t : q_Ty} {E : Nat → Prop} (h : q_CB x Γ nb ty a b0 n nm md b t d E) (hT : q_T y ty a' b') (ha : a ≤ a') (h2 : y.2 = x.2) (h7 : y.1 7 = x.1 7) (h11 : y.1 11 = x.1 11) (h15 : y.1 15 = x.1 15) (h25 : y.1 25 = x.1 25) (h21 : y.1 21 = x.1 21) (h24 : y.1 24 = nI d') (hd : d' ≤ 6) : q_CB y Γ nb ty a' b' n nm md b t d' E := by
  obtain ⟨g1, g2, g3, g4, g5, g6, g7, g8, g9, g10, g11, g12, g13, g14⟩ := h
  refine ⟨hT, by rw [h7]; exact g2, by rw [h11]; exact g3, by rw [h15]; exact g4, by rw [h25]; exact g5, by rw [h21]; exact g6, h24, hd, by omega, g10, g11, ?_, ?_, g14⟩
  · intro k hk
    have := g12 k hk
    unfold q_nm at this ⊢
    rw [h2]; exact this
  · intro i hi
    have := g13 i hi
    unfold q_pd at this ⊢
    rw [h2]; exact this
theorem B_goOn {x : nM} {Γ : q_G} {nb ty a b0 n nm md b d : Nat} {t : q_Ty} {E : Nat → Prop} (h : q_CB x Γ nb ty a b0 n nm md b t d E) : ∃ a' b', q_CB (m_goOn x) Γ nb ty a' b' n nm md b t d E ∧ a ≤ a' ∧ (x.1 3 ≠ 0 → a + 1 ≤ a') ∧ q_FR x (m_goOn x) Γ Γ nb n md := by
  obtain ⟨-, a', b', -, k3, k4⟩ := q_goOn h.1
  have h5 := h.1.2.2.2.2.1
  refine ⟨a', b', h.cong k3 (by omega) (g_goOn x) ?_ ?_ ?_ ?_ ?_ ?_ h.2.2.2.2.2.2.2.1, by omega, fun q => by have := h.1.2.2.2.2.2.2 q; omega, ?_⟩
  · exact f_goOn _ 7 (by decide) (by decide) (by decide) (by decide)
  · exact f_goOn _ 11 (by decide) (by decide) (by decide) (by decide)
  · exact f_goOn _ 15 (by decide) (by decide) (by decide) (by decide)
  · exact f_goOn _ 25 (by decide) (by decide) (by decide) (by decide)
  · exact f_goOn _ 21 (by decide) (by decide) (by decide) (by decide)
  · rw [f_goOn _ 24 (by decide) (by decide) (by decide) (by decide)]; exact h.2.2.2.2.2.2.1
  · have := h.rf
    refine ⟨fun j hj => by rw [g_goOn]; exact ⟨rfl, rfl, rfl⟩, fun k _ _ => by rw [g_goOn], fun j _ => by rw [g_goOn], this.2.2.2⟩
theorem B_deep {x : nM} {Γ : q_G} {nb ty a b0 n nm md b d d' : Nat} {t : q_Ty} {E : Nat → Prop} (h : q_CB x Γ nb ty a b0 n nm md b t d E) (v : Int32) (hv : v = nI d') (hd : d' ≤ 6) : q_CB (nm_f x 24 v) Γ nb ty a b0 n nm md b t d' E ∧ q_FR x (nm_f x 24 v) Γ Γ nb n md :=
  ⟨h.cong (h.1.cong rfl rfl rfl rfl) (Nat.le_refl _) rfl rfl rfl rfl rfl rfl (by rw [q_f1, if_pos rfl]; exact hv) hd, h.rf⟩
theorem g_push (x : nM) (n : Nat) (h : x.1 11 = nI n) (hn : n < 2 ^ 31) (u f g : Int32) (k j : Nat) : (m_push x u f g).2 k j = if k = 14 ∧ j = n then g else if k = 13 ∧ j = n then f else if k = 12 ∧ j = n then u else x.2 k j := by
  rw [m_push, q_f2, h]
  simp only [q_a2, nI_clamp hn]
  have un : ∀ (f : Nat → Int32) (w : Int32), upd f n w j = if j = n then w else f j := fun f w => rfl
  by_cases e14 : k = 14
  · subst e14; simp [un]
  by_cases e13 : k = 13
  · subst e13; simp [un]
  by_cases e12 : k = 12
  · subst e12; simp [un]
  simp [e14, e13, e12]
theorem f_push (x : nM) (u f g : Int32) (k : Nat) (h : k ≠ 11) : (m_push x u f g).1 k = x.1 k := by rw [m_push, q_f1, if_neg h]; rfl
theorem B_push {x : nM} {Γ : q_G} {nb ty a b0 n nm md b d : Nat} {t : q_Ty} {E : Nat → Prop} (h : q_CB x Γ nb ty a b0 n nm md b t d E) (hn : n < 260) (u f g : Int32) : q_CB (m_push x u f g) Γ nb ty a b0 (n + 1) nm md b t d E ∧ q_FR x (m_push x u f g) Γ Γ nb n md ∧ (m_push x u f g).2 12 n = u ∧ (m_push x u f g).2 13 n = f ∧ (m_push x u f g).2 14 n = g := by
  have hf := h.rf
  obtain ⟨g1, g2, g3, g4, g5, g6, g7, g8, g9, g10, g11, g12, g13, g14⟩ := h
  have gp := g_push x n g3 (by omega) u f g
  have old : ∀ k, k ≠ 12 → k ≠ 13 → k ≠ 14 → (m_push x u f g).2 k = x.2 k := fun k q1 q2 q3 => by
    funext j; rw [gp k j, if_neg (by omega), if_neg (by omega), if_neg (by omega)]
  have tk : ∀ j, j < n → (m_push x u f g).2 12 j = x.2 12 j ∧ (m_push x u f g).2 13 j = x.2 13 j ∧ (m_push x u f g).2 14 j = x.2 14 j := fun j hj => by
    refine ⟨?_, ?_, ?_⟩ <;> rw [gp] <;> rw [if_neg (by omega), if_neg (by omega), if_neg (by omega)]
  refine ⟨⟨g1.cong rfl rfl rfl rfl, g2, ?_, g4, g5, g6, g7, g8, g9, g10, g11, ?_, ?_, g14⟩, ⟨tk, fun k q1 q2 => old k (by omega) (by omega) (by omega), fun j _ => by rw [old 26 (by decide) (by decide) (by decide)], hf.2.2.2⟩, ?_, ?_, ?_⟩
  · rw [m_push, q_f1, if_pos rfl, g3]; exact nI_1 n
  · intro k hk
    have := g12 k hk
    unfold q_nm at this ⊢
    rw [old 17 (by decide) (by decide) (by decide), old 18 (by decide) (by decide) (by decide), old 19 (by decide) (by decide) (by decide), old 20 (by decide) (by decide) (by decide)]; exact this
  · intro i hi
    obtain ⟨q1, q2⟩ := g13 i hi
    rw [old 26 (by decide) (by decide) (by decide), old 27 (by decide) (by decide) (by decide), old 28 (by decide) (by decide) (by decide)]
    refine ⟨q1, ?_⟩
    rcases q2 with q | q | q
    · exact Or.inl q
    · exact Or.inr (Or.inl (q.up (by omega) tk))
    · exact Or.inr (Or.inr q)
  · rw [gp, if_neg (by omega), if_neg (by omega), if_pos ⟨rfl, rfl⟩]
  · rw [gp, if_neg (by omega), if_pos ⟨rfl, rfl⟩]
  · rw [gp, if_pos ⟨rfl, rfl⟩]
/-- the ghosts with one more instruction spoken of -/
def q_ga (Γ : q_G) (i : Nat) (v : Nat × Option q_Ty) : q_G := (Γ.1, Γ.2.1, Γ.2.2.1, Γ.2.2.2.1, Γ.2.2.2.2.1, fun j => if j = i then v else Γ.2.2.2.2.2 j)
theorem q_ga.ge {Γ : q_G} {nb i mm : Nat} {v : Nat × Option q_Ty} (h : ∀ e, e < nb → g_p Γ e < nb) (hi : mm ≤ i) : q_GE Γ (q_ga Γ i v) nb mm := ⟨fun _ _ => ⟨rfl, rfl, rfl, rfl, Or.inl rfl⟩, fun j hj => by show (if j = i then v else _) = _; rw [if_neg (by omega)], h⟩
theorem q_ga.at {Γ : q_G} {i : Nat} {v : Nat × Option q_Ty} : g_a (q_ga Γ i v) i = v := by show (if i = i then v else _) = v; rw [if_pos rfl]
theorem g_emit (x : nM) (n : Nat) (h : x.1 25 = nI n) (hn : n < 2 ^ 31) (u f g : Int32) (k j : Nat) : (m_emit x u f g).1.2 k j = if k = 28 ∧ j = n then g else if k = 27 ∧ j = n then f else if k = 26 ∧ j = n then u else x.2 k j := by
  rw [m_emit, h]
  show (nm_f (nm_a (nm_a (nm_a x 26 (nI n) u) 27 (nI n) f) 28 (nI n) g) 25 (nI n + 1)).2 k j = _
  rw [q_f2]
  simp only [q_a2, nI_clamp hn]
  have un : ∀ (f : Nat → Int32) (w : Int32), upd f n w j = if j = n then w else f j := fun f w => rfl
  by_cases e14 : k = 28
  · subst e14; simp [un]
  by_cases e13 : k = 27
  · subst e13; simp [un]
  by_cases e12 : k = 26
  · subst e12; simp [un]
  simp [e14, e13, e12]
theorem f_emit (x : nM) (u f g : Int32) (k : Nat) (h : k ≠ 25) : (m_emit x u f g).1.1 k = x.1 k := by rw [m_emit]; show (nm_f _ 25 _).1 k = _; rw [q_f1, if_neg h]; rfl
/-- an instruction added in the body: what it is, what it needs, where it may lead -/
theorem B_emit {x : nM} {Γ : q_G} {nb ty a b0 n nm md b d : Nat} {t t' : q_Ty} {E E' : Nat → Prop} (h : q_CB x Γ nb ty a b0 n nm md b t d E) (hm : md < 400) (O L A : Int32) (hE : ∀ i, E i → E' i)
    (hok : ∀ (O' L' A' : Nat → Int32), O' md = O → L' md = L → A' md = A → q_ok (q_ga Γ (md + 1) (b, some t')) nb O' L' A' md) (htq : (O = 7 ∨ O = 8) → E' md ∨ ∃ j, A = nI j ∧ j ≤ md ∧ g_a Γ j = (b, some [])) :
    q_CB (m_emit x O L A).1 (q_ga Γ (md + 1) (b, some t')) nb ty a b0 n nm (md + 1) b t' d E' ∧ q_FR x (m_emit x O L A).1 Γ (q_ga Γ (md + 1) (b, some t')) nb n md ∧ (m_emit x O L A).2 = nI md ∧ (m_emit x O L A).1.2 26 md = O ∧ g_a (q_ga Γ (md + 1) (b, some t')) md = (b, some t) := by
  have hf := h.rf
  obtain ⟨g1, g2, g3, g4, g5, g6, g7, g8, g9, g10, g11, g12, g13, g14⟩ := h
  have gp := g_emit x md g5 (by omega) O L A
  have ge : q_GE Γ (q_ga Γ (md + 1) (b, some t')) nb (md + 1) := q_ga.ge g11.p (Nat.le_refl _)
  have old : ∀ k, k ≠ 26 → k ≠ 27 → k ≠ 28 → (m_emit x O L A).1.2 k = x.2 k := fun k q1 q2 q3 => by
    funext j; rw [gp k j, if_neg (by omega), if_neg (by omega), if_neg (by omega)]
  have cd : ∀ k j, j < md → (m_emit x O L A).1.2 k j = x.2 k j := fun k j hj => by rw [gp, if_neg (by omega), if_neg (by omega), if_neg (by omega)]
  have n26 : (m_emit x O L A).1.2 26 md = O := by rw [gp, if_neg (by omega), if_neg (by omega), if_pos ⟨rfl, rfl⟩]
  have n27 : (m_emit x O L A).1.2 27 md = L := by rw [gp, if_neg (by omega), if_pos ⟨rfl, rfl⟩]
  have n28 : (m_emit x O L A).1.2 28 md = A := by rw [gp, if_pos ⟨rfl, rfl⟩]
  have amd : g_a (q_ga Γ (md + 1) (b, some t')) md = (b, some t) := (ge.2.1 md (by omega)).trans g14
  refine ⟨⟨g1.cong ?_ ?_ ?_ ?_, ?_, ?_, ?_, ?_, ?_, ?_, g8, g9, g10, ?_, ?_, ?_, q_ga.at⟩, ⟨fun j _ => by rw [old 12 (by decide) (by decide) (by decide), old 13 (by decide) (by decide) (by decide), old 14 (by decide) (by decide) (by decide)]; exact ⟨rfl, rfl, rfl⟩, fun k q1 q2 => old k (by omega) (by omega) (by omega), fun j hj => cd 26 j hj, ge⟩, ?_, n26, amd⟩
  · exact f_emit _ _ _ _ 1 (by decide)
  · exact f_emit _ _ _ _ 3 (by decide)
  · exact f_emit _ _ _ _ 4 (by decide)
  · exact f_emit _ _ _ _ 6 (by decide)
  · rw [f_emit _ _ _ _ 7 (by decide)]; exact g2
  · rw [f_emit _ _ _ _ 11 (by decide)]; exact g3
  · rw [f_emit _ _ _ _ 15 (by decide)]; exact g4
  · rw [m_emit, g5]; exact nI_1 md
  · rw [f_emit _ _ _ _ 21 (by decide)]; exact g6
  · rw [f_emit _ _ _ _ 24 (by decide)]; exact g7
  · obtain ⟨k1, k2, k3, k4⟩ := g11
    refine ⟨k1, k2, k3, fun e he => ?_⟩
    obtain ⟨m1, m2, m3, m4, m5⟩ := k4 e he
    have h5 : g_e Γ e < md := by rcases m5 with q | ⟨q, _⟩; exact q; exact absurd q (by decide)
    exact ⟨m1, m2, m3, (ge.2.1 _ (show g_e Γ e < md + 1 by omega)).trans m4, Or.inl (show g_e Γ e < md + 1 by omega)⟩
  · intro k hk
    exact ge.nm (Nat.le_refl _) g10 (by rw [old 17 (by decide) (by decide) (by decide)]) (by rw [old 18 (by decide) (by decide) (by decide)]) (by rw [old 19 (by decide) (by decide) (by decide)]) (by rw [old 20 (by decide) (by decide) (by decide)]) (g12 k hk)
  · intro i hi
    by_cases e : i = md
    · subst e
      refine ⟨hok _ _ _ n26 n27 n28, ?_⟩
      by_cases hO : O = 7 ∨ O = 8
      · rcases htq hO with q | ⟨j, q1, q2, q3⟩
        · exact Or.inr (Or.inr q)
        · refine Or.inl (fun _ => ⟨j, by rw [n28]; exact q1, Or.inr ⟨(by rw [amd]; simp), by omega, ?_⟩⟩)
          rw [amd, ge.2.1 j (by omega)]; exact q3
      · exact Or.inl (fun q => by rw [n26] at q; exact absurd q hO)
    · obtain ⟨q1, q2⟩ := g13 i (by omega)
      refine ⟨ge.ok (Nat.le_refl _) (by omega) (Or.inl (by omega)) (cd 26 i (by omega)) (cd 27 i (by omega)) (Or.inl (cd 28 i (by omega))) q1, ?_⟩
      rcases q2 with q | q | q
      · exact Or.inl (ge.tq (by omega) (by omega) (by omega) (by omega) (fun j hj => cd 26 j hj) (cd 26 i (by omega)) (cd 28 i (by omega)) q)
      · exact Or.inr (Or.inl (q.up (Nat.le_refl _) (fun j _ => by rw [old 12 (by decide) (by decide) (by decide), old 13 (by decide) (by decide) (by decide), old 14 (by decide) (by decide) (by decide)]; exact ⟨rfl, rfl, rfl⟩)))
      · exact Or.inr (Or.inr (hE i q))
  · rw [m_emit, g5]; show nI md + 1 - 1 = _; rw [nI_1]; exact nz_dm md
/-- a jump led here -/
theorem B_patch {x : nM} {Γ : q_G} {nb ty a b0 n nm md b d j : Nat} {E E' : Nat → Prop} {t : q_Ty} (h : q_CB x Γ nb ty a b0 n nm md b [] d E) (hj : j < md) (hm : md < 400) (ha : g_a Γ j = (b, some t)) (hO : x.2 26 j = 7 ∨ x.2 26 j = 8) (hE : ∀ i, E i → i = j ∨ E' i) :
    q_CB (nm_a x 28 (nI j) (x.1 25)) Γ nb ty a b0 n nm md b [] d E' ∧ q_FR x (nm_a x 28 (nI j) (x.1 25)) Γ Γ nb n md := by
  have hf := h.rf
  obtain ⟨g1, g2, g3, g4, g5, g6, g7, g8, g9, g10, g11, g12, g13, g14⟩ := h
  have ge : q_GE Γ Γ nb (md + 1) := q_GE.rf g11.p
  have gp : ∀ k i, (nm_a x 28 (nI j) (x.1 25)).2 k i = if k = 28 ∧ i = j then nI md else x.2 k i := fun k i => by
    rw [q_a2, nI_clamp (by omega), g5]
    by_cases e : k = 28
    · subst e
      show (if 28 = 28 then (fun q => if q = j then nI md else x.2 28 q) else _) i = _
      simp
    · simp [e]
  have old : ∀ k, k ≠ 28 → (nm_a x 28 (nI j) (x.1 25)).2 k = x.2 k := fun k q => by funext i; rw [gp, if_neg (by omega)]
  refine ⟨⟨g1.cong rfl rfl rfl rfl, g2, g3, g4, g5, g6, g7, g8, g9, g10, g11, ?_, ?_, g14⟩, ⟨fun j _ => ⟨rfl, rfl, rfl⟩, fun k q1 q2 => old k (by omega), fun _ _ => rfl, hf.2.2.2⟩⟩
  · intro k hk; exact g12 k hk
  · intro i hi
    obtain ⟨q1, q2⟩ := g13 i hi
    have e26 : (nm_a x 28 (nI j) (x.1 25)).2 26 = x.2 26 := old 26 (by decide)
    have e27 : (nm_a x 28 (nI j) (x.1 25)).2 27 = x.2 27 := old 27 (by decide)
    rw [e26, e27]
    by_cases e : i = j
    · subst e
      refine ⟨ge.ok (Nat.le_refl _) (by omega) (Or.inl (by omega)) rfl rfl (Or.inr hO) q1, Or.inl (fun _ => ⟨md, by rw [gp, if_pos ⟨rfl, rfl⟩], Or.inr ⟨by rw [ha]; simp, by omega, by rw [ha]; exact g14⟩⟩)⟩
    · have e28 : (nm_a x 28 (nI j) (x.1 25)).2 28 i = x.2 28 i := by rw [gp, if_neg (by omega)]
      refine ⟨ge.ok (Nat.le_refl _) (by omega) (Or.inl (by omega)) rfl rfl (Or.inl e28) q1, ?_⟩
      rcases q2 with q | q | q
      · exact Or.inl (ge.tq (by omega) (by omega) (by omega) (by omega) (fun _ _ => rfl) rfl e28 q)
      · exact Or.inr (Or.inl (q.up (Nat.le_refl _) (fun _ _ => ⟨rfl, rfl, rfl⟩)))
      · rcases hE i q with q | q
        · exact absurd q e
        · exact Or.inr (Or.inr q)
/-- what the task at place n waits for -/
def q_p1 (x : nM) (n i : Nat) : Prop := (x.2 12 n = 1 ∧ x.2 13 n = nI i) ∨ (x.2 12 n = 9 ∧ x.2 13 n = nI i) ∨ (x.2 12 n = 10 ∧ x.2 13 n = nI i) ∨ (x.2 12 n = 12 ∧ x.2 14 n = nI i)
theorem FR_TS {x y : nM} {Γ Δ : q_G} {nb n md md' a a' : Nat} {c : q_C} (h : q_FR x y Γ Δ nb n md) (hm : md ≤ md') (ha : a ≤ a') (g : q_TS Γ nb x md (md + 1) a n c) : q_TS Δ nb y md' (md' + 1) a' n c :=
  h.2.2.2.TS (Nat.le_refl _) hm (by omega) (by omega) ha h.2.2.1 n c h.1 (fun k _ => ⟨by rw [h.2.1 17 (by decide) (by decide)], by rw [h.2.1 18 (by decide) (by decide)]⟩) g
theorem TS_cons {Γ : q_G} {nb : Nat} {x : nM} {md mm a n kd : Nat} {c c' : q_C} (hc : c.1 < nb) (hk : kd < 24) (h12 : x.2 12 n = nI kd) (h : q_ru Γ x md mm a n kd (x.2 13 n) (x.2 14 n) c c') (g : q_TS Γ nb x md mm a n c') : q_TS Γ nb x md mm a (n + 1) c := ⟨hc, kd, c', hk, h12, h, g⟩
/-- the end of a step -/
def q_SR (y : nM) (ty r : Nat) : Prop := y.1 7 ≠ 0 ∨ ∃ Γ nb a b0 nt nm md c, q_CI y Γ nb ty a b0 nt nm md r c
theorem CB_CI {y : nM} {Γ : q_G} {nb ty a b0 n nm md b d r ns : Nat} {t : q_Ty} {E : Nat → Prop} (h : q_CB y Γ nb ty a b0 n nm md b t d E) (hE : ∀ i, i < md → E i → q_pd y n i) (hs : ns ≤ nm) (hT : q_TS Γ nb y md (md + 1) a n (b, 2, t, d, ns)) (hw : md + q_we y n ≤ 2 * a + 3) (hr : q_wt y n + 8 * (ty - a) ≤ r) : q_SR y ty r := by
  obtain ⟨g1, g2, g3, g4, g5, g6, g7, g8, g9, g10, g11, g12, g13, g14⟩ := h
  refine Or.inr ⟨Γ, nb, a, b0, n, nm, md, (b, 2, t, d, ns), g1, g2, g3, g4, g5, g6, g7, g8, hs, g9, g10, g11, g12, ⟨fun i hi => ?_, fun q => absurd rfl q⟩, ⟨fun q => absurd (show (2 : Nat) = 0 from q) (by decide), fun q => absurd (show (2 : Nat) = 1 from q) (by decide), fun _ => g14⟩, hT, hw, hr⟩
  obtain ⟨q1, q2⟩ := g13 i hi
  refine ⟨q1, ?_⟩
  rcases q2 with q | q | q
  · exact Or.inl q
  · exact Or.inr q
  · exact Or.inr (hE i hi q)
/-- the task taken off, in a body -/
theorem CI_CB {x : nM} {Γ : q_G} {nb ty a b0 n nm md r b d ns : Nat} {t : q_Ty} (h : q_CI x Γ nb ty a b0 (n + 1) nm md r (b, 2, t, d, ns)) : q_CB (nm_f x 11 (x.1 11 - 1)) Γ nb ty a b0 n nm md b t d (q_p1 x n) ∧ ns ≤ nm ∧ ∃ kd c', kd < 24 ∧ x.2 12 n = nI kd ∧ q_ru Γ x md (md + 1) a n kd (x.2 13 n) (x.2 14 n) (b, 2, t, d, ns) c' ∧ q_TS Γ nb (nm_f x 11 (x.1 11 - 1)) md (md + 1) a n c' := by
  obtain ⟨g1, g2, g3, g4, g5, g6, g7, g8, hs, g9, g10, g11, g12, ⟨g13, -⟩, ⟨-, -, g14⟩, gT, -⟩ := h
  have e11 : x.1 11 - 1 = nI n := by rw [g3]; exact nz_dm n
  refine ⟨⟨g1.cong rfl rfl rfl rfl, g2, by rw [q_f1, if_pos rfl]; exact e11, g4, g5, g6, g7, g8, g9, g10, g11, g12, ?_, g14 rfl⟩, hs, ?_⟩
  · intro i hi
    obtain ⟨q1, q2⟩ := g13 i hi
    refine ⟨q1, ?_⟩
    rcases q2 with q | ⟨j, q, q'⟩
    · exact Or.inl q
    · by_cases e : j = n
      · subst e; exact Or.inr (Or.inr q')
      · exact Or.inr (Or.inl ⟨j, by omega, q'⟩)
  · obtain ⟨-, kd, c', k1, k2, k3, k4⟩ := gT
    refine ⟨kd, c', k1, k2, k3, ?_⟩
    exact (q_GE.rf (mm := md + 1) g11.p).TS (x := x) (y := nm_f x 11 (x.1 11 - 1)) (mm := md + 1) (Nat.le_refl _) (Nat.le_refl _) (Nat.le_refl _) (by omega) (Nat.le_refl _) (fun _ _ => rfl) n c' (fun _ _ => ⟨rfl, rfl, rfl⟩) (fun _ _ => ⟨rfl, rfl⟩) k4
