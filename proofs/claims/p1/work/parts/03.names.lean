/-! names: classes, fields, methods (by wip/p1/gen.py) -/
def R_NP : String := "NestPascal"
def R_Co : String := "NestPascal$Code"
def R_Cm : String := "NestPascal$Compiler"
def R_Ma : String := "NestPascal$Machine"
def R_Nm : String := "NestPascal$Name"
def R_Ns : String := "NestPascal$Names"
def R_Ts : String := "NestPascal$Tokens"
def R_To : String := "NestPascal$Token"
def R_Mo : String := "NestPascalModel"
def R_La : String := "NestPascalLaw"
def T_NP : u_T := fun k => match k with
  | 0 => ("NestPascal", "text", "[C", true)
  | 1 => ("NestPascal", "textLength", "I", false)
  | 2 => ("NestPascal", "compiler", "LNestPascal$Compiler;", true)
  | 3 => ("NestPascal", "program", "LNestPascal$Code;", true)
  | _ => ("NestPascal", "machine", "LNestPascal$Machine;", true)
def t_NP : Nat → FieldType := fun k => match k with
  | 0 => .array .char
  | 1 => .int
  | 2 => .object "NestPascal$Compiler"
  | 3 => .object "NestPascal$Code"
  | _ => .object "NestPascal$Machine"
theorem nm_NP : ∀ a, a < 5 → ∀ b, b < 5 → a ≠ b → (T_NP a).2.1 ≠ (T_NP b).2.1 := by decide +kernel
theorem ok_NP : ∀ k, k < 5 → parseFieldDescriptor (T_NP k).2.2.1 = some (t_NP k) := by decide +kernel
theorem fd_NP : ∀ j, j < 5 → defaultValue (t_NP j) = vp_V [.null, .int 0, .null, .null, .null] j
  | 0, _ => rfl
  | 1, _ => rfl
  | 2, _ => rfl
  | 3, _ => rfl
  | 4, _ => rfl
  | n + 5, h => absurd h (by omega)
theorem in_NP : ∀ w ∈ u_ws R_NP T_NP 5, w ∈ nn_gw := by
  intro w hw
  obtain ⟨k, hk, rfl⟩ := List.mem_map.mp hw
  have hk : k < 5 := List.mem_range.mp hk
  exact (match k, hk with
    | 0, _ => nn_at 276 (by decide +kernel) (by decide +kernel)
    | 1, _ => nn_at 278 (by decide +kernel) (by decide +kernel)
    | 2, _ => nn_at 280 (by decide +kernel) (by decide +kernel)
    | 3, _ => nn_at 282 (by decide +kernel) (by decide +kernel)
    | 4, _ => nn_at 284 (by decide +kernel) (by decide +kernel)
    | n + 5, h => absurd h (by omega))
def T_Co : u_T := fun k => match k with
  | 0 => ("NestPascal$Code", "operations", "[I", true)
  | 1 => ("NestPascal$Code", "links", "[I", true)
  | 2 => ("NestPascal$Code", "operands", "[I", true)
  | _ => ("NestPascal$Code", "size", "I", false)
def t_Co : Nat → FieldType := fun k => match k with
  | 0 => .array .int
  | 1 => .array .int
  | 2 => .array .int
  | _ => .int
theorem nm_Co : ∀ a, a < 4 → ∀ b, b < 4 → a ≠ b → (T_Co a).2.1 ≠ (T_Co b).2.1 := by decide +kernel
theorem ok_Co : ∀ k, k < 4 → parseFieldDescriptor (T_Co k).2.2.1 = some (t_Co k) := by decide +kernel
theorem fd_Co : ∀ j, j < 4 → defaultValue (t_Co j) = vp_V [.null, .null, .null, .int 0] j
  | 0, _ => rfl
  | 1, _ => rfl
  | 2, _ => rfl
  | 3, _ => rfl
  | n + 4, h => absurd h (by omega)
theorem in_Co : ∀ w ∈ u_ws R_Co T_Co 4, w ∈ nn_gw := by
  intro w hw
  obtain ⟨k, hk, rfl⟩ := List.mem_map.mp hw
  have hk : k < 4 := List.mem_range.mp hk
  exact (match k, hk with
    | 0, _ => nn_at 210 (by decide +kernel) (by decide +kernel)
    | 1, _ => nn_at 212 (by decide +kernel) (by decide +kernel)
    | 2, _ => nn_at 214 (by decide +kernel) (by decide +kernel)
    | 3, _ => nn_at 216 (by decide +kernel) (by decide +kernel)
    | n + 4, h => absurd h (by omega))
def T_Cm : u_T := fun k => match k with
  | 0 => ("NestPascal$Compiler", "tokens", "LNestPascal$Tokens;", true)
  | 1 => ("NestPascal$Compiler", "names", "LNestPascal$Names;", true)
  | 2 => ("NestPascal$Compiler", "made", "LNestPascal$Code;", true)
  | 3 => ("NestPascal$Compiler", "deep", "I", false)
  | 4 => ("NestPascal$Compiler", "fault", "I", false)
  | _ => ("NestPascal$Compiler", "faultPlace", "I", false)
def t_Cm : Nat → FieldType := fun k => match k with
  | 0 => .object "NestPascal$Tokens"
  | 1 => .object "NestPascal$Names"
  | 2 => .object "NestPascal$Code"
  | 3 => .int
  | 4 => .int
  | _ => .int
theorem nm_Cm : ∀ a, a < 6 → ∀ b, b < 6 → a ≠ b → (T_Cm a).2.1 ≠ (T_Cm b).2.1 := by decide +kernel
theorem ok_Cm : ∀ k, k < 6 → parseFieldDescriptor (T_Cm k).2.2.1 = some (t_Cm k) := by decide +kernel
theorem fd_Cm : ∀ j, j < 6 → defaultValue (t_Cm j) = vp_V [.null, .null, .null, .int 0, .int 0, .int 0] j
  | 0, _ => rfl
  | 1, _ => rfl
  | 2, _ => rfl
  | 3, _ => rfl
  | 4, _ => rfl
  | 5, _ => rfl
  | n + 6, h => absurd h (by omega)
theorem in_Cm : ∀ w ∈ u_ws R_Cm T_Cm 6, w ∈ nn_gw := by
  intro w hw
  obtain ⟨k, hk, rfl⟩ := List.mem_map.mp hw
  have hk : k < 6 := List.mem_range.mp hk
  exact (match k, hk with
    | 0, _ => nn_at 225 (by decide +kernel) (by decide +kernel)
    | 1, _ => nn_at 227 (by decide +kernel) (by decide +kernel)
    | 2, _ => nn_at 229 (by decide +kernel) (by decide +kernel)
    | 3, _ => nn_at 231 (by decide +kernel) (by decide +kernel)
    | 4, _ => nn_at 233 (by decide +kernel) (by decide +kernel)
    | 5, _ => nn_at 235 (by decide +kernel) (by decide +kernel)
    | n + 6, h => absurd h (by omega))
def T_Ma : u_T := fun k => match k with
  | 0 => ("NestPascal$Machine", "cells", "[I", true)
  | 1 => ("NestPascal$Machine", "outputs", "[I", true)
  | 2 => ("NestPascal$Machine", "state", "I", false)
  | 3 => ("NestPascal$Machine", "next", "I", false)
  | 4 => ("NestPascal$Machine", "base", "I", false)
  | 5 => ("NestPascal$Machine", "top", "I", false)
  | 6 => ("NestPascal$Machine", "frames", "I", false)
  | _ => ("NestPascal$Machine", "outputCount", "I", false)
def t_Ma : Nat → FieldType := fun k => match k with
  | 0 => .array .int
  | 1 => .array .int
  | 2 => .int
  | 3 => .int
  | 4 => .int
  | 5 => .int
  | 6 => .int
  | _ => .int
theorem nm_Ma : ∀ a, a < 8 → ∀ b, b < 8 → a ≠ b → (T_Ma a).2.1 ≠ (T_Ma b).2.1 := by decide +kernel
theorem ok_Ma : ∀ k, k < 8 → parseFieldDescriptor (T_Ma k).2.2.1 = some (t_Ma k) := by decide +kernel
theorem fd_Ma : ∀ j, j < 8 → defaultValue (t_Ma j) = vp_V [.null, .null, .int 0, .int 0, .int 0, .int 0, .int 0, .int 0] j
  | 0, _ => rfl
  | 1, _ => rfl
  | 2, _ => rfl
  | 3, _ => rfl
  | 4, _ => rfl
  | 5, _ => rfl
  | 6, _ => rfl
  | 7, _ => rfl
  | n + 8, h => absurd h (by omega)
theorem in_Ma : ∀ w ∈ u_ws R_Ma T_Ma 8, w ∈ nn_gw := by
  intro w hw
  obtain ⟨k, hk, rfl⟩ := List.mem_map.mp hw
  have hk : k < 8 := List.mem_range.mp hk
  exact (match k, hk with
    | 0, _ => nn_at 254 (by decide +kernel) (by decide +kernel)
    | 1, _ => nn_at 256 (by decide +kernel) (by decide +kernel)
    | 2, _ => nn_at 258 (by decide +kernel) (by decide +kernel)
    | 3, _ => nn_at 260 (by decide +kernel) (by decide +kernel)
    | 4, _ => nn_at 262 (by decide +kernel) (by decide +kernel)
    | 5, _ => nn_at 264 (by decide +kernel) (by decide +kernel)
    | 6, _ => nn_at 266 (by decide +kernel) (by decide +kernel)
    | 7, _ => nn_at 268 (by decide +kernel) (by decide +kernel)
    | n + 8, h => absurd h (by omega))
def T_Nm : u_T := fun k => match k with
  | 0 => ("NestPascal$Name", "id", "I", false)
  | 1 => ("NestPascal$Name", "kind", "I", false)
  | 2 => ("NestPascal$Name", "level", "I", false)
  | 3 => ("NestPascal$Name", "place", "I", false)
  | _ => ("NestPascal$Name", "size", "I", false)
def t_Nm : Nat → FieldType := fun k => match k with
  | 0 => .int
  | 1 => .int
  | 2 => .int
  | 3 => .int
  | _ => .int
theorem nm_Nm : ∀ a, a < 5 → ∀ b, b < 5 → a ≠ b → (T_Nm a).2.1 ≠ (T_Nm b).2.1 := by decide +kernel
theorem ok_Nm : ∀ k, k < 5 → parseFieldDescriptor (T_Nm k).2.2.1 = some (t_Nm k) := by decide +kernel
theorem fd_Nm : ∀ j, j < 5 → defaultValue (t_Nm j) = vp_V [.int 0, .int 0, .int 0, .int 0, .int 0] j
  | 0, _ => rfl
  | 1, _ => rfl
  | 2, _ => rfl
  | 3, _ => rfl
  | 4, _ => rfl
  | n + 5, h => absurd h (by omega)
theorem in_Nm : ∀ w ∈ u_ws R_Nm T_Nm 5, w ∈ nn_gw := by
  intro w hw
  obtain ⟨k, hk, rfl⟩ := List.mem_map.mp hw
  have hk : k < 5 := List.mem_range.mp hk
  exact (match k, hk with
    | 0, _ => nn_at 176 (by decide +kernel) (by decide +kernel)
    | 1, _ => nn_at 178 (by decide +kernel) (by decide +kernel)
    | 2, _ => nn_at 180 (by decide +kernel) (by decide +kernel)
    | 3, _ => nn_at 182 (by decide +kernel) (by decide +kernel)
    | 4, _ => nn_at 184 (by decide +kernel) (by decide +kernel)
    | n + 5, h => absurd h (by omega))
def T_Ns : u_T := fun k => match k with
  | 0 => ("NestPascal$Names", "declared", "[LNestPascal$Name;", true)
  | 1 => ("NestPascal$Names", "count", "I", false)
  | 2 => ("NestPascal$Names", "countAround", "[I", true)
  | _ => ("NestPascal$Names", "level", "I", false)
def t_Ns : Nat → FieldType := fun k => match k with
  | 0 => .array (.object "NestPascal$Name")
  | 1 => .int
  | 2 => .array .int
  | _ => .int
theorem nm_Ns : ∀ a, a < 4 → ∀ b, b < 4 → a ≠ b → (T_Ns a).2.1 ≠ (T_Ns b).2.1 := by decide +kernel
theorem ok_Ns : ∀ k, k < 4 → parseFieldDescriptor (T_Ns k).2.2.1 = some (t_Ns k) := by decide +kernel
theorem fd_Ns : ∀ j, j < 4 → defaultValue (t_Ns j) = vp_V [.null, .int 0, .null, .int 0] j
  | 0, _ => rfl
  | 1, _ => rfl
  | 2, _ => rfl
  | 3, _ => rfl
  | n + 4, h => absurd h (by omega)
theorem in_Ns : ∀ w ∈ u_ws R_Ns T_Ns 4, w ∈ nn_gw := by
  intro w hw
  obtain ⟨k, hk, rfl⟩ := List.mem_map.mp hw
  have hk : k < 4 := List.mem_range.mp hk
  exact (match k, hk with
    | 0, _ => nn_at 191 (by decide +kernel) (by decide +kernel)
    | 1, _ => nn_at 193 (by decide +kernel) (by decide +kernel)
    | 2, _ => nn_at 195 (by decide +kernel) (by decide +kernel)
    | 3, _ => nn_at 197 (by decide +kernel) (by decide +kernel)
    | n + 4, h => absurd h (by omega))
def T_Ts : u_T := fun k => match k with
  | 0 => ("NestPascal$Tokens", "kinds", "[LNestPascal$Token;", true)
  | 1 => ("NestPascal$Tokens", "places", "[I", true)
  | 2 => ("NestPascal$Tokens", "values", "[I", true)
  | 3 => ("NestPascal$Tokens", "count", "I", false)
  | _ => ("NestPascal$Tokens", "atHand", "I", false)
def t_Ts : Nat → FieldType := fun k => match k with
  | 0 => .array (.object "NestPascal$Token")
  | 1 => .array .int
  | 2 => .array .int
  | 3 => .int
  | _ => .int
theorem nm_Ts : ∀ a, a < 5 → ∀ b, b < 5 → a ≠ b → (T_Ts a).2.1 ≠ (T_Ts b).2.1 := by decide +kernel
theorem ok_Ts : ∀ k, k < 5 → parseFieldDescriptor (T_Ts k).2.2.1 = some (t_Ts k) := by decide +kernel
theorem fd_Ts : ∀ j, j < 5 → defaultValue (t_Ts j) = vp_V [.null, .null, .null, .int 0, .int 0] j
  | 0, _ => rfl
  | 1, _ => rfl
  | 2, _ => rfl
  | 3, _ => rfl
  | 4, _ => rfl
  | n + 5, h => absurd h (by omega)
theorem in_Ts : ∀ w ∈ u_ws R_Ts T_Ts 5, w ∈ nn_gw := by
  intro w hw
  obtain ⟨k, hk, rfl⟩ := List.mem_map.mp hw
  have hk : k < 5 := List.mem_range.mp hk
  exact (match k, hk with
    | 0, _ => nn_at 136 (by decide +kernel) (by decide +kernel)
    | 1, _ => nn_at 138 (by decide +kernel) (by decide +kernel)
    | 2, _ => nn_at 140 (by decide +kernel) (by decide +kernel)
    | 3, _ => nn_at 142 (by decide +kernel) (by decide +kernel)
    | 4, _ => nn_at 144 (by decide +kernel) (by decide +kernel)
    | n + 5, h => absurd h (by omega))
def T_Mo : u_T := fun k => match k with
  | 0 => ("NestPascalModel", "thrown", "I", false)
  | 1 => ("NestPascalModel", "typed", "I", false)
  | 2 => ("NestPascalModel", "text", "[C", true)
  | 3 => ("NestPascalModel", "token", "I", false)
  | 4 => ("NestPascalModel", "at", "I", false)
  | 5 => ("NestPascalModel", "value", "I", false)
  | 6 => ("NestPascalModel", "behind", "I", false)
  | 7 => ("NestPascalModel", "error", "I", false)
  | 8 => ("NestPascalModel", "place", "I", false)
  | 9 => ("NestPascalModel", "latestError", "I", false)
  | 10 => ("NestPascalModel", "latestPlace", "I", false)
  | 11 => ("NestPascalModel", "tasks", "I", false)
  | 12 => ("NestPascalModel", "task", "[I", true)
  | 13 => ("NestPascalModel", "first", "[I", true)
  | 14 => ("NestPascalModel", "second", "[I", true)
  | 15 => ("NestPascalModel", "names", "I", false)
  | 16 => ("NestPascalModel", "name", "[I", true)
  | 17 => ("NestPascalModel", "kind", "[I", true)
  | 18 => ("NestPascalModel", "nameLevel", "[I", true)
  | 19 => ("NestPascalModel", "address", "[I", true)
  | 20 => ("NestPascalModel", "many", "[I", true)
  | 21 => ("NestPascalModel", "level", "I", false)
  | 22 => ("NestPascalModel", "cellsOfBlock", "I", false)
  | 23 => ("NestPascalModel", "parameters", "I", false)
  | 24 => ("NestPascalModel", "deep", "I", false)
  | 25 => ("NestPascalModel", "made", "I", false)
  | 26 => ("NestPascalModel", "madeOp", "[I", true)
  | 27 => ("NestPascalModel", "madeL", "[I", true)
  | 28 => ("NestPascalModel", "madeA", "[I", true)
  | 29 => ("NestPascalModel", "size", "I", false)
  | 30 => ("NestPascalModel", "op", "[I", true)
  | 31 => ("NestPascalModel", "ofL", "[I", true)
  | 32 => ("NestPascalModel", "ofA", "[I", true)
  | 33 => ("NestPascalModel", "there", "Z", false)
  | 34 => ("NestPascalModel", "state", "I", false)
  | 35 => ("NestPascalModel", "next", "I", false)
  | 36 => ("NestPascalModel", "base", "I", false)
  | 37 => ("NestPascalModel", "top", "I", false)
  | 38 => ("NestPascalModel", "frames", "I", false)
  | 39 => ("NestPascalModel", "told", "I", false)
  | 40 => ("NestPascalModel", "cells", "[I", true)
  | _ => ("NestPascalModel", "written", "[I", true)
def t_Mo : Nat → FieldType := fun k => match k with
  | 0 => .int
  | 1 => .int
  | 2 => .array .char
  | 3 => .int
  | 4 => .int
  | 5 => .int
  | 6 => .int
  | 7 => .int
  | 8 => .int
  | 9 => .int
  | 10 => .int
  | 11 => .int
  | 12 => .array .int
  | 13 => .array .int
  | 14 => .array .int
  | 15 => .int
  | 16 => .array .int
  | 17 => .array .int
  | 18 => .array .int
  | 19 => .array .int
  | 20 => .array .int
  | 21 => .int
  | 22 => .int
  | 23 => .int
  | 24 => .int
  | 25 => .int
  | 26 => .array .int
  | 27 => .array .int
  | 28 => .array .int
  | 29 => .int
  | 30 => .array .int
  | 31 => .array .int
  | 32 => .array .int
  | 33 => .boolean
  | 34 => .int
  | 35 => .int
  | 36 => .int
  | 37 => .int
  | 38 => .int
  | 39 => .int
  | 40 => .array .int
  | _ => .array .int
theorem nm_Mo : ∀ a, a < 42 → ∀ b, b < 42 → a ≠ b → (T_Mo a).2.1 ≠ (T_Mo b).2.1 := by decide +kernel
theorem ok_Mo : ∀ k, k < 42 → parseFieldDescriptor (T_Mo k).2.2.1 = some (t_Mo k) := by decide +kernel
theorem fd_Mo : ∀ j, j < 42 → defaultValue (t_Mo j) = vp_V [.int 0, .int 0, .null, .int 0, .int 0, .int 0, .int 0, .int 0, .int 0, .int 0, .int 0, .int 0, .null, .null, .null, .int 0, .null, .null, .null, .null, .null, .int 0, .int 0, .int 0, .int 0, .int 0, .null, .null, .null, .int 0, .null, .null, .null, .int 0, .int 0, .int 0, .int 0, .int 0, .int 0, .int 0, .null, .null] j
  | 0, _ => rfl
  | 1, _ => rfl
  | 2, _ => rfl
  | 3, _ => rfl
  | 4, _ => rfl
  | 5, _ => rfl
  | 6, _ => rfl
  | 7, _ => rfl
  | 8, _ => rfl
  | 9, _ => rfl
  | 10, _ => rfl
  | 11, _ => rfl
  | 12, _ => rfl
  | 13, _ => rfl
  | 14, _ => rfl
  | 15, _ => rfl
  | 16, _ => rfl
  | 17, _ => rfl
  | 18, _ => rfl
  | 19, _ => rfl
  | 20, _ => rfl
  | 21, _ => rfl
  | 22, _ => rfl
  | 23, _ => rfl
  | 24, _ => rfl
  | 25, _ => rfl
  | 26, _ => rfl
  | 27, _ => rfl
  | 28, _ => rfl
  | 29, _ => rfl
  | 30, _ => rfl
  | 31, _ => rfl
  | 32, _ => rfl
  | 33, _ => rfl
  | 34, _ => rfl
  | 35, _ => rfl
  | 36, _ => rfl
  | 37, _ => rfl
  | 38, _ => rfl
  | 39, _ => rfl
  | 40, _ => rfl
  | 41, _ => rfl
  | n + 42, h => absurd h (by omega)
theorem in_Mo : ∀ w ∈ u_ws R_Mo T_Mo 42, w ∈ nn_gw := by
  intro w hw
  obtain ⟨k, hk, rfl⟩ := List.mem_map.mp hw
  have hk : k < 42 := List.mem_range.mp hk
  exact (match k, hk with
    | 0, _ => nn_at 932 (by decide +kernel) (by decide +kernel)
    | 1, _ => nn_at 934 (by decide +kernel) (by decide +kernel)
    | 2, _ => nn_at 936 (by decide +kernel) (by decide +kernel)
    | 3, _ => nn_at 938 (by decide +kernel) (by decide +kernel)
    | 4, _ => nn_at 940 (by decide +kernel) (by decide +kernel)
    | 5, _ => nn_at 942 (by decide +kernel) (by decide +kernel)
    | 6, _ => nn_at 944 (by decide +kernel) (by decide +kernel)
    | 7, _ => nn_at 946 (by decide +kernel) (by decide +kernel)
    | 8, _ => nn_at 948 (by decide +kernel) (by decide +kernel)
    | 9, _ => nn_at 950 (by decide +kernel) (by decide +kernel)
    | 10, _ => nn_at 952 (by decide +kernel) (by decide +kernel)
    | 11, _ => nn_at 954 (by decide +kernel) (by decide +kernel)
    | 12, _ => nn_at 956 (by decide +kernel) (by decide +kernel)
    | 13, _ => nn_at 958 (by decide +kernel) (by decide +kernel)
    | 14, _ => nn_at 960 (by decide +kernel) (by decide +kernel)
    | 15, _ => nn_at 962 (by decide +kernel) (by decide +kernel)
    | 16, _ => nn_at 964 (by decide +kernel) (by decide +kernel)
    | 17, _ => nn_at 966 (by decide +kernel) (by decide +kernel)
    | 18, _ => nn_at 968 (by decide +kernel) (by decide +kernel)
    | 19, _ => nn_at 970 (by decide +kernel) (by decide +kernel)
    | 20, _ => nn_at 972 (by decide +kernel) (by decide +kernel)
    | 21, _ => nn_at 974 (by decide +kernel) (by decide +kernel)
    | 22, _ => nn_at 976 (by decide +kernel) (by decide +kernel)
    | 23, _ => nn_at 978 (by decide +kernel) (by decide +kernel)
    | 24, _ => nn_at 980 (by decide +kernel) (by decide +kernel)
    | 25, _ => nn_at 982 (by decide +kernel) (by decide +kernel)
    | 26, _ => nn_at 984 (by decide +kernel) (by decide +kernel)
    | 27, _ => nn_at 986 (by decide +kernel) (by decide +kernel)
    | 28, _ => nn_at 988 (by decide +kernel) (by decide +kernel)
    | 29, _ => nn_at 990 (by decide +kernel) (by decide +kernel)
    | 30, _ => nn_at 992 (by decide +kernel) (by decide +kernel)
    | 31, _ => nn_at 994 (by decide +kernel) (by decide +kernel)
    | 32, _ => nn_at 996 (by decide +kernel) (by decide +kernel)
    | 33, _ => nn_at 998 (by decide +kernel) (by decide +kernel)
    | 34, _ => nn_at 1000 (by decide +kernel) (by decide +kernel)
    | 35, _ => nn_at 1002 (by decide +kernel) (by decide +kernel)
    | 36, _ => nn_at 1004 (by decide +kernel) (by decide +kernel)
    | 37, _ => nn_at 1006 (by decide +kernel) (by decide +kernel)
    | 38, _ => nn_at 1008 (by decide +kernel) (by decide +kernel)
    | 39, _ => nn_at 1010 (by decide +kernel) (by decide +kernel)
    | 40, _ => nn_at 1012 (by decide +kernel) (by decide +kernel)
    | 41, _ => nn_at 1014 (by decide +kernel) (by decide +kernel)
    | n + 42, h => absurd h (by omega))
abbrev nn_cls : List vw_C := [(R_NP, T_NP, 5), (R_Co, T_Co, 4), (R_Cm, T_Cm, 6), (R_Ma, T_Ma, 8), (R_Nm, T_Nm, 5), (R_Ns, T_Ns, 4), (R_Ts, T_Ts, 5), (R_Mo, T_Mo, 42)]
abbrev b_Cm_init : ByteArray := prog_4_method_1_code
def y_Cm_init : MethodName := ⟨R_Cm, "<init>", "()V"⟩
abbrev w_Cm_init : List Cond := .code y_Cm_init b_Cm_init 1 none :: nn_gw
abbrev b_Co_init : ByteArray := prog_3_method_1_code
def y_Co_init : MethodName := ⟨R_Co, "<init>", "()V"⟩
abbrev w_Co_init : List Cond := .code y_Co_init b_Co_init 1 none :: nn_gw
abbrev b_Co_isOne : ByteArray := prog_3_method_10_code
def y_Co_isOne : MethodName := ⟨R_Co, "isOne", "(I)Z"⟩
abbrev w_Co_isOne : List Cond := .code y_Co_isOne b_Co_isOne 2 (some .boolean) :: nn_gw
abbrev b_Co_links : ByteArray := prog_3_method_8_code
def y_Co_links : MethodName := ⟨R_Co, "links", "(I)I"⟩
abbrev w_Co_links : List Cond := .code y_Co_links b_Co_links 2 (some .int) :: nn_gw
abbrev b_Co_operand : ByteArray := prog_3_method_9_code
def y_Co_operand : MethodName := ⟨R_Co, "operand", "(I)I"⟩
abbrev w_Co_operand : List Cond := .code y_Co_operand b_Co_operand 2 (some .int) :: nn_gw
abbrev b_Co_operation : ByteArray := prog_3_method_7_code
def y_Co_operation : MethodName := ⟨R_Co, "operation", "(I)I"⟩
abbrev w_Co_operation : List Cond := .code y_Co_operation b_Co_operation 2 (some .int) :: nn_gw
abbrev b_Co_size : ByteArray := prog_3_method_3_code
def y_Co_size : MethodName := ⟨R_Co, "size", "()I"⟩
abbrev w_Co_size : List Cond := .code y_Co_size b_Co_size 1 (some .int) :: nn_gw
abbrev b_Ma_init : ByteArray := prog_5_method_1_code
def y_Ma_init : MethodName := ⟨R_Ma, "<init>", "()V"⟩
abbrev w_Ma_init : List Cond := .code y_Ma_init b_Ma_init 1 none :: nn_gw
abbrev b_NP_init : ByteArray := prog_1_method_1_code
def y_NP_init : MethodName := ⟨R_NP, "<init>", "()V"⟩
abbrev w_NP_init : List Cond := .code y_NP_init b_NP_init 1 none :: nn_gw
abbrev b_Nm_init : ByteArray := prog_6_method_1_code
def y_Nm_init : MethodName := ⟨R_Nm, "<init>", "()V"⟩
abbrev w_Nm_init : List Cond := .code y_Nm_init b_Nm_init 1 none :: nn_gw
abbrev b_Ns_init : ByteArray := prog_7_method_1_code
def y_Ns_init : MethodName := ⟨R_Ns, "<init>", "()V"⟩
abbrev w_Ns_init : List Cond := .code y_Ns_init b_Ns_init 2 none :: nn_gw
abbrev b_Ts_init : ByteArray := prog_9_method_1_code
def y_Ts_init : MethodName := ⟨R_Ts, "<init>", "()V"⟩
abbrev w_Ts_init : List Cond := .code y_Ts_init b_Ts_init 1 none :: nn_gw
theorem nn_oc : Cond.code objectInit ⟨#[0xb1]⟩ 1 none ∈ nn_gw := nn_at 116 (by decide +kernel) (by decide +kernel)
abbrev nn_G : Type := va_G × (Nat → ClassId)
abbrev nn_T (G : nn_G) : List (ClassId × FieldType) := [(G.2 0, .int), (G.2 1, .char), (G.2 2, .long), (G.2 3, .object "NestPascal$Token"), (G.2 4, .object "NestPascal$Name")]
/-- what the tables say beside the good words: links between nest mates, array classes of references -/
def nn_nest : List Cond := [.methodLinkNest "NestPascal" 19 ⟨"NestPascal$Compiler", "<init>", "()V"⟩ "NestPascal", .methodLinkNest "NestPascal$Compiler" 11 ⟨"NestPascal$Tokens", "<init>", "()V"⟩ "NestPascal", .methodLinkNest "NestPascal$Names" 28 ⟨"NestPascal$Name", "<init>", "()V"⟩ "NestPascal", .methodLinkNest "NestPascal$Compiler" 27 ⟨"NestPascal$Code", "<init>", "()V"⟩ "NestPascal", .methodLinkNest "NestPascal" 26 ⟨"NestPascal$Code", "<init>", "()V"⟩ "NestPascal", .methodLinkNest "NestPascal" 33 ⟨"NestPascal$Machine", "<init>", "()V"⟩ "NestPascal", .arrayOver (.object "NestPascal$Token"), .arrayOver (.object "NestPascal$Name")]
def nn_N (U : State) : Prop := ∀ w ∈ nn_nest, va_Nw w U
theorem nn_N.same {u U : State} (h : u.vm = U.vm) (hN : nn_N u) : nn_N U := by
  intro w hw
  have h1 := hN w hw
  simp only [nn_nest, List.mem_cons, List.not_mem_nil, or_false] at hw
  rcases hw with rfl | rfl | rfl | rfl | rfl | rfl | rfl | rfl
  · exact va_Nw.same rfl h h1
  · exact va_Nw.same rfl h h1
  · exact va_Nw.same rfl h h1
  · exact va_Nw.same rfl h h1
  · exact va_Nw.same rfl h h1
  · exact va_Nw.same rfl h h1
  · exact va_AO.moved (by rw [h]; exact Vm.Alike.refl U.vm) h1
  · exact va_AO.moved (by rw [h]; exact Vm.Alike.refl U.vm) h1
theorem nn_N.warm {s U : State} (hW : s.WarmedH U.vm) (hN : nn_N s) : nn_N U := by
  intro w hw
  have h1 := hN w hw
  simp only [nn_nest, List.mem_cons, List.not_mem_nil, or_false] at hw
  rcases hw with rfl | rfl | rfl | rfl | rfl | rfl | rfl | rfl
  · exact va_Nw.warmM hW h1
  · exact va_Nw.warmM hW h1
  · exact va_Nw.warmM hW h1
  · exact va_Nw.warmM hW h1
  · exact va_Nw.warmM hW h1
  · exact va_Nw.warmM hW h1
  · exact va_AO.moved hW.alike h1
  · exact va_AO.moved hW.alike h1
def nn_B (G : nn_G) (ws : va_W) (sz : Nat) (U : State) : Prop := U.heap.size = sz ∧ va_P G.1 nn_cls ws U.heap ∧ va_K G.1 nn_cls (nn_T G) U ∧ va_D (fun _ => True) ws ∧ nn_N U
abbrev nn_P (G : nn_G) (av : List Value) (ws : va_W) (sz : Nat) : Array Value → State → Prop := va_Pc av (nn_B G ws sz)
theorem nn_blind {G : nn_G} {av : List Value} {ws : va_W} {sz : Nat} : FrameBlind (nn_P G av ws sz) := fun a U g mk q => by
  obtain ⟨q0, q1, qP, qK, qD, qN⟩ := q
  exact ⟨q0, q1, qP, va_K.moved (u := U) (U := U.calling g mk a) (Vm.Alike.refl U.vm) qK, qD, nn_N.same (u := U) (U := U.calling g mk a) rfl qN⟩
theorem nn_preS {G : nn_G} {s : State} {H : Heap} {A : Nat → Prop} {As : List Value} {wc : va_W} (hP : va_P G.1 nn_cls wc H) (hD : va_D A wc) (hK : va_K G.1 nn_cls (nn_T G) s) (hN : nn_N s) : PreS s H (nn_P G As wc H.size) As :=
  ⟨nn_blind, fun U hU hW => ⟨rfl, by rw [hU], by rw [hU]; exact hP, va_K.moved hW.alike hK, hD.weaken (fun _ _ _ _ => trivial), nn_N.warm hW hN⟩⟩
theorem nn_preV {G : nn_G} {s : State} {H : Heap} {C : String} {b : Addr} {A : Nat → Prop} {As : List Value} {wc : va_W} (hr : ∃ cellB : Cell, H[b]? = some cellB ∧ cellB.vm.isStatics = false ∧ s.vm.findClass C = some cellB.cls) (hP : va_P G.1 nn_cls wc H) (hD : va_D A wc) (hK : va_K G.1 nn_cls (nn_T G) s) (hN : nn_N s) : PreV s H C b (nn_P G (.ref b :: As) wc H.size) As :=
  ⟨nn_blind, hr, fun U hU hW => ⟨rfl, by rw [hU], by rw [hU]; exact hP, va_K.moved hW.alike hK, hD.weaken (fun _ _ _ _ => trivial), nn_N.warm hW hN⟩⟩
theorem nb_out3 {x : Int32} (h0 : ¬ x = 0) (h1 : ¬ x = 1) (h2 : ¬ x = 2) : x.toInt < 0 ∨ 2 < x.toInt := by
  have a0 := lv_neT h0 (show (0 : Int32).toInt = 0 by decide)
  have a1 := lv_neT h1 (show (1 : Int32).toInt = 1 by decide)
  have a2 := lv_neT h2 (show (2 : Int32).toInt = 2 by decide)
  omega
theorem nb_out6 {x : Int32} (h0 : ¬ x = 0) (h1 : ¬ x = 1) (h2 : ¬ x = 2) (h3 : ¬ x = 3) (h4 : ¬ x = 4) (h5 : ¬ x = 5) : x.toInt < 0 ∨ 5 < x.toInt := by
  have a0 := lv_neT h0 (show (0 : Int32).toInt = 0 by decide)
  have a1 := lv_neT h1 (show (1 : Int32).toInt = 1 by decide)
  have a2 := lv_neT h2 (show (2 : Int32).toInt = 2 by decide)
  have a3 := lv_neT h3 (show (3 : Int32).toInt = 3 by decide)
  have a4 := lv_neT h4 (show (4 : Int32).toInt = 4 by decide)
  have a5 := lv_neT h5 (show (5 : Int32).toInt = 5 by decide)
  omega
