/-! the start at the script: all premises hold there -/
/-- words that look at the tables of classes alone -/
def rf_vo : Jvm.Cond → Bool
  | .arrayClass .. => true
  | .arrayOver .. => true
  | .castable .. => true
  | .classLink .. => true
  | .code .. => true
  | .codeSync .. => true
  | .codeWith .. => true
  | .constantLong .. => true
  | .declares .. => true
  | .fieldLink .. => true
  | .fieldLinkNest .. => true
  | .initialized .. => true
  | .instanceMethod .. => true
  | .instantiable .. => true
  | .lays .. => true
  | .laysFinal .. => true
  | .methodLink .. => true
  | .methodLinkNest .. => true
  | .native .. => true
  | .privateMethod .. => true
  | .sameMethod .. => true
  | .selects .. => true
  | .soleField .. => true
  | .static .. => true
  | .superclass .. => true
  | _ => false
theorem rf_vo_of {c : Jvm.Cond} {a : Array Value} {s : State} {hh : Heap} {u : Nat} (h : rf_vo c = true) (hb : c.before a s = true) : c.before a { s with heap := hh, slotsUsed := u } = true := by
  cases c <;> first | (cases h; done) | exact hb
set_option maxRecDepth 100000 in
theorem rf_oth : (tables_1.all fun c => rf_vo c || c.before start1.args0 (start1.aboutOf rf_sc)) = true := by decide +kernel
theorem rf_words : ∀ c ∈ (Cond.code x code maxLocals ret :: tables_1), c.before start1.args0 (start1.aboutOf rf_sc) = true := by
  intro c hc
  have hw := start1.words c hc
  rcases List.mem_cons.mp hc with h | h
  · subst h
    exact rf_vo_of (s := start1.about) (hh := (start1.aboutOf rf_sc).heap) (u := (start1.aboutOf rf_sc).slotsUsed) rfl hw
  · have ho := List.all_eq_true.mp rf_oth c h
    rw [Bool.or_eq_true] at ho
    rcases ho with ho | ho
    · exact rf_vo_of (s := start1.about) (hh := (start1.aboutOf rf_sc).heap) (u := (start1.aboutOf rf_sc).slotsUsed) ho hw
    · exact ho
set_option maxRecDepth 100000 in
theorem rf_atStart : AtStart classFile x code maxLocals ret World_1 tables_1 room_1 Calls_1 rest_1 Pre_1 launch0 start1.p0 start1.e0 (start1.aboutOf rf_sc) ⟨0, 0⟩ start1.args0 Lib.HandBits.below0 := by
  obtain ⟨h1, h2, h3, h4, h5, h6, -, -, -, -, h7, -, -⟩ := start1.atStart
  refine ⟨h1, h2, h3, h4, h5, h6, rfl, by decide +kernel, by decide +kernel, (Spec.applies_iff rfl).mpr ⟨rfl, rfl, rfl, by decide +kernel, by decide +kernel, by decide +kernel, ?_, atoms_intro rf_words⟩, h7, ?_, ?_⟩
  · exact launch0.hasRoom_least _ room_1 (by decide +kernel) (by decide +kernel) (by decide +kernel) (by decide +kernel) (by decide +kernel) (by decide +kernel)
  · show rest_1_c.before start1.args0 (start1.aboutOf rf_sc) = true
    decide +kernel
  · show (Cond.and given_1 narrow_1).before start1.args0 (start1.aboutOf rf_sc) = true
    decide +kernel
