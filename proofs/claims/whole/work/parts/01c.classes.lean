abbrev R_TT : String := "TextTerms"
def F_TT : u_T := fun k => match k with
  | 0 => ("TextTerms", "fed", "LTextTerms$Bytes;", true)
  | 1 => ("TextTerms", "terms", "LTextTerms$Terms;", true)
  | 2 => ("TextTerms", "reader", "LTextTerms$Reader;", true)
  | _ => ("TextTerms", "magnitude", "LTextTerms$Magnitude;", true)
def t_TT : Nat → FieldType := fun k => match k with
  | 0 => (.object "TextTerms$Bytes")
  | 1 => (.object "TextTerms$Terms")
  | 2 => (.object "TextTerms$Reader")
  | _ => (.object "TextTerms$Magnitude")
theorem n_TT : ∀ a, a < 4 → ∀ b, b < 4 → a ≠ b → (F_TT a).2.1 ≠ (F_TT b).2.1 := by decide +kernel
theorem t_TT_ok : ∀ k, k < 4 → parseFieldDescriptor (F_TT k).2.2.1 = some (t_TT k) := by decide +kernel
theorem i_TT : ∀ w ∈ u_ws R_TT F_TT 4, w ∈ tt_T := by
  intro w hw
  obtain ⟨k, hk, rfl⟩ := List.mem_map.mp hw
  have hk := List.mem_range.mp hk
  rcases (show k = 0 ∨ k = 1 ∨ k = 2 ∨ k = 3 by omega) with rfl | rfl | rfl | rfl
  · exact k_156
  · exact k_158
  · exact k_160
  · exact k_162
abbrev R_BY : String := "TextTerms$Bytes"
def F_BY : u_T := fun k => match k with
  | 0 => ("TextTerms$Bytes", "row", "[B", true)
  | _ => ("TextTerms$Bytes", "filled", "I", false)
def t_BY : Nat → FieldType := fun k => match k with
  | 0 => (.array .byte)
  | _ => .int
theorem n_BY : ∀ a, a < 2 → ∀ b, b < 2 → a ≠ b → (F_BY a).2.1 ≠ (F_BY b).2.1 := by decide +kernel
theorem t_BY_ok : ∀ k, k < 2 → parseFieldDescriptor (F_BY k).2.2.1 = some (t_BY k) := by decide +kernel
theorem i_BY : ∀ w ∈ u_ws R_BY F_BY 2, w ∈ tt_T := by
  intro w hw
  obtain ⟨k, hk, rfl⟩ := List.mem_map.mp hw
  have hk := List.mem_range.mp hk
  rcases (show k = 0 ∨ k = 1 by omega) with rfl | rfl
  · exact k_42
  · exact k_44
abbrev R_CH : String := "TextTerms$Characters"
abbrev R_DE : String := "TextTerms$Decimal"
abbrev R_KW : String := "TextTerms$KnownWords"
abbrev R_MG : String := "TextTerms$Magnitude"
def F_MG : u_T := fun k => match k with
  | 0 => ("TextTerms$Magnitude", "limbs", "[I", true)
  | _ => ("TextTerms$Magnitude", "used", "I", false)
def t_MG : Nat → FieldType := fun k => match k with
  | 0 => (.array .int)
  | _ => .int
theorem n_MG : ∀ a, a < 2 → ∀ b, b < 2 → a ≠ b → (F_MG a).2.1 ≠ (F_MG b).2.1 := by decide +kernel
theorem t_MG_ok : ∀ k, k < 2 → parseFieldDescriptor (F_MG k).2.2.1 = some (t_MG k) := by decide +kernel
theorem i_MG : ∀ w ∈ u_ws R_MG F_MG 2, w ∈ tt_T := by
  intro w hw
  obtain ⟨k, hk, rfl⟩ := List.mem_map.mp hw
  have hk := List.mem_range.mp hk
  rcases (show k = 0 ∨ k = 1 by omega) with rfl | rfl
  · exact k_147
  · exact k_149
abbrev R_ME : String := "TextTerms$Meaning"
abbrev R_RD : String := "TextTerms$Reader"
def F_RD : u_T := fun k => match k with
  | 0 => ("TextTerms$Reader", "scanner", "LTextTerms$Scanner;", true)
  | 1 => ("TextTerms$Reader", "open", "I", false)
  | 2 => ("TextTerms$Reader", "depth", "I", false)
  | _ => ("TextTerms$Reader", "due", "I", false)
def t_RD : Nat → FieldType := fun k => match k with
  | 0 => (.object "TextTerms$Scanner")
  | 1 => .int
  | 2 => .int
  | _ => .int
theorem n_RD : ∀ a, a < 4 → ∀ b, b < 4 → a ≠ b → (F_RD a).2.1 ≠ (F_RD b).2.1 := by decide +kernel
theorem t_RD_ok : ∀ k, k < 4 → parseFieldDescriptor (F_RD k).2.2.1 = some (t_RD k) := by decide +kernel
theorem i_RD : ∀ w ∈ u_ws R_RD F_RD 4, w ∈ tt_T := by
  intro w hw
  obtain ⟨k, hk, rfl⟩ := List.mem_map.mp hw
  have hk := List.mem_range.mp hk
  rcases (show k = 0 ∨ k = 1 ∨ k = 2 ∨ k = 3 by omega) with rfl | rfl | rfl | rfl
  · exact k_130
  · exact k_132
  · exact k_134
  · exact k_136
abbrev R_SC : String := "TextTerms$Scanner"
def F_SC : u_T := fun k => match k with
  | 0 => ("TextTerms$Scanner", "token", "I", false)
  | 1 => ("TextTerms$Scanner", "from", "I", false)
  | _ => ("TextTerms$Scanner", "to", "I", false)
def t_SC : Nat → FieldType := fun k => match k with
  | 0 => .int
  | 1 => .int
  | _ => .int
theorem n_SC : ∀ a, a < 3 → ∀ b, b < 3 → a ≠ b → (F_SC a).2.1 ≠ (F_SC b).2.1 := by decide +kernel
theorem t_SC_ok : ∀ k, k < 3 → parseFieldDescriptor (F_SC k).2.2.1 = some (t_SC k) := by decide +kernel
theorem i_SC : ∀ w ∈ u_ws R_SC F_SC 3, w ∈ tt_T := by
  intro w hw
  obtain ⟨k, hk, rfl⟩ := List.mem_map.mp hw
  have hk := List.mem_range.mp hk
  rcases (show k = 0 ∨ k = 1 ∨ k = 2 by omega) with rfl | rfl | rfl
  · exact k_119
  · exact k_121
  · exact k_123
abbrev R_TM : String := "TextTerms$Terms"
def F_TM : u_T := fun k => match k with
  | 0 => ("TextTerms$Terms", "text", "LTextTerms$Bytes;", true)
  | 1 => ("TextTerms$Terms", "kinds", "[I", true)
  | 2 => ("TextTerms$Terms", "parents", "[I", true)
  | 3 => ("TextTerms$Terms", "inside", "[I", true)
  | 4 => ("TextTerms$Terms", "sizes", "[I", true)
  | 5 => ("TextTerms$Terms", "froms", "[I", true)
  | 6 => ("TextTerms$Terms", "tos", "[I", true)
  | 7 => ("TextTerms$Terms", "markFroms", "[I", true)
  | 8 => ("TextTerms$Terms", "markTos", "[I", true)
  | _ => ("TextTerms$Terms", "filled", "I", false)
def t_TM : Nat → FieldType := fun k => match k with
  | 0 => (.object "TextTerms$Bytes")
  | 1 => (.array .int)
  | 2 => (.array .int)
  | 3 => (.array .int)
  | 4 => (.array .int)
  | 5 => (.array .int)
  | 6 => (.array .int)
  | 7 => (.array .int)
  | 8 => (.array .int)
  | _ => .int
theorem n_TM : ∀ a, a < 10 → ∀ b, b < 10 → a ≠ b → (F_TM a).2.1 ≠ (F_TM b).2.1 := by decide +kernel
theorem t_TM_ok : ∀ k, k < 10 → parseFieldDescriptor (F_TM k).2.2.1 = some (t_TM k) := by decide +kernel
theorem i_TM : ∀ w ∈ u_ws R_TM F_TM 10, w ∈ tt_T := by
  intro w hw
  obtain ⟨k, hk, rfl⟩ := List.mem_map.mp hw
  have hk := List.mem_range.mp hk
  rcases (show k = 0 ∨ k = 1 ∨ k = 2 ∨ k = 3 ∨ k = 4 ∨ k = 5 ∨ k = 6 ∨ k = 7 ∨ k = 8 ∨ k = 9 by omega) with rfl | rfl | rfl | rfl | rfl | rfl | rfl | rfl | rfl | rfl
  · exact k_79
  · exact k_81
  · exact k_83
  · exact k_85
  · exact k_87
  · exact k_89
  · exact k_91
  · exact k_93
  · exact k_95
  · exact k_97
abbrev R_MO : String := "TextTermsModel"
def F_MO : u_T := fun k => match k with
  | 0 => ("TextTermsModel", "fault", "I", false)
  | 1 => ("TextTermsModel", "came", "[B", true)
  | 2 => ("TextTermsModel", "size", "I", false)
  | 3 => ("TextTermsModel", "text", "[B", true)
  | 4 => ("TextTermsModel", "length", "I", false)
  | 5 => ("TextTermsModel", "kinds", "[B", true)
  | 6 => ("TextTermsModel", "parents", "[I", true)
  | 7 => ("TextTermsModel", "begins", "[I", true)
  | 8 => ("TextTermsModel", "ends", "[I", true)
  | 9 => ("TextTermsModel", "markBegins", "[I", true)
  | 10 => ("TextTermsModel", "markEnds", "[I", true)
  | 11 => ("TextTermsModel", "count", "I", false)
  | 12 => ("TextTermsModel", "place", "I", false)
  | 13 => ("TextTermsModel", "token", "I", false)
  | 14 => ("TextTermsModel", "from", "I", false)
  | 15 => ("TextTermsModel", "to", "I", false)
  | 16 => ("TextTermsModel", "digits", "[I", true)
  | _ => ("TextTermsModel", "digitCount", "I", false)
def t_MO : Nat → FieldType := fun k => match k with
  | 0 => .int
  | 1 => (.array .byte)
  | 2 => .int
  | 3 => (.array .byte)
  | 4 => .int
  | 5 => (.array .byte)
  | 6 => (.array .int)
  | 7 => (.array .int)
  | 8 => (.array .int)
  | 9 => (.array .int)
  | 10 => (.array .int)
  | 11 => .int
  | 12 => .int
  | 13 => .int
  | 14 => .int
  | 15 => .int
  | 16 => (.array .int)
  | _ => .int
theorem n_MO : ∀ a, a < 18 → ∀ b, b < 18 → a ≠ b → (F_MO a).2.1 ≠ (F_MO b).2.1 := by decide +kernel
theorem t_MO_ok : ∀ k, k < 18 → parseFieldDescriptor (F_MO k).2.2.1 = some (t_MO k) := by decide +kernel
theorem i_MO : ∀ w ∈ u_ws R_MO F_MO 18, w ∈ tt_T := by
  intro w hw
  obtain ⟨k, hk, rfl⟩ := List.mem_map.mp hw
  have hk := List.mem_range.mp hk
  rcases (show k = 0 ∨ k = 1 ∨ k = 2 ∨ k = 3 ∨ k = 4 ∨ k = 5 ∨ k = 6 ∨ k = 7 ∨ k = 8 ∨ k = 9 ∨ k = 10 ∨ k = 11 ∨ k = 12 ∨ k = 13 ∨ k = 14 ∨ k = 15 ∨ k = 16 ∨ k = 17 by omega) with rfl | rfl | rfl | rfl | rfl | rfl | rfl | rfl | rfl | rfl | rfl | rfl | rfl | rfl | rfl | rfl | rfl | rfl
  · exact k_653
  · exact k_655
  · exact k_657
  · exact k_659
  · exact k_661
  · exact k_663
  · exact k_665
  · exact k_667
  · exact k_669
  · exact k_671
  · exact k_673
  · exact k_675
  · exact k_677
  · exact k_679
  · exact k_681
  · exact k_683
  · exact k_685
  · exact k_687
abbrev R_LW : String := "TextTermsLaw"
abbrev R_JS : String := "java/lang/String"
abbrev R_JL : String := "java/lang/StringLatin1"
abbrev R_JP : String := "jdk/internal/util/Preconditions"
abbrev vwCl : List vw_C := [(R_TT, F_TT, 4), (R_BY, F_BY, 2), (R_MG, F_MG, 2), (R_RD, F_RD, 4), (R_SC, F_SC, 3), (R_TM, F_TM, 10), (R_MO, F_MO, 18)]
