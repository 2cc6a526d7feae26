def RD : String := "VeilSearch$Documents"
def TD : u_T := fun k => match k with
  | 0 => ("VeilSearch$Documents", "codes", "[I", true)
  | 1 => ("VeilSearch$Documents", "values", "[I", true)
  | 2 => ("VeilSearch$Documents", "allowed", "[I", true)
  | 3 => ("VeilSearch$Documents", "denied", "[I", true)
  | _ => ("VeilSearch$Documents", "ids", "I", false)
def tyD : Nat → FieldType := fun k => match k with
  | 0 => .array .int
  | 1 => .array .int
  | 2 => .array .int
  | 3 => .array .int
  | _ => .int
set_option maxRecDepth 20000 in
theorem nmD : ∀ a, a < 5 → ∀ b, b < 5 → a ≠ b → (TD a).2.1 ≠ (TD b).2.1 := by decide +kernel
theorem tyD_ok : ∀ k, k < 5 → parseFieldDescriptor (TD k).2.2.1 = some (tyD k) := by decide +kernel
theorem inD : ∀ w ∈ u_ws RD TD 5, w ∈ gT := List.forall_mem_cons.mpr ⟨w_46, List.forall_mem_cons.mpr ⟨w_48, List.forall_mem_cons.mpr ⟨w_50, List.forall_mem_cons.mpr ⟨w_52, List.forall_mem_cons.mpr ⟨w_54, fun _ h => absurd h List.not_mem_nil⟩⟩⟩⟩⟩
def RF : String := "VeilSearch$Filters"
def TF : u_T := fun k => match k with
  | 0 => ("VeilSearch$Filters", "segments", "[I", true)
  | 1 => ("VeilSearch$Filters", "users", "[I", true)
  | 2 => ("VeilSearch$Filters", "readable", "[J", true)
  | 3 => ("VeilSearch$Filters", "kept", "I", false)
  | 4 => ("VeilSearch$Filters", "made", "I", false)
  | _ => ("VeilSearch$Filters", "reused", "I", false)
def tyF : Nat → FieldType := fun k => match k with
  | 0 => .array .int
  | 1 => .array .int
  | 2 => .array .long
  | 3 => .int
  | 4 => .int
  | _ => .int
set_option maxRecDepth 20000 in
theorem nmF : ∀ a, a < 6 → ∀ b, b < 6 → a ≠ b → (TF a).2.1 ≠ (TF b).2.1 := by decide +kernel
theorem tyF_ok : ∀ k, k < 6 → parseFieldDescriptor (TF k).2.2.1 = some (tyF k) := by decide +kernel
theorem inF : ∀ w ∈ u_ws RF TF 6, w ∈ gT := List.forall_mem_cons.mpr ⟨w_73, List.forall_mem_cons.mpr ⟨w_75, List.forall_mem_cons.mpr ⟨w_77, List.forall_mem_cons.mpr ⟨w_79, List.forall_mem_cons.mpr ⟨w_81, List.forall_mem_cons.mpr ⟨w_83, fun _ h => absurd h List.not_mem_nil⟩⟩⟩⟩⟩⟩
def RH : String := "VeilSearch$Hits"
def TH : u_T := fun k => match k with
  | 0 => ("VeilSearch$Hits", "ids", "[I", true)
  | 1 => ("VeilSearch$Hits", "scores", "[F", true)
  | 2 => ("VeilSearch$Hits", "size", "I", false)
  | _ => ("VeilSearch$Hits", "most", "I", false)
def tyH : Nat → FieldType := fun k => match k with
  | 0 => .array .int
  | 1 => .array .float
  | 2 => .int
  | _ => .int
set_option maxRecDepth 20000 in
theorem nmH : ∀ a, a < 4 → ∀ b, b < 4 → a ≠ b → (TH a).2.1 ≠ (TH b).2.1 := by decide +kernel
theorem tyH_ok : ∀ k, k < 4 → parseFieldDescriptor (TH k).2.2.1 = some (tyH k) := by decide +kernel
theorem inH : ∀ w ∈ u_ws RH TH 4, w ∈ gT := List.forall_mem_cons.mpr ⟨w_132, List.forall_mem_cons.mpr ⟨w_134, List.forall_mem_cons.mpr ⟨w_136, List.forall_mem_cons.mpr ⟨w_138, fun _ h => absurd h List.not_mem_nil⟩⟩⟩⟩
def RQ : String := "VeilSearch$Query"
def TQ : u_T := fun k => match k with
  | 0 => ("VeilSearch$Query", "sorts", "[I", true)
  | 1 => ("VeilSearch$Query", "terms", "[I", true)
  | 2 => ("VeilSearch$Query", "fields", "[I", true)
  | 3 => ("VeilSearch$Query", "weights", "[F", true)
  | 4 => ("VeilSearch$Query", "open", "[Z", true)
  | 5 => ("VeilSearch$Query", "veiledMust", "Z", false)
  | _ => ("VeilSearch$Query", "size", "I", false)
def tyQ : Nat → FieldType := fun k => match k with
  | 0 => .array .int
  | 1 => .array .int
  | 2 => .array .int
  | 3 => .array .float
  | 4 => .array .boolean
  | 5 => .boolean
  | _ => .int
set_option maxRecDepth 20000 in
theorem nmQ : ∀ a, a < 7 → ∀ b, b < 7 → a ≠ b → (TQ a).2.1 ≠ (TQ b).2.1 := by decide +kernel
theorem tyQ_ok : ∀ k, k < 7 → parseFieldDescriptor (TQ k).2.2.1 = some (tyQ k) := by decide +kernel
theorem inQ : ∀ w ∈ u_ws RQ TQ 7, w ∈ gT := List.forall_mem_cons.mpr ⟨w_101, List.forall_mem_cons.mpr ⟨w_103, List.forall_mem_cons.mpr ⟨w_105, List.forall_mem_cons.mpr ⟨w_107, List.forall_mem_cons.mpr ⟨w_109, List.forall_mem_cons.mpr ⟨w_111, List.forall_mem_cons.mpr ⟨w_113, fun _ h => absurd h List.not_mem_nil⟩⟩⟩⟩⟩⟩⟩
def RR : String := "VeilSearch$Rights"
def TR : u_T := fun k => match k with
  | 0 => ("VeilSearch$Rights", "groupsOf", "[I", true)
  | 1 => ("VeilSearch$Rights", "levels", "[I", true)
  | _ => ("VeilSearch$Rights", "clearances", "[I", true)
def tyR : Nat → FieldType := fun k => match k with
  | 0 => .array .int
  | 1 => .array .int
  | _ => .array .int
set_option maxRecDepth 20000 in
theorem nmR : ∀ a, a < 3 → ∀ b, b < 3 → a ≠ b → (TR a).2.1 ≠ (TR b).2.1 := by decide +kernel
theorem tyR_ok : ∀ k, k < 3 → parseFieldDescriptor (TR k).2.2.1 = some (tyR k) := by decide +kernel
theorem inR : ∀ w ∈ u_ws RR TR 3, w ∈ gT := List.forall_mem_cons.mpr ⟨w_158, List.forall_mem_cons.mpr ⟨w_160, List.forall_mem_cons.mpr ⟨w_162, fun _ h => absurd h List.not_mem_nil⟩⟩⟩
def RS : String := "VeilSearch$Segments"
def TS : u_T := fun k => match k with
  | 0 => ("VeilSearch$Segments", "numbers", "[I", true)
  | 1 => ("VeilSearch$Segments", "ids", "[J", true)
  | _ => ("VeilSearch$Segments", "size", "I", false)
def tyS : Nat → FieldType := fun k => match k with
  | 0 => .array .int
  | 1 => .array .long
  | _ => .int
set_option maxRecDepth 20000 in
theorem nmS : ∀ a, a < 3 → ∀ b, b < 3 → a ≠ b → (TS a).2.1 ≠ (TS b).2.1 := by decide +kernel
theorem tyS_ok : ∀ k, k < 3 → parseFieldDescriptor (TS k).2.2.1 = some (tyS k) := by decide +kernel
theorem inS : ∀ w ∈ u_ws RS TS 3, w ∈ gT := List.forall_mem_cons.mpr ⟨w_177, List.forall_mem_cons.mpr ⟨w_179, List.forall_mem_cons.mpr ⟨w_181, fun _ h => absurd h List.not_mem_nil⟩⟩⟩
def RV : String := "VeilSearch$View"
def TV : u_T := fun k => match k with
  | 0 => ("VeilSearch$View", "rights", "LVeilSearch$Rights;", true)
  | 1 => ("VeilSearch$View", "segments", "LVeilSearch$Segments;", true)
  | _ => ("VeilSearch$View", "removed", "J", false)
def tyV : Nat → FieldType := fun k => match k with
  | 0 => .object "VeilSearch$Rights"
  | 1 => .object "VeilSearch$Segments"
  | _ => .long
set_option maxRecDepth 20000 in
theorem nmV : ∀ a, a < 3 → ∀ b, b < 3 → a ≠ b → (TV a).2.1 ≠ (TV b).2.1 := by decide +kernel
theorem tyV_ok : ∀ k, k < 3 → parseFieldDescriptor (TV k).2.2.1 = some (tyV k) := by decide +kernel
theorem inV : ∀ w ∈ u_ws RV TV 3, w ∈ gT := List.forall_mem_cons.mpr ⟨w_190, List.forall_mem_cons.mpr ⟨w_192, List.forall_mem_cons.mpr ⟨w_194, fun _ h => absurd h List.not_mem_nil⟩⟩⟩
def RX : String := "VeilSearch"
def TX : u_T := fun k => match k with
  | 0 => ("VeilSearch", "documents", "LVeilSearch$Documents;", true)
  | 1 => ("VeilSearch", "filters", "LVeilSearch$Filters;", true)
  | 2 => ("VeilSearch", "query", "LVeilSearch$Query;", true)
  | 3 => ("VeilSearch", "hits", "LVeilSearch$Hits;", true)
  | 4 => ("VeilSearch", "now", "LVeilSearch$View;", true)
  | 5 => ("VeilSearch", "seen", "LVeilSearch$View;", true)
  | 6 => ("VeilSearch", "buffer", "J", false)
  | 7 => ("VeilSearch", "segmentsMade", "I", false)
  | 8 => ("VeilSearch", "blocksLooked", "I", false)
  | _ => ("VeilSearch", "documentsFound", "I", false)
def tyX : Nat → FieldType := fun k => match k with
  | 0 => .object "VeilSearch$Documents"
  | 1 => .object "VeilSearch$Filters"
  | 2 => .object "VeilSearch$Query"
  | 3 => .object "VeilSearch$Hits"
  | 4 => .object "VeilSearch$View"
  | 5 => .object "VeilSearch$View"
  | 6 => .long
  | 7 => .int
  | 8 => .int
  | _ => .int
set_option maxRecDepth 20000 in
theorem nmX : ∀ a, a < 10 → ∀ b, b < 10 → a ≠ b → (TX a).2.1 ≠ (TX b).2.1 := by decide +kernel
theorem tyX_ok : ∀ k, k < 10 → parseFieldDescriptor (TX k).2.2.1 = some (tyX k) := by decide +kernel
theorem inX : ∀ w ∈ u_ws RX TX 10, w ∈ gT := List.forall_mem_cons.mpr ⟨w_207, List.forall_mem_cons.mpr ⟨w_209, List.forall_mem_cons.mpr ⟨w_211, List.forall_mem_cons.mpr ⟨w_213, List.forall_mem_cons.mpr ⟨w_215, List.forall_mem_cons.mpr ⟨w_217, List.forall_mem_cons.mpr ⟨w_219, List.forall_mem_cons.mpr ⟨w_221, List.forall_mem_cons.mpr ⟨w_223, List.forall_mem_cons.mpr ⟨w_225, fun _ h => absurd h List.not_mem_nil⟩⟩⟩⟩⟩⟩⟩⟩⟩⟩
def RM : String := "VeilSearchModel"
def TM : u_T := fun k => match k with
  | 0 => ("VeilSearchModel", "members", "[I", true)
  | 1 => ("VeilSearchModel", "levels", "[I", true)
  | 2 => ("VeilSearchModel", "clearances", "[I", true)
  | 3 => ("VeilSearchModel", "oldMembers", "[I", true)
  | 4 => ("VeilSearchModel", "oldLevels", "[I", true)
  | 5 => ("VeilSearchModel", "oldClearances", "[I", true)
  | 6 => ("VeilSearchModel", "value", "[I", true)
  | 7 => ("VeilSearchModel", "code", "[I", true)
  | 8 => ("VeilSearchModel", "allows", "[I", true)
  | 9 => ("VeilSearchModel", "denies", "[I", true)
  | 10 => ("VeilSearchModel", "parent", "[I", true)
  | 11 => ("VeilSearchModel", "segment", "[I", true)
  | 12 => ("VeilSearchModel", "seen", "[I", true)
  | 13 => ("VeilSearchModel", "removed", "[Z", true)
  | 14 => ("VeilSearchModel", "seenRemoved", "[Z", true)
  | 15 => ("VeilSearchModel", "segments", "[I", true)
  | 16 => ("VeilSearchModel", "shown", "[I", true)
  | 17 => ("VeilSearchModel", "sort", "[I", true)
  | 18 => ("VeilSearchModel", "term", "[I", true)
  | 19 => ("VeilSearchModel", "field", "[I", true)
  | 20 => ("VeilSearchModel", "order", "[I", true)
  | 21 => ("VeilSearchModel", "hits", "[I", true)
  | 22 => ("VeilSearchModel", "weight", "[D", true)
  | 23 => ("VeilSearchModel", "scores", "[F", true)
  | 24 => ("VeilSearchModel", "filterOf", "[I", true)
  | 25 => ("VeilSearchModel", "filterFor", "[I", true)
  | 26 => ("VeilSearchModel", "filterAt", "[I", true)
  | 27 => ("VeilSearchModel", "ids", "I", false)
  | 28 => ("VeilSearchModel", "segmentMany", "I", false)
  | 29 => ("VeilSearchModel", "shownMany", "I", false)
  | 30 => ("VeilSearchModel", "serial", "I", false)
  | 31 => ("VeilSearchModel", "clauses", "I", false)
  | 32 => ("VeilSearchModel", "found", "I", false)
  | 33 => ("VeilSearchModel", "looked", "I", false)
  | 34 => ("VeilSearchModel", "matched", "I", false)
  | 35 => ("VeilSearchModel", "filters", "I", false)
  | 36 => ("VeilSearchModel", "made", "I", false)
  | 37 => ("VeilSearchModel", "reused", "I", false)
  | 38 => ("VeilSearchModel", "clock", "I", false)
  | _ => ("VeilSearchModel", "thrown", "I", false)
def tyM : Nat → FieldType := fun k => match k with
  | 0 => .array .int
  | 1 => .array .int
  | 2 => .array .int
  | 3 => .array .int
  | 4 => .array .int
  | 5 => .array .int
  | 6 => .array .int
  | 7 => .array .int
  | 8 => .array .int
  | 9 => .array .int
  | 10 => .array .int
  | 11 => .array .int
  | 12 => .array .int
  | 13 => .array .boolean
  | 14 => .array .boolean
  | 15 => .array .int
  | 16 => .array .int
  | 17 => .array .int
  | 18 => .array .int
  | 19 => .array .int
  | 20 => .array .int
  | 21 => .array .int
  | 22 => .array .double
  | 23 => .array .float
  | 24 => .array .int
  | 25 => .array .int
  | 26 => .array .int
  | 27 => .int
  | 28 => .int
  | 29 => .int
  | 30 => .int
  | 31 => .int
  | 32 => .int
  | 33 => .int
  | 34 => .int
  | 35 => .int
  | 36 => .int
  | 37 => .int
  | 38 => .int
  | _ => .int
set_option maxRecDepth 20000 in
theorem nmM : ∀ a, a < 40 → ∀ b, b < 40 → a ≠ b → (TM a).2.1 ≠ (TM b).2.1 := by decide +kernel
theorem tyM_ok : ∀ k, k < 40 → parseFieldDescriptor (TM k).2.2.1 = some (tyM k) := by decide +kernel
theorem inM : ∀ w ∈ u_ws RM TM 40, w ∈ gT := List.forall_mem_cons.mpr ⟨w_709, List.forall_mem_cons.mpr ⟨w_711, List.forall_mem_cons.mpr ⟨w_713, List.forall_mem_cons.mpr ⟨w_715, List.forall_mem_cons.mpr ⟨w_717, List.forall_mem_cons.mpr ⟨w_719, List.forall_mem_cons.mpr ⟨w_721, List.forall_mem_cons.mpr ⟨w_723, List.forall_mem_cons.mpr ⟨w_725, List.forall_mem_cons.mpr ⟨w_727, List.forall_mem_cons.mpr ⟨w_729, List.forall_mem_cons.mpr ⟨w_731, List.forall_mem_cons.mpr ⟨w_733, List.forall_mem_cons.mpr ⟨w_735, List.forall_mem_cons.mpr ⟨w_737, List.forall_mem_cons.mpr ⟨w_739, List.forall_mem_cons.mpr ⟨w_741, List.forall_mem_cons.mpr ⟨w_743, List.forall_mem_cons.mpr ⟨w_745, List.forall_mem_cons.mpr ⟨w_747, List.forall_mem_cons.mpr ⟨w_749, List.forall_mem_cons.mpr ⟨w_751, List.forall_mem_cons.mpr ⟨w_753, List.forall_mem_cons.mpr ⟨w_755, List.forall_mem_cons.mpr ⟨w_757, List.forall_mem_cons.mpr ⟨w_759, List.forall_mem_cons.mpr ⟨w_761, List.forall_mem_cons.mpr ⟨w_763, List.forall_mem_cons.mpr ⟨w_765, List.forall_mem_cons.mpr ⟨w_767, List.forall_mem_cons.mpr ⟨w_769, List.forall_mem_cons.mpr ⟨w_771, List.forall_mem_cons.mpr ⟨w_773, List.forall_mem_cons.mpr ⟨w_775, List.forall_mem_cons.mpr ⟨w_777, List.forall_mem_cons.mpr ⟨w_779, List.forall_mem_cons.mpr ⟨w_781, List.forall_mem_cons.mpr ⟨w_783, List.forall_mem_cons.mpr ⟨w_785, List.forall_mem_cons.mpr ⟨w_787, fun _ h => absurd h List.not_mem_nil⟩⟩⟩⟩⟩⟩⟩⟩⟩⟩⟩⟩⟩⟩⟩⟩⟩⟩⟩⟩⟩⟩⟩⟩⟩⟩⟩⟩⟩⟩⟩⟩⟩⟩⟩⟩⟩⟩⟩⟩
abbrev vwCl : List vw_C := [(RD, TD, 5), (RF, TF, 6), (RH, TH, 4), (RQ, TQ, 7), (RR, TR, 3), (RS, TS, 3), (RV, TV, 3), (RX, TX, 10), (RM, TM, 40)]
def RL : String := "VeilSearchLaw"
def RJ : String := "java/lang/Long"
abbrev c_X_init : ByteArray := prog_1_method_1_code
abbrev y_X_init : MethodName := { cls := "VeilSearch", name := "<init>", desc := "()V" }
abbrev c_D_init : ByteArray := prog_2_method_1_code
abbrev y_D_init : MethodName := { cls := "VeilSearch$Documents", name := "<init>", desc := "()V" }
abbrev c_F_init : ByteArray := prog_3_method_1_code
abbrev y_F_init : MethodName := { cls := "VeilSearch$Filters", name := "<init>", desc := "()V" }
abbrev c_Q_init : ByteArray := prog_5_method_1_code
abbrev y_Q_init : MethodName := { cls := "VeilSearch$Query", name := "<init>", desc := "()V" }
abbrev c_H_init : ByteArray := prog_4_method_1_code
abbrev y_H_init : MethodName := { cls := "VeilSearch$Hits", name := "<init>", desc := "()V" }
abbrev c_V_init : ByteArray := prog_8_method_1_code
abbrev y_V_init : MethodName := { cls := "VeilSearch$View", name := "<init>", desc := "()V" }
abbrev c_R_init : ByteArray := prog_6_method_1_code
abbrev y_R_init : MethodName := { cls := "VeilSearch$Rights", name := "<init>", desc := "()V" }
abbrev c_S_init : ByteArray := prog_7_method_1_code
abbrev y_S_init : MethodName := { cls := "VeilSearch$Segments", name := "<init>", desc := "()V" }
abbrev c_X_merge : ByteArray := prog_1_method_10_code
abbrev y_X_merge : MethodName := { cls := "VeilSearch", name := "merge", desc := "()I" }
abbrev c_S_allIds : ByteArray := prog_7_method_3_code
abbrev y_S_allIds : MethodName := { cls := "VeilSearch$Segments", name := "allIds", desc := "()J" }
abbrev c_X_appendSegment : ByteArray := prog_1_method_24_code
abbrev y_X_appendSegment : MethodName := { cls := "VeilSearch", name := "appendSegment", desc := "(J)V" }
abbrev c_S_append : ByteArray := prog_7_method_2_code
abbrev y_S_append : MethodName := { cls := "VeilSearch$Segments", name := "append", desc := "(IJ)V" }
abbrev c_J_bitCount : ByteArray := prog_15_method_50_code
abbrev y_J_bitCount : MethodName := { cls := "java/lang/Long", name := "bitCount", desc := "(J)I" }
abbrev c_X_refresh : ByteArray := prog_1_method_11_code
abbrev y_X_refresh : MethodName := { cls := "VeilSearch", name := "refresh", desc := "()I" }
abbrev c_R_sameAs : ByteArray := prog_6_method_5_code
abbrev y_R_sameAs : MethodName := { cls := "VeilSearch$Rights", name := "sameAs", desc := "(LVeilSearch$Rights;)Z" }
abbrev c_R_sameRow : ByteArray := prog_6_method_6_code
abbrev y_R_sameRow : MethodName := { cls := "VeilSearch$Rights", name := "sameRow", desc := "([I[I)Z" }
abbrev c_V_takeOver : ByteArray := prog_8_method_3_code
abbrev y_V_takeOver : MethodName := { cls := "VeilSearch$View", name := "takeOver", desc := "(LVeilSearch$View;)V" }
abbrev c_R_takeOver : ByteArray := prog_6_method_7_code
abbrev y_R_takeOver : MethodName := { cls := "VeilSearch$Rights", name := "takeOver", desc := "(LVeilSearch$Rights;)V" }
abbrev c_S_takeOver : ByteArray := prog_7_method_5_code
abbrev y_S_takeOver : MethodName := { cls := "VeilSearch$Segments", name := "takeOver", desc := "(LVeilSearch$Segments;)V" }
abbrev c_F_dropAllBut : ByteArray := prog_3_method_5_code
abbrev y_F_dropAllBut : MethodName := { cls := "VeilSearch$Filters", name := "dropAllBut", desc := "(LVeilSearch$Segments;)V" }
abbrev c_S_hasNumber : ByteArray := prog_7_method_4_code
abbrev y_S_hasNumber : MethodName := { cls := "VeilSearch$Segments", name := "hasNumber", desc := "(I)Z" }
abbrev c_F_drop : ByteArray := prog_3_method_7_code
abbrev y_F_drop : MethodName := { cls := "VeilSearch$Filters", name := "drop", desc := "(I)V" }
abbrev c_V_livingIds : ByteArray := prog_8_method_2_code
abbrev y_V_livingIds : MethodName := { cls := "VeilSearch$View", name := "livingIds", desc := "()J" }
abbrev c_X_clear : ByteArray := prog_1_method_13_code
abbrev y_X_clear : MethodName := { cls := "VeilSearch", name := "clear", desc := "()I" }
abbrev c_L_member : ByteArray := method_3_code
abbrev y_L_member : MethodName := { cls := "VeilSearchLaw", name := "member", desc := "(LVeilSearch;IIZ[J)I" }
abbrev c_X_member : ByteArray := prog_1_method_2_code
abbrev y_X_member : MethodName := { cls := "VeilSearch", name := "member", desc := "(IIZ)Z" }
abbrev c_X_isBelow : ByteArray := prog_1_method_19_code
abbrev y_X_isBelow : MethodName := { cls := "VeilSearch", name := "isBelow", desc := "(II)Z" }
abbrev c_R_join : ByteArray := prog_6_method_2_code
abbrev y_R_join : MethodName := { cls := "VeilSearch$Rights", name := "join", desc := "(IIZ)Z" }
abbrev c_L_level : ByteArray := method_4_code
abbrev y_L_level : MethodName := { cls := "VeilSearchLaw", name := "level", desc := "(LVeilSearch;III[J)I" }
abbrev c_X_level : ByteArray := prog_1_method_3_code
abbrev y_X_level : MethodName := { cls := "VeilSearch", name := "level", desc := "(III)I" }
abbrev c_L_weigh : ByteArray := method_5_code
abbrev y_L_weigh : MethodName := { cls := "VeilSearchLaw", name := "weigh", desc := "(LVeilSearch;IID[J)I" }
abbrev c_X_weigh : ByteArray := prog_1_method_4_code
abbrev y_X_weigh : MethodName := { cls := "VeilSearch", name := "weigh", desc := "(IID)I" }
abbrev c_X_isWeight : ByteArray := prog_1_method_20_code
abbrev y_X_isWeight : MethodName := { cls := "VeilSearch", name := "isWeight", desc := "(D)Z" }
abbrev c_X_codeOf : ByteArray := prog_1_method_21_code
abbrev y_X_codeOf : MethodName := { cls := "VeilSearch", name := "codeOf", desc := "(D)I" }
abbrev c_D_codePlace : ByteArray := prog_2_method_3_code
abbrev y_D_codePlace : MethodName := { cls := "VeilSearch$Documents", name := "codePlace", desc := "(III)I" }
abbrev c_D_valuePlace : ByteArray := prog_2_method_2_code
abbrev y_D_valuePlace : MethodName := { cls := "VeilSearch$Documents", name := "valuePlace", desc := "(II)I" }
abbrev c_L_put : ByteArray := method_6_code
abbrev y_L_put : MethodName := { cls := "VeilSearchLaw", name := "put", desc := "(LVeilSearch;II[J)I" }
abbrev c_X_put : ByteArray := prog_1_method_5_code
abbrev y_X_put : MethodName := { cls := "VeilSearch", name := "put", desc := "(II)I" }
abbrev c_L_rule : ByteArray := method_7_code
abbrev y_L_rule : MethodName := { cls := "VeilSearchLaw", name := "rule", desc := "(LVeilSearch;IZ[J)I" }
abbrev c_X_rule : ByteArray := prog_1_method_6_code
abbrev y_X_rule : MethodName := { cls := "VeilSearch", name := "rule", desc := "(IZ)Z" }
abbrev c_L_add : ByteArray := method_8_code
abbrev y_L_add : MethodName := { cls := "VeilSearchLaw", name := "add", desc := "(LVeilSearch;I[J)I" }
abbrev c_X_add : ByteArray := prog_1_method_7_code
abbrev y_X_add : MethodName := { cls := "VeilSearch", name := "add", desc := "(I)I" }
abbrev c_D_finishDraft : ByteArray := prog_2_method_4_code
abbrev y_D_finishDraft : MethodName := { cls := "VeilSearch$Documents", name := "finishDraft", desc := "(I)I" }
abbrev c_L_remove : ByteArray := method_9_code
abbrev y_L_remove : MethodName := { cls := "VeilSearchLaw", name := "remove", desc := "(LVeilSearch;I)I" }
abbrev c_X_remove : ByteArray := prog_1_method_8_code
abbrev y_X_remove : MethodName := { cls := "VeilSearch", name := "remove", desc := "(I)V" }
abbrev c_X_holds : ByteArray := prog_1_method_22_code
abbrev y_X_holds : MethodName := { cls := "VeilSearch", name := "holds", desc := "(JI)Z" }
abbrev c_L_flush : ByteArray := method_10_code
abbrev y_L_flush : MethodName := { cls := "VeilSearchLaw", name := "flush", desc := "(LVeilSearch;[J)I" }
abbrev c_X_flush : ByteArray := prog_1_method_9_code
abbrev y_X_flush : MethodName := { cls := "VeilSearch", name := "flush", desc := "()I" }
abbrev c_L_clause : ByteArray := method_11_code
abbrev y_L_clause : MethodName := { cls := "VeilSearchLaw", name := "clause", desc := "(LVeilSearch;IIID[J)I" }
abbrev c_X_clause : ByteArray := prog_1_method_12_code
abbrev y_X_clause : MethodName := { cls := "VeilSearch", name := "clause", desc := "(IIID)I" }
abbrev c_Q_insert : ByteArray := prog_5_method_2_code
abbrev y_Q_insert : MethodName := { cls := "VeilSearch$Query", name := "insert", desc := "(IIIF)V" }
abbrev c_Q_comesLater : ByteArray := prog_5_method_3_code
abbrev y_Q_comesLater : MethodName := { cls := "VeilSearch$Query", name := "comesLater", desc := "(III)Z" }
abbrev c_Q_move : ByteArray := prog_5_method_4_code
abbrev y_Q_move : MethodName := { cls := "VeilSearch$Query", name := "move", desc := "(II)V" }
abbrev c_L_search : ByteArray := method_12_code
abbrev y_L_search : MethodName := { cls := "VeilSearchLaw", name := "search", desc := "(LVeilSearch;II[J)I" }
abbrev c_X_search : ByteArray := prog_1_method_14_code
abbrev y_X_search : MethodName := { cls := "VeilSearch", name := "search", desc := "(II)I" }
abbrev c_H_restart : ByteArray := prog_4_method_2_code
abbrev y_H_restart : MethodName := { cls := "VeilSearch$Hits", name := "restart", desc := "(I)V" }
abbrev c_Q_openFor : ByteArray := prog_5_method_5_code
abbrev y_Q_openFor : MethodName := { cls := "VeilSearch$Query", name := "openFor", desc := "(ILVeilSearch$Rights;)V" }
abbrev c_R_isOpen : ByteArray := prog_6_method_4_code
abbrev y_R_isOpen : MethodName := { cls := "VeilSearch$Rights", name := "isOpen", desc := "(II)Z" }
abbrev c_X_filterOf : ByteArray := prog_1_method_25_code
abbrev y_X_filterOf : MethodName := { cls := "VeilSearch", name := "filterOf", desc := "(IJI)J" }
abbrev c_F_placeOf : ByteArray := prog_3_method_2_code
abbrev y_F_placeOf : MethodName := { cls := "VeilSearch$Filters", name := "placeOf", desc := "(II)I" }
abbrev c_F_reuse : ByteArray := prog_3_method_3_code
abbrev y_F_reuse : MethodName := { cls := "VeilSearch$Filters", name := "reuse", desc := "(I)J" }
abbrev c_F_append : ByteArray := prog_3_method_6_code
abbrev y_F_append : MethodName := { cls := "VeilSearch$Filters", name := "append", desc := "(IIJ)V" }
abbrev c_R_tokensOf : ByteArray := prog_6_method_3_code
abbrev y_R_tokensOf : MethodName := { cls := "VeilSearch$Rights", name := "tokensOf", desc := "(I)I" }
abbrev c_D_readableOf : ByteArray := prog_2_method_6_code
abbrev y_D_readableOf : MethodName := { cls := "VeilSearch$Documents", name := "readableOf", desc := "(JI)J" }
abbrev c_D_mayRead : ByteArray := prog_2_method_5_code
abbrev y_D_mayRead : MethodName := { cls := "VeilSearch$Documents", name := "mayRead", desc := "(II)Z" }
abbrev c_F_keepNew : ByteArray := prog_3_method_4_code
abbrev y_F_keepNew : MethodName := { cls := "VeilSearch$Filters", name := "keepNew", desc := "(IIJ)V" }
abbrev c_X_passThrough : ByteArray := prog_1_method_26_code
abbrev y_X_passThrough : MethodName := { cls := "VeilSearch", name := "passThrough", desc := "(JJ)V" }
abbrev c_X_firstBlock : ByteArray := prog_1_method_27_code
abbrev y_X_firstBlock : MethodName := { cls := "VeilSearch", name := "firstBlock", desc := "(J)J" }
abbrev c_Q_scoreOf : ByteArray := prog_5_method_7_code
abbrev y_Q_scoreOf : MethodName := { cls := "VeilSearch$Query", name := "scoreOf", desc := "(JLVeilSearch$Documents;)F" }
abbrev c_D_greatestCode : ByteArray := prog_2_method_7_code
abbrev y_D_greatestCode : MethodName := { cls := "VeilSearch$Documents", name := "greatestCode", desc := "(JII)I" }
abbrev c_X_lowestId : ByteArray := prog_1_method_23_code
abbrev y_X_lowestId : MethodName := { cls := "VeilSearch", name := "lowestId", desc := "(J)I" }
abbrev c_H_lastScore : ByteArray := prog_4_method_3_code
abbrev y_H_lastScore : MethodName := { cls := "VeilSearch$Hits", name := "lastScore", desc := "()F" }
abbrev c_X_lookAt : ByteArray := prog_1_method_28_code
abbrev y_X_lookAt : MethodName := { cls := "VeilSearch", name := "lookAt", desc := "(J)V" }
abbrev c_Q_finds : ByteArray := prog_5_method_6_code
abbrev y_Q_finds : MethodName := { cls := "VeilSearch$Query", name := "finds", desc := "(ILVeilSearch$Documents;)Z" }
abbrev c_H_take : ByteArray := prog_4_method_4_code
abbrev y_H_take : MethodName := { cls := "VeilSearch$Hits", name := "take", desc := "(IF)V" }
abbrev c_L_hit : ByteArray := method_13_code
abbrev y_L_hit : MethodName := { cls := "VeilSearchLaw", name := "hit", desc := "(LVeilSearch;I[J)I" }
abbrev c_X_hit : ByteArray := prog_1_method_15_code
abbrev y_X_hit : MethodName := { cls := "VeilSearch", name := "hit", desc := "(I)I" }
abbrev c_L_score : ByteArray := method_14_code
abbrev y_L_score : MethodName := { cls := "VeilSearchLaw", name := "score", desc := "(LVeilSearch;I[D)I" }
abbrev c_X_score : ByteArray := prog_1_method_16_code
abbrev y_X_score : MethodName := { cls := "VeilSearch", name := "score", desc := "(I)D" }
abbrev c_L_value : ByteArray := method_15_code
abbrev y_L_value : MethodName := { cls := "VeilSearchLaw", name := "value", desc := "(LVeilSearch;III[J)I" }
abbrev c_X_value : ByteArray := prog_1_method_17_code
abbrev y_X_value : MethodName := { cls := "VeilSearch", name := "value", desc := "(III)I" }
abbrev c_L_count : ByteArray := method_16_code
abbrev y_L_count : MethodName := { cls := "VeilSearchLaw", name := "count", desc := "(LVeilSearch;I[J)I" }
abbrev c_X_count : ByteArray := prog_1_method_18_code
abbrev y_X_count : MethodName := { cls := "VeilSearch", name := "count", desc := "(I)I" }
abbrev c_M_init : ByteArray := prog_10_method_1_code
abbrev y_M_init : MethodName := { cls := "VeilSearchModel", name := "<init>", desc := "()V" }
abbrev c_M_thrown : ByteArray := prog_10_method_2_code
abbrev y_M_thrown : MethodName := { cls := "VeilSearchModel", name := "thrown", desc := "()I" }
abbrev c_M_member : ByteArray := prog_10_method_5_code
abbrev y_M_member : MethodName := { cls := "VeilSearchModel", name := "member", desc := "(IIZ)Z" }
abbrev c_M_in : ByteArray := prog_10_method_3_code
abbrev y_M_in : MethodName := { cls := "VeilSearchModel", name := "in", desc := "(III)Z" }
abbrev c_M_level : ByteArray := prog_10_method_6_code
abbrev y_M_level : MethodName := { cls := "VeilSearchModel", name := "level", desc := "(III)I" }
abbrev c_M_fail : ByteArray := prog_10_method_4_code
abbrev y_M_fail : MethodName := { cls := "VeilSearchModel", name := "fail", desc := "(I)I" }
abbrev c_M_weigh : ByteArray := prog_10_method_9_code
abbrev y_M_weigh : MethodName := { cls := "VeilSearchModel", name := "weigh", desc := "(IID)I" }
abbrev c_M_isWeight : ByteArray := prog_10_method_8_code
abbrev y_M_isWeight : MethodName := { cls := "VeilSearchModel", name := "isWeight", desc := "(D)Z" }
abbrev c_M_put : ByteArray := prog_10_method_10_code
abbrev y_M_put : MethodName := { cls := "VeilSearchModel", name := "put", desc := "(II)I" }
abbrev c_M_rule : ByteArray := prog_10_method_11_code
abbrev y_M_rule : MethodName := { cls := "VeilSearchModel", name := "rule", desc := "(IZ)Z" }
abbrev c_M_add : ByteArray := prog_10_method_12_code
abbrev y_M_add : MethodName := { cls := "VeilSearchModel", name := "add", desc := "(I)I" }
abbrev c_M_remove : ByteArray := prog_10_method_13_code
abbrev y_M_remove : MethodName := { cls := "VeilSearchModel", name := "remove", desc := "(I)V" }
abbrev c_M_flush : ByteArray := prog_10_method_15_code
abbrev y_M_flush : MethodName := { cls := "VeilSearchModel", name := "flush", desc := "()I" }
abbrev c_M_sizeOf : ByteArray := prog_10_method_14_code
abbrev y_M_sizeOf : MethodName := { cls := "VeilSearchModel", name := "sizeOf", desc := "(I)I" }
abbrev c_M_merge : ByteArray := prog_10_method_16_code
abbrev y_M_merge : MethodName := { cls := "VeilSearchModel", name := "merge", desc := "()I" }
abbrev c_M_refresh : ByteArray := prog_10_method_20_code
abbrev y_M_refresh : MethodName := { cls := "VeilSearchModel", name := "refresh", desc := "()I" }
abbrev c_M_isOther : ByteArray := prog_10_method_17_code
abbrev y_M_isOther : MethodName := { cls := "VeilSearchModel", name := "isOther", desc := "()Z" }
abbrev c_M_isShown : ByteArray := prog_10_method_18_code
abbrev y_M_isShown : MethodName := { cls := "VeilSearchModel", name := "isShown", desc := "(I)Z" }
abbrev c_M_drop : ByteArray := prog_10_method_19_code
abbrev y_M_drop : MethodName := { cls := "VeilSearchModel", name := "drop", desc := "(I)V" }
abbrev c_M_clause : ByteArray := prog_10_method_21_code
abbrev y_M_clause : MethodName := { cls := "VeilSearchModel", name := "clause", desc := "(IIID)I" }
abbrev c_M_clear : ByteArray := prog_10_method_22_code
abbrev y_M_clear : MethodName := { cls := "VeilSearchModel", name := "clear", desc := "()I" }
abbrev c_M_search : ByteArray := prog_10_method_33_code
abbrev y_M_search : MethodName := { cls := "VeilSearchModel", name := "search", desc := "(II)I" }
abbrev c_M_arrange : ByteArray := prog_10_method_25_code
abbrev y_M_arrange : MethodName := { cls := "VeilSearchModel", name := "arrange", desc := "()V" }
abbrev c_M_useFilter : ByteArray := prog_10_method_29_code
abbrev y_M_useFilter : MethodName := { cls := "VeilSearchModel", name := "useFilter", desc := "(II)V" }
abbrev c_M_isLeft : ByteArray := prog_10_method_32_code
abbrev y_M_isLeft : MethodName := { cls := "VeilSearchModel", name := "isLeft", desc := "(II)Z" }
abbrev c_M_behindBlock : ByteArray := prog_10_method_30_code
abbrev y_M_behindBlock : MethodName := { cls := "VeilSearchModel", name := "behindBlock", desc := "(II)I" }
abbrev c_M_scoreOf : ByteArray := prog_10_method_27_code
abbrev y_M_scoreOf : MethodName := { cls := "VeilSearchModel", name := "scoreOf", desc := "(IIII)F" }
abbrev c_M_isOpen : ByteArray := prog_10_method_23_code
abbrev y_M_isOpen : MethodName := { cls := "VeilSearchModel", name := "isOpen", desc := "(II)Z" }
abbrev c_M_lookAt : ByteArray := prog_10_method_31_code
abbrev y_M_lookAt : MethodName := { cls := "VeilSearchModel", name := "lookAt", desc := "(IIIII)V" }
abbrev c_M_isFound : ByteArray := prog_10_method_26_code
abbrev y_M_isFound : MethodName := { cls := "VeilSearchModel", name := "isFound", desc := "(II)Z" }
abbrev c_M_mayRead : ByteArray := prog_10_method_24_code
abbrev y_M_mayRead : MethodName := { cls := "VeilSearchModel", name := "mayRead", desc := "(II)Z" }
abbrev c_M_tokens : ByteArray := prog_10_method_7_code
abbrev y_M_tokens : MethodName := { cls := "VeilSearchModel", name := "tokens", desc := "(IZ)I" }
abbrev c_M_enter : ByteArray := prog_10_method_28_code
abbrev y_M_enter : MethodName := { cls := "VeilSearchModel", name := "enter", desc := "(IFI)V" }
abbrev c_M_hit : ByteArray := prog_10_method_34_code
abbrev y_M_hit : MethodName := { cls := "VeilSearchModel", name := "hit", desc := "(I)I" }
abbrev c_M_score : ByteArray := prog_10_method_35_code
abbrev y_M_score : MethodName := { cls := "VeilSearchModel", name := "score", desc := "(I)D" }
abbrev c_M_value : ByteArray := prog_10_method_36_code
abbrev y_M_value : MethodName := { cls := "VeilSearchModel", name := "value", desc := "(III)I" }
abbrev c_M_count : ByteArray := prog_10_method_37_code
abbrev y_M_count : MethodName := { cls := "VeilSearchModel", name := "count", desc := "(I)I" }
