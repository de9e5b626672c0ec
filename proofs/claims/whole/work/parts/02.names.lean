def RX0 : String := "CrossRounds$Net"
def TX0 : u_T := fun k => match k with
  | 0 => ("CrossRounds$Net", "number", "I", true)
  | 1 => ("CrossRounds$Net", "earliest", "I", true)
  | 2 => ("CrossRounds$Net", "latest", "I", true)
  | 3 => ("CrossRounds$Net", "slope", "I", true)
  | 4 => ("CrossRounds$Net", "coupled", "Ljava/util/ArrayList;", true)
  | 5 => ("CrossRounds$Net", "stagesToIt", "Ljava/util/ArrayList;", true)
  | 6 => ("CrossRounds$Net", "excluded", "J", false)
  | 7 => ("CrossRounds$Net", "leaders", "J", false)
  | 8 => ("CrossRounds$Net", "begin", "I", false)
  | 9 => ("CrossRounds$Net", "end", "I", false)
  | 10 => ("CrossRounds$Net", "added", "I", false)
  | _ => ("CrossRounds$Net", "noise", "I", false)
def tyX0 : Nat → FieldType := fun k => match k with
  | 0 => .int
  | 1 => .int
  | 2 => .int
  | 3 => .int
  | 4 => .object "java/util/ArrayList"
  | 5 => .object "java/util/ArrayList"
  | 6 => .long
  | 7 => .long
  | 8 => .int
  | 9 => .int
  | 10 => .int
  | _ => .int
theorem nmX0 : ∀ a, a < 12 → ∀ b, b < 12 → a ≠ b → (TX0 a).2.1 ≠ (TX0 b).2.1 := by decide +kernel
theorem tyX0_ok : ∀ k, k < 12 → parseFieldDescriptor (TX0 k).2.2.1 = some (tyX0 k) := by decide +kernel
abbrev cX0_init : ByteArray := prog_2_method_1_code
def yX0_init : MethodName := ⟨RX0, "<init>", "(IIII)V"⟩
abbrev cX0_bit : ByteArray := prog_2_method_2_code
def yX0_bit : MethodName := ⟨RX0, "bit", "()J"⟩
abbrev cX0_isExcludedFrom : ByteArray := prog_2_method_3_code
def yX0_isExcludedFrom : MethodName := ⟨RX0, "isExcludedFrom", "(LCrossRounds$Net;)Z"⟩
abbrev cX0_isLedToBy : ByteArray := prog_2_method_4_code
def yX0_isLedToBy : MethodName := ⟨RX0, "isLedToBy", "(LCrossRounds$Net;)Z"⟩
abbrev cX0_leaderCount : ByteArray := prog_2_method_5_code
def yX0_leaderCount : MethodName := ⟨RX0, "leaderCount", "()I"⟩
abbrev cX0_meets : ByteArray := prog_2_method_6_code
def yX0_meets : MethodName := ⟨RX0, "meets", "(LCrossRounds$Net;)Z"⟩
abbrev cX0_placeOf : ByteArray := prog_2_method_7_code
def yX0_placeOf : MethodName := ⟨RX0, "placeOf", "(LCrossRounds$Net;)I"⟩
abbrev cX0_shareOf : ByteArray := prog_2_method_8_code
def yX0_shareOf : MethodName := ⟨RX0, "shareOf", "(LCrossRounds$Net;)I"⟩
abbrev cX0_join : ByteArray := prog_2_method_9_code
def yX0_join : MethodName := ⟨RX0, "join", "(LCrossRounds$Net;I)V"⟩
abbrev cX0_numberOfSource : ByteArray := prog_2_method_10_code
def yX0_numberOfSource : MethodName := ⟨RX0, "numberOfSource", "(I)I"⟩
abbrev cX0_sumOfShares : ByteArray := prog_2_method_11_code
def yX0_sumOfShares : MethodName := ⟨RX0, "sumOfShares", "(I)I"⟩
abbrev cX0_delayByAllSources : ByteArray := prog_2_method_12_code
def yX0_delayByAllSources : MethodName := ⟨RX0, "delayByAllSources", "(I)I"⟩
abbrev cX0_delayByMeetingSources : ByteArray := prog_2_method_13_code
def yX0_delayByMeetingSources : MethodName := ⟨RX0, "delayByMeetingSources", "(I)I"⟩
abbrev cX0_sumOfDelays : ByteArray := prog_2_method_14_code
def yX0_sumOfDelays : MethodName := ⟨RX0, "sumOfDelays", "(IZ)I"⟩
abbrev cX0_workOutSpan : ByteArray := prog_2_method_15_code
def yX0_workOutSpan : MethodName := ⟨RX0, "workOutSpan", "()V"⟩
abbrev cX0_workOutNoise : ByteArray := prog_2_method_16_code
def yX0_workOutNoise : MethodName := ⟨RX0, "workOutNoise", "(ILCrossRounds$Table;)V"⟩
def RX1 : String := "CrossRounds$Source"
def TX1 : u_T := fun k => match k with
  | 0 => ("CrossRounds$Source", "net", "LCrossRounds$Net;", true)
  | _ => ("CrossRounds$Source", "share", "I", true)
def tyX1 : Nat → FieldType := fun k => match k with
  | 0 => .object "CrossRounds$Net"
  | _ => .int
theorem nmX1 : ∀ a, a < 2 → ∀ b, b < 2 → a ≠ b → (TX1 a).2.1 ≠ (TX1 b).2.1 := by decide +kernel
theorem tyX1_ok : ∀ k, k < 2 → parseFieldDescriptor (TX1 k).2.2.1 = some (tyX1 k) := by decide +kernel
abbrev cX1_init : ByteArray := prog_3_method_1_code
def yX1_init : MethodName := ⟨RX1, "<init>", "(LCrossRounds$Net;I)V"⟩
abbrev cX1_strength : ByteArray := prog_3_method_2_code
def yX1_strength : MethodName := ⟨RX1, "strength", "()I"⟩
abbrev cX1_delay : ByteArray := prog_3_method_3_code
def yX1_delay : MethodName := ⟨RX1, "delay", "()I"⟩
abbrev cX1_isStrongerThan : ByteArray := prog_3_method_4_code
def yX1_isStrongerThan : MethodName := ⟨RX1, "isStrongerThan", "(LCrossRounds$Source;)Z"⟩
def RX2 : String := "CrossRounds$Stage"
def TX2 : u_T := fun k => match k with
  | 0 => ("CrossRounds$Stage", "from", "LCrossRounds$Net;", true)
  | _ => ("CrossRounds$Stage", "delay", "I", true)
def tyX2 : Nat → FieldType := fun k => match k with
  | 0 => .object "CrossRounds$Net"
  | _ => .int
theorem nmX2 : ∀ a, a < 2 → ∀ b, b < 2 → a ≠ b → (TX2 a).2.1 ≠ (TX2 b).2.1 := by decide +kernel
theorem tyX2_ok : ∀ k, k < 2 → parseFieldDescriptor (TX2 k).2.2.1 = some (tyX2 k) := by decide +kernel
abbrev cX2_init : ByteArray := prog_4_method_1_code
def yX2_init : MethodName := ⟨RX2, "<init>", "(LCrossRounds$Net;I)V"⟩
def RX3 : String := "CrossRounds$Table"
def TX3 : u_T := fun k => match k with
  | 0 => ("CrossRounds$Table", "heights", "[I", true)
  | 1 => ("CrossRounds$Table", "throughs", "[I", true)
  | _ => ("CrossRounds$Table", "size", "I", false)
def tyX3 : Nat → FieldType := fun k => match k with
  | 0 => .array .int
  | 1 => .array .int
  | _ => .int
theorem nmX3 : ∀ a, a < 3 → ∀ b, b < 3 → a ≠ b → (TX3 a).2.1 ≠ (TX3 b).2.1 := by decide +kernel
theorem tyX3_ok : ∀ k, k < 3 → parseFieldDescriptor (TX3 k).2.2.1 = some (tyX3 k) := by decide +kernel
abbrev cX3_init : ByteArray := prog_5_method_1_code
def yX3_init : MethodName := ⟨RX3, "<init>", "()V"⟩
abbrev cX3_append : ByteArray := prog_5_method_2_code
def yX3_append : MethodName := ⟨RX3, "append", "(II)Z"⟩
abbrev cX3_throughOf : ByteArray := prog_5_method_3_code
def yX3_throughOf : MethodName := ⟨RX3, "throughOf", "(I)I"⟩
def RX4 : String := "CrossRounds"
def TX4 : u_T := fun k => match k with
  | 0 => ("CrossRounds", "nets", "Ljava/util/ArrayList;", true)
  | 1 => ("CrossRounds", "flow", "Ljava/util/ArrayList;", true)
  | 2 => ("CrossRounds", "table", "LCrossRounds$Table;", true)
  | 3 => ("CrossRounds", "changes", "[I", true)
  | 4 => ("CrossRounds", "roundsMade", "I", false)
  | 5 => ("CrossRounds", "kept", "I", false)
  | 6 => ("CrossRounds", "couples", "I", false)
  | 7 => ("CrossRounds", "excludedPairs", "I", false)
  | _ => ("CrossRounds", "stages", "I", false)
def tyX4 : Nat → FieldType := fun k => match k with
  | 0 => .object "java/util/ArrayList"
  | 1 => .object "java/util/ArrayList"
  | 2 => .object "CrossRounds$Table"
  | 3 => .array .int
  | 4 => .int
  | 5 => .int
  | 6 => .int
  | 7 => .int
  | _ => .int
theorem nmX4 : ∀ a, a < 9 → ∀ b, b < 9 → a ≠ b → (TX4 a).2.1 ≠ (TX4 b).2.1 := by decide +kernel
theorem tyX4_ok : ∀ k, k < 9 → parseFieldDescriptor (TX4 k).2.2.1 = some (tyX4 k) := by decide +kernel
abbrev cX4_init : ByteArray := prog_1_method_1_code
def yX4_init : MethodName := ⟨RX4, "<init>", "()V"⟩
abbrev cX4_net : ByteArray := prog_1_method_2_code
def yX4_net : MethodName := ⟨RX4, "net", "(III)I"⟩
abbrev cX4_couple : ByteArray := prog_1_method_3_code
def yX4_couple : MethodName := ⟨RX4, "couple", "(III)I"⟩
abbrev cX4_exclude : ByteArray := prog_1_method_4_code
def yX4_exclude : MethodName := ⟨RX4, "exclude", "(II)Z"⟩
abbrev cX4_stage : ByteArray := prog_1_method_5_code
def yX4_stage : MethodName := ⟨RX4, "stage", "(III)I"⟩
abbrev cX4_keep : ByteArray := prog_1_method_6_code
def yX4_keep : MethodName := ⟨RX4, "keep", "(I)I"⟩
abbrev cX4_row : ByteArray := prog_1_method_7_code
def yX4_row : MethodName := ⟨RX4, "row", "(II)Z"⟩
abbrev cX4_run : ByteArray := prog_1_method_8_code
def yX4_run : MethodName := ⟨RX4, "run", "(IZ)I"⟩
abbrev cX4_early : ByteArray := prog_1_method_9_code
def yX4_early : MethodName := ⟨RX4, "early", "(I)I"⟩
abbrev cX4_late : ByteArray := prog_1_method_10_code
def yX4_late : MethodName := ⟨RX4, "late", "(I)I"⟩
abbrev cX4_added : ByteArray := prog_1_method_11_code
def yX4_added : MethodName := ⟨RX4, "added", "(I)I"⟩
abbrev cX4_changed : ByteArray := prog_1_method_12_code
def yX4_changed : MethodName := ⟨RX4, "changed", "(I)I"⟩
abbrev cX4_source : ByteArray := prog_1_method_13_code
def yX4_source : MethodName := ⟨RX4, "source", "(II)I"⟩
abbrev cX4_height : ByteArray := prog_1_method_14_code
def yX4_height : MethodName := ⟨RX4, "height", "(I)I"⟩
abbrev cX4_noise : ByteArray := prog_1_method_15_code
def yX4_noise : MethodName := ⟨RX4, "noise", "(I)I"⟩
abbrev cX4_count : ByteArray := prog_1_method_16_code
def yX4_count : MethodName := ⟨RX4, "count", "(I)I"⟩
abbrev cX4_clear : ByteArray := prog_1_method_17_code
def yX4_clear : MethodName := ⟨RX4, "clear", "()V"⟩
abbrev cX4_netAt : ByteArray := prog_1_method_18_code
def yX4_netAt : MethodName := ⟨RX4, "netAt", "(I)LCrossRounds$Net;"⟩
abbrev cX4_requirePlace : ByteArray := prog_1_method_19_code
def yX4_requirePlace : MethodName := ⟨RX4, "requirePlace", "(II)V"⟩
abbrev cX4_requireWithin : ByteArray := prog_1_method_20_code
def yX4_requireWithin : MethodName := ⟨RX4, "requireWithin", "(III)V"⟩
abbrev cX4_requireDifferent : ByteArray := prog_1_method_21_code
def yX4_requireDifferent : MethodName := ⟨RX4, "requireDifferent", "(II)V"⟩
abbrev cX4_requireRoom : ByteArray := prog_1_method_22_code
def yX4_requireRoom : MethodName := ⟨RX4, "requireRoom", "(II)V"⟩
abbrev cX4_spreadLeaders : ByteArray := prog_1_method_23_code
def yX4_spreadLeaders : MethodName := ⟨RX4, "spreadLeaders", "(LCrossRounds$Net;LCrossRounds$Net;)V"⟩
abbrev cX4_sortFlow : ByteArray := prog_1_method_24_code
def yX4_sortFlow : MethodName := ⟨RX4, "sortFlow", "()V"⟩
abbrev cX4_workOutSpans : ByteArray := prog_1_method_25_code
def yX4_workOutSpans : MethodName := ⟨RX4, "workOutSpans", "()V"⟩
abbrev cX4_makeRound : ByteArray := prog_1_method_26_code
def yX4_makeRound : MethodName := ⟨RX4, "makeRound", "()I"⟩
def RX5 : String := "CrossRoundsModel"
def TX5 : u_T := fun k => match k with
  | 0 => ("CrossRoundsModel", "code", "I", false)
  | 1 => ("CrossRoundsModel", "nets", "I", false)
  | 2 => ("CrossRoundsModel", "earlies", "[I", true)
  | 3 => ("CrossRoundsModel", "lates", "[I", true)
  | 4 => ("CrossRoundsModel", "slopes", "[I", true)
  | 5 => ("CrossRoundsModel", "shares", "[I", true)
  | 6 => ("CrossRoundsModel", "excluded", "[Z", true)
  | 7 => ("CrossRoundsModel", "couples", "I", false)
  | 8 => ("CrossRoundsModel", "pairs", "I", false)
  | 9 => ("CrossRoundsModel", "stages", "I", false)
  | 10 => ("CrossRoundsModel", "froms", "[I", true)
  | 11 => ("CrossRoundsModel", "tos", "[I", true)
  | 12 => ("CrossRoundsModel", "delays", "[I", true)
  | 13 => ("CrossRoundsModel", "kept", "I", false)
  | 14 => ("CrossRoundsModel", "rows", "I", false)
  | 15 => ("CrossRoundsModel", "heights", "[I", true)
  | 16 => ("CrossRoundsModel", "throughs", "[I", true)
  | 17 => ("CrossRoundsModel", "ran", "I", false)
  | 18 => ("CrossRoundsModel", "rounds", "I", false)
  | 19 => ("CrossRoundsModel", "changes", "[I", true)
  | 20 => ("CrossRoundsModel", "added", "[I", true)
  | 21 => ("CrossRoundsModel", "begins", "[I", true)
  | 22 => ("CrossRoundsModel", "ends", "[I", true)
  | 23 => ("CrossRoundsModel", "next", "[I", true)
  | 24 => ("CrossRoundsModel", "comes", "[Z", true)
  | 25 => ("CrossRoundsModel", "sources", "[I", true)
  | _ => ("CrossRoundsModel", "noises", "[I", true)
def tyX5 : Nat → FieldType := fun k => match k with
  | 0 => .int
  | 1 => .int
  | 2 => .array .int
  | 3 => .array .int
  | 4 => .array .int
  | 5 => .array .int
  | 6 => .array .boolean
  | 7 => .int
  | 8 => .int
  | 9 => .int
  | 10 => .array .int
  | 11 => .array .int
  | 12 => .array .int
  | 13 => .int
  | 14 => .int
  | 15 => .array .int
  | 16 => .array .int
  | 17 => .int
  | 18 => .int
  | 19 => .array .int
  | 20 => .array .int
  | 21 => .array .int
  | 22 => .array .int
  | 23 => .array .int
  | 24 => .array .boolean
  | 25 => .array .int
  | _ => .array .int
theorem nmX5 : ∀ a, a < 27 → ∀ b, b < 27 → a ≠ b → (TX5 a).2.1 ≠ (TX5 b).2.1 := by decide +kernel
theorem tyX5_ok : ∀ k, k < 27 → parseFieldDescriptor (TX5 k).2.2.1 = some (tyX5 k) := by decide +kernel
abbrev cX5_init : ByteArray := prog_7_method_1_code
def yX5_init : MethodName := ⟨RX5, "<init>", "()V"⟩
abbrev cX5_thrown : ByteArray := prog_7_method_2_code
def yX5_thrown : MethodName := ⟨RX5, "thrown", "()I"⟩
abbrev cX5_isNet : ByteArray := prog_7_method_3_code
def yX5_isNet : MethodName := ⟨RX5, "isNet", "(I)Z"⟩
abbrev cX5_within : ByteArray := prog_7_method_4_code
def yX5_within : MethodName := ⟨RX5, "within", "(III)Z"⟩
abbrev cX5_net : ByteArray := prog_7_method_5_code
def yX5_net : MethodName := ⟨RX5, "net", "(III)I"⟩
abbrev cX5_couple : ByteArray := prog_7_method_6_code
def yX5_couple : MethodName := ⟨RX5, "couple", "(III)I"⟩
abbrev cX5_exclude : ByteArray := prog_7_method_7_code
def yX5_exclude : MethodName := ⟨RX5, "exclude", "(II)Z"⟩
abbrev cX5_leads : ByteArray := prog_7_method_8_code
def yX5_leads : MethodName := ⟨RX5, "leads", "(II)Z"⟩
abbrev cX5_stage : ByteArray := prog_7_method_9_code
def yX5_stage : MethodName := ⟨RX5, "stage", "(III)I"⟩
abbrev cX5_keep : ByteArray := prog_7_method_10_code
def yX5_keep : MethodName := ⟨RX5, "keep", "(I)I"⟩
abbrev cX5_row : ByteArray := prog_7_method_11_code
def yX5_row : MethodName := ⟨RX5, "row", "(II)Z"⟩
abbrev cX5_isSource : ByteArray := prog_7_method_12_code
def yX5_isSource : MethodName := ⟨RX5, "isSource", "(II)Z"⟩
abbrev cX5_isStronger : ByteArray := prog_7_method_13_code
def yX5_isStronger : MethodName := ⟨RX5, "isStronger", "(III)Z"⟩
abbrev cX5_gather : ByteArray := prog_7_method_14_code
def yX5_gather : MethodName := ⟨RX5, "gather", "(IZ)I"⟩
abbrev cX5_sum : ByteArray := prog_7_method_15_code
def yX5_sum : MethodName := ⟨RX5, "sum", "(IZ)I"⟩
abbrev cX5_spans : ByteArray := prog_7_method_16_code
def yX5_spans : MethodName := ⟨RX5, "spans", "()V"⟩
abbrev cX5_run : ByteArray := prog_7_method_17_code
def yX5_run : MethodName := ⟨RX5, "run", "(IZ)I"⟩
abbrev cX5_early : ByteArray := prog_7_method_18_code
def yX5_early : MethodName := ⟨RX5, "early", "(I)I"⟩
abbrev cX5_late : ByteArray := prog_7_method_19_code
def yX5_late : MethodName := ⟨RX5, "late", "(I)I"⟩
abbrev cX5_added : ByteArray := prog_7_method_20_code
def yX5_added : MethodName := ⟨RX5, "added", "(I)I"⟩
abbrev cX5_changed : ByteArray := prog_7_method_21_code
def yX5_changed : MethodName := ⟨RX5, "changed", "(I)I"⟩
abbrev cX5_source : ByteArray := prog_7_method_22_code
def yX5_source : MethodName := ⟨RX5, "source", "(II)I"⟩
abbrev cX5_heightOf : ByteArray := prog_7_method_23_code
def yX5_heightOf : MethodName := ⟨RX5, "heightOf", "(I)I"⟩
abbrev cX5_height : ByteArray := prog_7_method_24_code
def yX5_height : MethodName := ⟨RX5, "height", "(I)I"⟩
abbrev cX5_through : ByteArray := prog_7_method_25_code
def yX5_through : MethodName := ⟨RX5, "through", "(I)I"⟩
abbrev cX5_noise : ByteArray := prog_7_method_26_code
def yX5_noise : MethodName := ⟨RX5, "noise", "(I)I"⟩
abbrev cX5_count : ByteArray := prog_7_method_27_code
def yX5_count : MethodName := ⟨RX5, "count", "(I)I"⟩
abbrev cX5_clear : ByteArray := prog_7_method_28_code
def yX5_clear : MethodName := ⟨RX5, "clear", "()V"⟩
def RJx145de : String := "java/io/Serializable"
def TJx145de : u_T := fun k => match k with
  | _ => ("", "", "", false)
def tyJx145de : Nat → FieldType := fun k => match k with
  | _ => .int
theorem nmJx145de : ∀ a, a < 0 → ∀ b, b < 0 → a ≠ b → (TJx145de a).2.1 ≠ (TJx145de b).2.1 := by decide +kernel
theorem tyJx145de_ok : ∀ k, k < 0 → parseFieldDescriptor (TJx145de k).2.2.1 = some (tyJx145de k) := by decide +kernel
def RJ5 : String := "java/lang/AbstractStringBuilder"
def TJ5 : u_T := fun k => match k with
  | _ => ("", "", "", false)
def tyJ5 : Nat → FieldType := fun k => match k with
  | _ => .int
theorem nmJ5 : ∀ a, a < 0 → ∀ b, b < 0 → a ≠ b → (TJ5 a).2.1 ≠ (TJ5 b).2.1 := by decide +kernel
theorem tyJ5_ok : ∀ k, k < 0 → parseFieldDescriptor (TJ5 k).2.2.1 = some (tyJ5 k) := by decide +kernel
def RJx8e188 : String := "java/lang/Cloneable"
def TJx8e188 : u_T := fun k => match k with
  | _ => ("", "", "", false)
def tyJx8e188 : Nat → FieldType := fun k => match k with
  | _ => .int
theorem nmJx8e188 : ∀ a, a < 0 → ∀ b, b < 0 → a ≠ b → (TJx8e188 a).2.1 ≠ (TJx8e188 b).2.1 := by decide +kernel
theorem tyJx8e188_ok : ∀ k, k < 0 → parseFieldDescriptor (TJx8e188 k).2.2.1 = some (tyJx8e188 k) := by decide +kernel
def RJ6 : String := "java/lang/Integer"
def TJ6 : u_T := fun k => match k with
  | _ => ("", "", "", false)
def tyJ6 : Nat → FieldType := fun k => match k with
  | _ => .int
theorem nmJ6 : ∀ a, a < 0 → ∀ b, b < 0 → a ≠ b → (TJ6 a).2.1 ≠ (TJ6 b).2.1 := by decide +kernel
theorem tyJ6_ok : ∀ k, k < 0 → parseFieldDescriptor (TJ6 k).2.2.1 = some (tyJ6 k) := by decide +kernel
def RJxab1ab : String := "java/lang/Iterable"
def TJxab1ab : u_T := fun k => match k with
  | _ => ("", "", "", false)
def tyJxab1ab : Nat → FieldType := fun k => match k with
  | _ => .int
theorem nmJxab1ab : ∀ a, a < 0 → ∀ b, b < 0 → a ≠ b → (TJxab1ab a).2.1 ≠ (TJxab1ab b).2.1 := by decide +kernel
theorem tyJxab1ab_ok : ∀ k, k < 0 → parseFieldDescriptor (TJxab1ab k).2.2.1 = some (tyJxab1ab k) := by decide +kernel
def RJ13 : String := "java/lang/Long"
def TJ13 : u_T := fun k => match k with
  | _ => ("", "", "", false)
def tyJ13 : Nat → FieldType := fun k => match k with
  | _ => .int
theorem nmJ13 : ∀ a, a < 0 → ∀ b, b < 0 → a ≠ b → (TJ13 a).2.1 ≠ (TJ13 b).2.1 := by decide +kernel
theorem tyJ13_ok : ∀ k, k < 0 → parseFieldDescriptor (TJ13 k).2.2.1 = some (tyJ13 k) := by decide +kernel
abbrev cJ13_bitCount_95d88 : ByteArray := prog_17_method_50_code
def yJ13_bitCount_95d88 : MethodName := ⟨RJ13, "bitCount", "(J)I"⟩
def RJ9 : String := "java/lang/Math"
def TJ9 : u_T := fun k => match k with
  | _ => ("", "", "", false)
def tyJ9 : Nat → FieldType := fun k => match k with
  | _ => .int
theorem nmJ9 : ∀ a, a < 0 → ∀ b, b < 0 → a ≠ b → (TJ9 a).2.1 ≠ (TJ9 b).2.1 := by decide +kernel
theorem tyJ9_ok : ∀ k, k < 0 → parseFieldDescriptor (TJ9 k).2.2.1 = some (tyJ9 k) := by decide +kernel
def RJ0 : String := "java/lang/String"
def TJ0 : u_T := fun k => match k with
  | 0 => ("java/lang/String", "value", "[B", true)
  | 1 => ("java/lang/String", "coder", "B", true)
  | 2 => ("java/lang/String", "hash", "I", false)
  | _ => ("java/lang/String", "hashIsZero", "Z", false)
def tyJ0 : Nat → FieldType := fun k => match k with
  | 0 => .array .byte
  | 1 => .byte
  | 2 => .int
  | _ => .boolean
theorem nmJ0 : ∀ a, a < 4 → ∀ b, b < 4 → a ≠ b → (TJ0 a).2.1 ≠ (TJ0 b).2.1 := by decide +kernel
theorem tyJ0_ok : ∀ k, k < 4 → parseFieldDescriptor (TJ0 k).2.2.1 = some (tyJ0 k) := by decide +kernel
def RJ4 : String := "java/lang/StringBuilder"
def TJ4 : u_T := fun k => match k with
  | 0 => ("java/lang/AbstractStringBuilder", "value", "[B", false)
  | 1 => ("java/lang/AbstractStringBuilder", "coder", "B", false)
  | 2 => ("java/lang/AbstractStringBuilder", "maybeLatin1", "Z", false)
  | _ => ("java/lang/AbstractStringBuilder", "count", "I", false)
def tyJ4 : Nat → FieldType := fun k => match k with
  | 0 => .array .byte
  | 1 => .byte
  | 2 => .boolean
  | _ => .int
theorem nmJ4 : ∀ a, a < 4 → ∀ b, b < 4 → a ≠ b → (TJ4 a).2.1 ≠ (TJ4 b).2.1 := by decide +kernel
theorem tyJ4_ok : ∀ k, k < 4 → parseFieldDescriptor (TJ4 k).2.2.1 = some (tyJ4 k) := by decide +kernel
def RJ1 : String := "java/lang/StringLatin1"
def TJ1 : u_T := fun k => match k with
  | _ => ("", "", "", false)
def tyJ1 : Nat → FieldType := fun k => match k with
  | _ => .int
theorem nmJ1 : ∀ a, a < 0 → ∀ b, b < 0 → a ≠ b → (TJ1 a).2.1 ≠ (TJ1 b).2.1 := by decide +kernel
theorem tyJ1_ok : ∀ k, k < 0 → parseFieldDescriptor (TJ1 k).2.2.1 = some (tyJ1 k) := by decide +kernel
def RJ2 : String := "java/lang/StringUTF16"
def TJ2 : u_T := fun k => match k with
  | _ => ("", "", "", false)
def tyJ2 : Nat → FieldType := fun k => match k with
  | _ => .int
theorem nmJ2 : ∀ a, a < 0 → ∀ b, b < 0 → a ≠ b → (TJ2 a).2.1 ≠ (TJ2 b).2.1 := by decide +kernel
theorem tyJ2_ok : ∀ k, k < 0 → parseFieldDescriptor (TJ2 k).2.2.1 = some (tyJ2 k) := by decide +kernel
def RJ10 : String := "java/lang/System"
def TJ10 : u_T := fun k => match k with
  | _ => ("", "", "", false)
def tyJ10 : Nat → FieldType := fun k => match k with
  | _ => .int
theorem nmJ10 : ∀ a, a < 0 → ∀ b, b < 0 → a ≠ b → (TJ10 a).2.1 ≠ (TJ10 b).2.1 := by decide +kernel
theorem tyJ10_ok : ∀ k, k < 0 → parseFieldDescriptor (TJ10 k).2.2.1 = some (tyJ10 k) := by decide +kernel
def RJxa1e45 : String := "java/util/AbstractCollection"
def TJxa1e45 : u_T := fun k => match k with
  | _ => ("", "", "", false)
def tyJxa1e45 : Nat → FieldType := fun k => match k with
  | _ => .int
theorem nmJxa1e45 : ∀ a, a < 0 → ∀ b, b < 0 → a ≠ b → (TJxa1e45 a).2.1 ≠ (TJxa1e45 b).2.1 := by decide +kernel
theorem tyJxa1e45_ok : ∀ k, k < 0 → parseFieldDescriptor (TJxa1e45 k).2.2.1 = some (tyJxa1e45 k) := by decide +kernel
abbrev cJxa1e45_init_da8c8 : ByteArray := prog_26_method_1_code
def yJxa1e45_init_da8c8 : MethodName := ⟨RJxa1e45, "<init>", "()V"⟩
def RJxc12de : String := "java/util/AbstractList"
def TJxc12de : u_T := fun k => match k with
  | _ => ("", "", "", false)
def tyJxc12de : Nat → FieldType := fun k => match k with
  | _ => .int
theorem nmJxc12de : ∀ a, a < 0 → ∀ b, b < 0 → a ≠ b → (TJxc12de a).2.1 ≠ (TJxc12de b).2.1 := by decide +kernel
theorem tyJxc12de_ok : ∀ k, k < 0 → parseFieldDescriptor (TJxc12de k).2.2.1 = some (tyJxc12de k) := by decide +kernel
abbrev cJxc12de_init_da8c8 : ByteArray := prog_27_method_1_code
def yJxc12de_init_da8c8 : MethodName := ⟨RJxc12de, "<init>", "()V"⟩
def RJx4a65c : String := "java/util/ArrayList"
def TJx4a65c : u_T := fun k => match k with
  | 0 => ("java/util/AbstractList", "modCount", "I", false)
  | 1 => ("java/util/ArrayList", "elementData", "[Ljava/lang/Object;", false)
  | _ => ("java/util/ArrayList", "size", "I", false)
def tyJx4a65c : Nat → FieldType := fun k => match k with
  | 0 => .int
  | 1 => .array (.object "java/lang/Object")
  | _ => .int
theorem nmJx4a65c : ∀ a, a < 3 → ∀ b, b < 3 → a ≠ b → (TJx4a65c a).2.1 ≠ (TJx4a65c b).2.1 := by decide +kernel
theorem tyJx4a65c_ok : ∀ k, k < 3 → parseFieldDescriptor (TJx4a65c k).2.2.1 = some (tyJx4a65c k) := by decide +kernel
abbrev cJx4a65c_init_da8c8 : ByteArray := prog_28_method_2_code
def yJx4a65c_init_da8c8 : MethodName := ⟨RJx4a65c, "<init>", "()V"⟩
abbrev cJx4a65c_grow_92f84 : ByteArray := prog_28_method_6_code
def yJx4a65c_grow_92f84 : MethodName := ⟨RJx4a65c, "grow", "(I)[Ljava/lang/Object;"⟩
abbrev cJx4a65c_grow_d5877 : ByteArray := prog_28_method_7_code
def yJx4a65c_grow_d5877 : MethodName := ⟨RJx4a65c, "grow", "()[Ljava/lang/Object;"⟩
abbrev cJx4a65c_size_8abf5 : ByteArray := prog_28_method_8_code
def yJx4a65c_size_8abf5 : MethodName := ⟨RJx4a65c, "size", "()I"⟩
abbrev cJx4a65c_isEmpty_aae02 : ByteArray := prog_28_method_9_code
def yJx4a65c_isEmpty_aae02 : MethodName := ⟨RJx4a65c, "isEmpty", "()Z"⟩
abbrev cJx4a65c_elementData_915e3 : ByteArray := prog_28_method_18_code
def yJx4a65c_elementData_915e3 : MethodName := ⟨RJx4a65c, "elementData", "(I)Ljava/lang/Object;"⟩
abbrev cJx4a65c_get_915e3 : ByteArray := prog_28_method_20_code
def yJx4a65c_get_915e3 : MethodName := ⟨RJx4a65c, "get", "(I)Ljava/lang/Object;"⟩
abbrev cJx4a65c_set_bcc79 : ByteArray := prog_28_method_23_code
def yJx4a65c_set_bcc79 : MethodName := ⟨RJx4a65c, "set", "(ILjava/lang/Object;)Ljava/lang/Object;"⟩
abbrev cJx4a65c_add_72be8 : ByteArray := prog_28_method_24_code
def yJx4a65c_add_72be8 : MethodName := ⟨RJx4a65c, "add", "(Ljava/lang/Object;[Ljava/lang/Object;I)V"⟩
abbrev cJx4a65c_add_9ea2d : ByteArray := prog_28_method_25_code
def yJx4a65c_add_9ea2d : MethodName := ⟨RJx4a65c, "add", "(Ljava/lang/Object;)Z"⟩
abbrev cJx4a65c_add_7a177 : ByteArray := prog_28_method_26_code
def yJx4a65c_add_7a177 : MethodName := ⟨RJx4a65c, "add", "(ILjava/lang/Object;)V"⟩
abbrev cJx4a65c_remove_915e3 : ByteArray := prog_28_method_29_code
def yJx4a65c_remove_915e3 : MethodName := ⟨RJx4a65c, "remove", "(I)Ljava/lang/Object;"⟩
abbrev cJx4a65c_fastRemove_b59b0 : ByteArray := prog_28_method_39_code
def yJx4a65c_fastRemove_b59b0 : MethodName := ⟨RJx4a65c, "fastRemove", "([Ljava/lang/Object;I)V"⟩
abbrev cJx4a65c_clear_da8c8 : ByteArray := prog_28_method_40_code
def yJx4a65c_clear_da8c8 : MethodName := ⟨RJx4a65c, "clear", "()V"⟩
abbrev cJx4a65c_rangeCheckForAdd_d00df : ByteArray := prog_28_method_45_code
def yJx4a65c_rangeCheckForAdd_d00df : MethodName := ⟨RJx4a65c, "rangeCheckForAdd", "(I)V"⟩
abbrev cJx4a65c_outOfBoundsMsg_b52d3 : ByteArray := prog_28_method_46_code
def yJx4a65c_outOfBoundsMsg_b52d3 : MethodName := ⟨RJx4a65c, "outOfBoundsMsg", "(I)Ljava/lang/String;"⟩
def RJ7 : String := "java/util/Arrays"
def TJ7 : u_T := fun k => match k with
  | _ => ("", "", "", false)
def tyJ7 : Nat → FieldType := fun k => match k with
  | _ => .int
theorem nmJ7 : ∀ a, a < 0 → ∀ b, b < 0 → a ≠ b → (TJ7 a).2.1 ≠ (TJ7 b).2.1 := by decide +kernel
theorem tyJ7_ok : ∀ k, k < 0 → parseFieldDescriptor (TJ7 k).2.2.1 = some (tyJ7 k) := by decide +kernel
abbrev cJ7_copyOf_1904c : ByteArray := prog_29_method_119_code
def yJ7_copyOf_1904c : MethodName := ⟨RJ7, "copyOf", "([Ljava/lang/Object;I)[Ljava/lang/Object;"⟩
abbrev cJ7_copyOf_6403c : ByteArray := prog_29_method_120_code
def yJ7_copyOf_6403c : MethodName := ⟨RJ7, "copyOf", "([Ljava/lang/Object;ILjava/lang/Class;)[Ljava/lang/Object;"⟩
def RJx5ef63 : String := "java/util/Collection"
def TJx5ef63 : u_T := fun k => match k with
  | _ => ("", "", "", false)
def tyJx5ef63 : Nat → FieldType := fun k => match k with
  | _ => .int
theorem nmJx5ef63 : ∀ a, a < 0 → ∀ b, b < 0 → a ≠ b → (TJx5ef63 a).2.1 ≠ (TJx5ef63 b).2.1 := by decide +kernel
theorem tyJx5ef63_ok : ∀ k, k < 0 → parseFieldDescriptor (TJx5ef63 k).2.2.1 = some (tyJx5ef63 k) := by decide +kernel
def RJxbd725 : String := "java/util/List"
def TJxbd725 : u_T := fun k => match k with
  | _ => ("", "", "", false)
def tyJxbd725 : Nat → FieldType := fun k => match k with
  | _ => .int
theorem nmJxbd725 : ∀ a, a < 0 → ∀ b, b < 0 → a ≠ b → (TJxbd725 a).2.1 ≠ (TJxbd725 b).2.1 := by decide +kernel
theorem tyJxbd725_ok : ∀ k, k < 0 → parseFieldDescriptor (TJxbd725 k).2.2.1 = some (tyJxbd725 k) := by decide +kernel
def RJ15 : String := "java/util/Objects"
def TJ15 : u_T := fun k => match k with
  | _ => ("", "", "", false)
def tyJ15 : Nat → FieldType := fun k => match k with
  | _ => .int
theorem nmJ15 : ∀ a, a < 0 → ∀ b, b < 0 → a ≠ b → (TJ15 a).2.1 ≠ (TJ15 b).2.1 := by decide +kernel
theorem tyJ15_ok : ∀ k, k < 0 → parseFieldDescriptor (TJ15 k).2.2.1 = some (tyJ15 k) := by decide +kernel
abbrev cJ15_checkIndex_7cf53 : ByteArray := prog_32_method_17_code
def yJ15_checkIndex_7cf53 : MethodName := ⟨RJ15, "checkIndex", "(II)I"⟩
def RJxf0a74 : String := "java/util/RandomAccess"
def TJxf0a74 : u_T := fun k => match k with
  | _ => ("", "", "", false)
def tyJxf0a74 : Nat → FieldType := fun k => match k with
  | _ => .int
theorem nmJxf0a74 : ∀ a, a < 0 → ∀ b, b < 0 → a ≠ b → (TJxf0a74 a).2.1 ≠ (TJxf0a74 b).2.1 := by decide +kernel
theorem tyJxf0a74_ok : ∀ k, k < 0 → parseFieldDescriptor (TJxf0a74 k).2.2.1 = some (tyJxf0a74 k) := by decide +kernel
def RJxa66e6 : String := "java/util/SequencedCollection"
def TJxa66e6 : u_T := fun k => match k with
  | _ => ("", "", "", false)
def tyJxa66e6 : Nat → FieldType := fun k => match k with
  | _ => .int
theorem nmJxa66e6 : ∀ a, a < 0 → ∀ b, b < 0 → a ≠ b → (TJxa66e6 a).2.1 ≠ (TJxa66e6 b).2.1 := by decide +kernel
theorem tyJxa66e6_ok : ∀ k, k < 0 → parseFieldDescriptor (TJxa66e6 k).2.2.1 = some (tyJxa66e6 k) := by decide +kernel
def RJ8 : String := "jdk/internal/util/ArraysSupport"
def TJ8 : u_T := fun k => match k with
  | _ => ("", "", "", false)
def tyJ8 : Nat → FieldType := fun k => match k with
  | _ => .int
theorem nmJ8 : ∀ a, a < 0 → ∀ b, b < 0 → a ≠ b → (TJ8 a).2.1 ≠ (TJ8 b).2.1 := by decide +kernel
theorem tyJ8_ok : ∀ k, k < 0 → parseFieldDescriptor (TJ8 k).2.2.1 = some (tyJ8 k) := by decide +kernel
abbrev cJ8_newLength_cabcc : ByteArray := prog_35_method_27_code
def yJ8_newLength_cabcc : MethodName := ⟨RJ8, "newLength", "(III)I"⟩
def RJ3 : String := "jdk/internal/util/Preconditions"
def TJ3 : u_T := fun k => match k with
  | _ => ("", "", "", false)
def tyJ3 : Nat → FieldType := fun k => match k with
  | _ => .int
theorem nmJ3 : ∀ a, a < 0 → ∀ b, b < 0 → a ≠ b → (TJ3 a).2.1 ≠ (TJ3 b).2.1 := by decide +kernel
theorem tyJ3_ok : ∀ k, k < 0 → parseFieldDescriptor (TJ3 k).2.2.1 = some (tyJ3 k) := by decide +kernel
abbrev cJ3_checkIndex_8e157 : ByteArray := prog_36_method_11_code
def yJ3_checkIndex_8e157 : MethodName := ⟨RJ3, "checkIndex", "(IILjava/util/function/BiFunction;)I"⟩
def RL : String := "CrossRoundsLaw"
abbrev cL_net : ByteArray := method_3_code
def yL_net : MethodName := ⟨RL, "net", "(LCrossRounds;III[J)I"⟩
abbrev cL_couple : ByteArray := method_4_code
def yL_couple : MethodName := ⟨RL, "couple", "(LCrossRounds;III[J)I"⟩
abbrev cL_exclude : ByteArray := method_5_code
def yL_exclude : MethodName := ⟨RL, "exclude", "(LCrossRounds;II[J)I"⟩
abbrev cL_stage : ByteArray := method_6_code
def yL_stage : MethodName := ⟨RL, "stage", "(LCrossRounds;III[J)I"⟩
abbrev cL_keep : ByteArray := method_7_code
def yL_keep : MethodName := ⟨RL, "keep", "(LCrossRounds;I[J)I"⟩
abbrev cL_row : ByteArray := method_8_code
def yL_row : MethodName := ⟨RL, "row", "(LCrossRounds;II[J)I"⟩
abbrev cL_run : ByteArray := method_9_code
def yL_run : MethodName := ⟨RL, "run", "(LCrossRounds;IZ[J)I"⟩
abbrev cL_early : ByteArray := method_10_code
def yL_early : MethodName := ⟨RL, "early", "(LCrossRounds;I[J)I"⟩
abbrev cL_late : ByteArray := method_11_code
def yL_late : MethodName := ⟨RL, "late", "(LCrossRounds;I[J)I"⟩
abbrev cL_added : ByteArray := method_12_code
def yL_added : MethodName := ⟨RL, "added", "(LCrossRounds;I[J)I"⟩
abbrev cL_changed : ByteArray := method_13_code
def yL_changed : MethodName := ⟨RL, "changed", "(LCrossRounds;I[J)I"⟩
abbrev cL_source : ByteArray := method_14_code
def yL_source : MethodName := ⟨RL, "source", "(LCrossRounds;II[J)I"⟩
abbrev cL_height : ByteArray := method_15_code
def yL_height : MethodName := ⟨RL, "height", "(LCrossRounds;I[J)I"⟩
abbrev cL_noise : ByteArray := method_16_code
def yL_noise : MethodName := ⟨RL, "noise", "(LCrossRounds;I[J)I"⟩
abbrev cL_count : ByteArray := method_17_code
def yL_count : MethodName := ⟨RL, "count", "(LCrossRounds;I[J)I"⟩
abbrev cL_law : ByteArray := code
def yL_law : MethodName := ⟨RL, "law", "([I)Z"⟩
abbrev vwCl : List vw_C := [(RJ0, TJ0, 4), (RJ4, TJ4, 4), (RJx4a65c, TJx4a65c, 3), (RX0, TX0, 12), (RX1, TX1, 2), (RX2, TX2, 2), (RX3, TX3, 3), (RX4, TX4, 9), (RX5, TX5, 27)]
