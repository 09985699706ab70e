/-! names, fields, codes (from the printed names) -/
def RX0 : String := "GlassLabels$Label"
def TX0 : u_T := fun k => match k with
  | 0 => ("GlassLabels$Label", "ware", "I", false)
  | 1 => ("GlassLabels$Label", "shown", "I", false)
  | 2 => ("GlassLabels$Label", "ghosts", "I", false)
  | 3 => ("GlassLabels$Label", "battery", "I", false)
  | 4 => ("GlassLabels$Label", "order", "I", false)
  | 5 => ("GlassLabels$Label", "dueSince", "I", false)
  | 6 => ("GlassLabels$Label", "sendingsToLose", "I", false)
  | _ => ("GlassLabels$Label", "answersToLose", "I", false)
def tyX0 : Nat → FieldType := fun k => match k with
  | 0 => .int
  | 1 => .int
  | 2 => .int
  | 3 => .int
  | 4 => .int
  | 5 => .int
  | 6 => .int
  | _ => .int
abbrev wsX00 : List Cond := u_ws RX0 TX0 8
theorem nmX0 : ∀ a, a < 8 → ∀ b, b < 8 → a ≠ b → (TX0 a).2.1 ≠ (TX0 b).2.1 := by decide +kernel
theorem tyX0_ok : ∀ k, k < 8 → parseFieldDescriptor (TX0 k).2.2.1 = some (tyX0 k) := by decide +kernel
abbrev cX0_init : ByteArray := prog_2_method_1_code
def yX0_init : MethodName := ⟨RX0, "<init>", "()V"⟩
abbrev cX0_isDue : ByteArray := prog_2_method_2_code
def yX0_isDue : MethodName := ⟨RX0, "isDue", "(I)Z"⟩
abbrev cX0_isSentBefore : ByteArray := prog_2_method_3_code
def yX0_isSentBefore : MethodName := ⟨RX0, "isSentBefore", "(LGlassLabels$Label;)Z"⟩
abbrev cX0_getSending : ByteArray := prog_2_method_4_code
def yX0_getSending : MethodName := ⟨RX0, "getSending", "(II)V"⟩
abbrev cX0_listen : ByteArray := prog_2_method_5_code
def yX0_listen : MethodName := ⟨RX0, "listen", "()V"⟩
abbrev cX0_redraw : ByteArray := prog_2_method_6_code
def yX0_redraw : MethodName := ⟨RX0, "redraw", "(I)V"⟩
abbrev cX0_answer : ByteArray := prog_2_method_7_code
def yX0_answer : MethodName := ⟨RX0, "answer", "()V"⟩
abbrev cX0_changedDigits : ByteArray := prog_2_method_8_code
def yX0_changedDigits : MethodName := ⟨RX0, "changedDigits", "(II)I"⟩
def RX1 : String := "GlassLabels$Memory"
def TX1 : u_T := fun k => match k with
  | 0 => ("GlassLabels$Memory", "leastAtEnd", "[[I", true)
  | _ => ("GlassLabels$Memory", "leastEnded", "[I", true)
def tyX1 : Nat → FieldType := fun k => match k with
  | 0 => .array (.array .int)
  | _ => .array .int
abbrev wsX10 : List Cond := u_ws RX1 TX1 2
theorem nmX1 : ∀ a, a < 2 → ∀ b, b < 2 → a ≠ b → (TX1 a).2.1 ≠ (TX1 b).2.1 := by decide +kernel
theorem tyX1_ok : ∀ k, k < 2 → parseFieldDescriptor (TX1 k).2.2.1 = some (tyX1 k) := by decide +kernel
abbrev cX1_init : ByteArray := prog_3_method_1_code
def yX1_init : MethodName := ⟨RX1, "<init>", "()V"⟩
abbrev cX1_openMinute : ByteArray := prog_3_method_2_code
def yX1_openMinute : MethodName := ⟨RX1, "openMinute", "(I)V"⟩
abbrev cX1_note : ByteArray := prog_3_method_3_code
def yX1_note : MethodName := ⟨RX1, "note", "(III)V"⟩
abbrev cX1_leastOfLastHour : ByteArray := prog_3_method_4_code
def yX1_leastOfLastHour : MethodName := ⟨RX1, "leastOfLastHour", "(I)I"⟩
abbrev cX1_leastOfAllTime : ByteArray := prog_3_method_5_code
def yX1_leastOfAllTime : MethodName := ⟨RX1, "leastOfAllTime", "(I)I"⟩
def RX2 : String := "GlassLabels"
def TX2 : u_T := fun k => match k with
  | 0 => ("GlassLabels", "prices", "[I", true)
  | 1 => ("GlassLabels", "labels", "[LGlassLabels$Label;", true)
  | 2 => ("GlassLabels", "memory", "LGlassLabels$Memory;", true)
  | 3 => ("GlassLabels", "hung", "I", false)
  | 4 => ("GlassLabels", "now", "I", false)
  | _ => ("GlassLabels", "lastOrder", "I", false)
def tyX2 : Nat → FieldType := fun k => match k with
  | 0 => .array .int
  | 1 => .array (.object "GlassLabels$Label")
  | 2 => .object "GlassLabels$Memory"
  | 3 => .int
  | 4 => .int
  | _ => .int
abbrev wsX20 : List Cond := u_ws RX2 TX2 6
theorem nmX2 : ∀ a, a < 6 → ∀ b, b < 6 → a ≠ b → (TX2 a).2.1 ≠ (TX2 b).2.1 := by decide +kernel
theorem tyX2_ok : ∀ k, k < 6 → parseFieldDescriptor (TX2 k).2.2.1 = some (tyX2 k) := by decide +kernel
abbrev cX2_init : ByteArray := prog_1_method_1_code
def yX2_init : MethodName := ⟨RX2, "<init>", "()V"⟩
abbrev cX2_setPrice : ByteArray := prog_1_method_2_code
def yX2_setPrice : MethodName := ⟨RX2, "setPrice", "(II)I"⟩
abbrev cX2_price : ByteArray := prog_1_method_3_code
def yX2_price : MethodName := ⟨RX2, "price", "(I)I"⟩
abbrev cX2_hang : ByteArray := prog_1_method_4_code
def yX2_hang : MethodName := ⟨RX2, "hang", "(I)I"⟩
abbrev cX2_carry : ByteArray := prog_1_method_5_code
def yX2_carry : MethodName := ⟨RX2, "carry", "(II)Z"⟩
abbrev cX2_charge : ByteArray := prog_1_method_6_code
def yX2_charge : MethodName := ⟨RX2, "charge", "(I)I"⟩
abbrev cX2_loseSendings : ByteArray := prog_1_method_7_code
def yX2_loseSendings : MethodName := ⟨RX2, "loseSendings", "(II)I"⟩
abbrev cX2_loseAnswers : ByteArray := prog_1_method_8_code
def yX2_loseAnswers : MethodName := ⟨RX2, "loseAnswers", "(II)I"⟩
abbrev cX2_pass : ByteArray := prog_1_method_9_code
def yX2_pass : MethodName := ⟨RX2, "pass", "(I)I"⟩
abbrev cX2_time : ByteArray := prog_1_method_10_code
def yX2_time : MethodName := ⟨RX2, "time", "()I"⟩
abbrev cX2_order : ByteArray := prog_1_method_11_code
def yX2_order : MethodName := ⟨RX2, "order", "(I)I"⟩
abbrev cX2_orders : ByteArray := prog_1_method_12_code
def yX2_orders : MethodName := ⟨RX2, "orders", "()I"⟩
abbrev cX2_nextToSend : ByteArray := prog_1_method_13_code
def yX2_nextToSend : MethodName := ⟨RX2, "nextToSend", "()I"⟩
abbrev cX2_shown : ByteArray := prog_1_method_14_code
def yX2_shown : MethodName := ⟨RX2, "shown", "(I)I"⟩
abbrev cX2_ghosts : ByteArray := prog_1_method_15_code
def yX2_ghosts : MethodName := ⟨RX2, "ghosts", "(I)I"⟩
abbrev cX2_battery : ByteArray := prog_1_method_16_code
def yX2_battery : MethodName := ⟨RX2, "battery", "(I)I"⟩
abbrev cX2_lies : ByteArray := prog_1_method_17_code
def yX2_lies : MethodName := ⟨RX2, "lies", "()I"⟩
abbrev cX2_asked : ByteArray := prog_1_method_18_code
def yX2_asked : MethodName := ⟨RX2, "asked", "(I)I"⟩
abbrev cX2_leastEver : ByteArray := prog_1_method_19_code
def yX2_leastEver : MethodName := ⟨RX2, "leastEver", "(I)I"⟩
abbrev cX2_needWare : ByteArray := prog_1_method_20_code
def yX2_needWare : MethodName := ⟨RX2, "needWare", "(I)V"⟩
abbrev cX2_needWithin : ByteArray := prog_1_method_21_code
def yX2_needWithin : MethodName := ⟨RX2, "needWithin", "(III)V"⟩
abbrev cX2_labelOf : ByteArray := prog_1_method_22_code
def yX2_labelOf : MethodName := ⟨RX2, "labelOf", "(I)LGlassLabels$Label;"⟩
abbrev cX2_giveOrder : ByteArray := prog_1_method_23_code
def yX2_giveOrder : MethodName := ⟨RX2, "giveOrder", "(LGlassLabels$Label;)V"⟩
abbrev cX2_passOneMinute : ByteArray := prog_1_method_24_code
def yX2_passOneMinute : MethodName := ⟨RX2, "passOneMinute", "()I"⟩
abbrev cX2_endMinute : ByteArray := prog_1_method_25_code
def yX2_endMinute : MethodName := ⟨RX2, "endMinute", "()V"⟩
abbrev cX2_leastShownNow : ByteArray := prog_1_method_26_code
def yX2_leastShownNow : MethodName := ⟨RX2, "leastShownNow", "(I)I"⟩
def RX3 : String := "GlassLabelsModel"
def TX3 : u_T := fun k => match k with
  | _ => ("", "", "", false)
def tyX3 : Nat → FieldType := fun k => match k with
  | _ => .int
abbrev wsX30 : List Cond := u_ws RX3 TX3 0
theorem nmX3 : ∀ a, a < 0 → ∀ b, b < 0 → a ≠ b → (TX3 a).2.1 ≠ (TX3 b).2.1 := by decide +kernel
theorem tyX3_ok : ∀ k, k < 0 → parseFieldDescriptor (TX3 k).2.2.1 = some (tyX3 k) := by decide +kernel
def RJx145de : String := "java/io/Serializable"
def TJx145de : u_T := fun k => match k with
  | _ => ("", "", "", false)
def tyJx145de : Nat → FieldType := fun k => match k with
  | _ => .int
abbrev wsJx145de0 : List Cond := u_ws RJx145de TJx145de 0
theorem nmJx145de : ∀ a, a < 0 → ∀ b, b < 0 → a ≠ b → (TJx145de a).2.1 ≠ (TJx145de b).2.1 := by decide +kernel
theorem tyJx145de_ok : ∀ k, k < 0 → parseFieldDescriptor (TJx145de k).2.2.1 = some (tyJx145de k) := by decide +kernel
def RJ9 : String := "java/lang/Math"
def TJ9 : u_T := fun k => match k with
  | _ => ("", "", "", false)
def tyJ9 : Nat → FieldType := fun k => match k with
  | _ => .int
abbrev wsJ90 : List Cond := u_ws RJ9 TJ9 0
theorem nmJ9 : ∀ a, a < 0 → ∀ b, b < 0 → a ≠ b → (TJ9 a).2.1 ≠ (TJ9 b).2.1 := by decide +kernel
theorem tyJ9_ok : ∀ k, k < 0 → parseFieldDescriptor (TJ9 k).2.2.1 = some (tyJ9 k) := by decide +kernel
abbrev cJ9_min_7cf53 : ByteArray := prog_10_method_69_code
def yJ9_min_7cf53 : MethodName := ⟨RJ9, "min", "(II)I"⟩
def RJ0 : String := "java/lang/String"
def TJ0 : u_T := fun k => match k with
  | _ => ("", "", "", false)
def tyJ0 : Nat → FieldType := fun k => match k with
  | _ => .int
abbrev wsJ00 : List Cond := u_ws RJ0 TJ0 0
theorem nmJ0 : ∀ a, a < 0 → ∀ b, b < 0 → a ≠ b → (TJ0 a).2.1 ≠ (TJ0 b).2.1 := by decide +kernel
theorem tyJ0_ok : ∀ k, k < 0 → parseFieldDescriptor (TJ0 k).2.2.1 = some (tyJ0 k) := by decide +kernel
def RJ7 : String := "java/util/Arrays"
def TJ7 : u_T := fun k => match k with
  | _ => ("", "", "", false)
def tyJ7 : Nat → FieldType := fun k => match k with
  | _ => .int
abbrev wsJ70 : List Cond := u_ws RJ7 TJ7 0
theorem nmJ7 : ∀ a, a < 0 → ∀ b, b < 0 → a ≠ b → (TJ7 a).2.1 ≠ (TJ7 b).2.1 := by decide +kernel
theorem tyJ7_ok : ∀ k, k < 0 → parseFieldDescriptor (TJ7 k).2.2.1 = some (tyJ7 k) := by decide +kernel
abbrev cJ7_fill_53178 : ByteArray := prog_14_method_103_code
def yJ7_fill_53178 : MethodName := ⟨RJ7, "fill", "([II)V"⟩
def RL : String := "GlassLabelsLaw"
abbrev cL_draw : ByteArray := method_2_code
def yL_draw : MethodName := ⟨RL, "draw", "([II)I"⟩
abbrev cL_step : ByteArray := method_3_code
def yL_step : MethodName := ⟨RL, "step", "(LGlassLabels;[I[JIII)Z"⟩
abbrev cL_prices : ByteArray := method_4_code
def yL_prices : MethodName := ⟨RL, "prices", "(LGlassLabels;[III)Z"⟩
abbrev cL_changed : ByteArray := method_5_code
def yL_changed : MethodName := ⟨RL, "changed", "(II)I"⟩
abbrev cL_minute : ByteArray := method_6_code
def yL_minute : MethodName := ⟨RL, "minute", "(LGlassLabels;[I[J)Z"⟩
abbrev cL_leastNow : ByteArray := method_7_code
def yL_leastNow : MethodName := ⟨RL, "leastNow", "(LGlassLabels;[II)I"⟩
abbrev cL_isTill : ByteArray := method_8_code
def yL_isTill : MethodName := ⟨RL, "isTill", "(LGlassLabels;[I[J)Z"⟩
abbrev cL_law : ByteArray := code
def yL_law : MethodName := ⟨RL, "law", "([I)Z"⟩
abbrev vwCl : List vw_C := [(RX0, TX0, 8), (RX1, TX1, 2), (RX2, TX2, 6)]
