def RX0 : String := "QuartetNods$CupSearch"
def TX0 : u_T := fun k => match k with
  | 0 => ("QuartetNods$CupSearch", "score", "LQuartetNods$Score;", true)
  | 1 => ("QuartetNods$CupSearch", "evening", "LQuartetNods$Evening;", true)
  | 2 => ("QuartetNods$CupSearch", "ensemble", "LQuartetNods$Ensemble;", true)
  | 3 => ("QuartetNods$CupSearch", "tried", "[I", true)
  | 4 => ("QuartetNods$CupSearch", "best", "[I", true)
  | _ => ("QuartetNods$CupSearch", "bestUsed", "I", false)
def tyX0 : Nat → FieldType := fun k => match k with
  | 0 => .object "QuartetNods$Score"
  | 1 => .object "QuartetNods$Evening"
  | 2 => .object "QuartetNods$Ensemble"
  | 3 => .array .int
  | 4 => .array .int
  | _ => .int
theorem nmX0 : ∀ a, a < 6 → ∀ b, b < 6 → a ≠ b → (TX0 a).2.1 ≠ (TX0 b).2.1 := by decide +kernel
theorem tyX0_ok : ∀ k, k < 6 → parseFieldDescriptor (TX0 k).2.2.1 = some (tyX0 k) := by decide +kernel
abbrev cX0_init : ByteArray := prog_2_method_1_code
def yX0_init : MethodName := ⟨RX0, "<init>", "(LQuartetNods$Score;LQuartetNods$Evening;LQuartetNods$Ensemble;)V"⟩
abbrev cX0_run : ByteArray := prog_2_method_2_code
def yX0_run : MethodName := ⟨RX0, "run", "()V"⟩
abbrev cX0_fewest : ByteArray := prog_2_method_3_code
def yX0_fewest : MethodName := ⟨RX0, "fewest", "()I"⟩
abbrev cX0_whomAheadOf : ByteArray := prog_2_method_4_code
def yX0_whomAheadOf : MethodName := ⟨RX0, "whomAheadOf", "(I)I"⟩
abbrev cX0_tryFrom : ByteArray := prog_2_method_5_code
def yX0_tryFrom : MethodName := ⟨RX0, "tryFrom", "(III)V"⟩
abbrev cX0_tryBar : ByteArray := prog_2_method_6_code
def yX0_tryBar : MethodName := ⟨RX0, "tryBar", "(III)V"⟩
def RX1 : String := "QuartetNods$Draughts"
def TX1 : u_T := fun k => match k with
  | 0 => ("QuartetNods$Draughts", "score", "LQuartetNods$Score;", true)
  | 1 => ("QuartetNods$Draughts", "evening", "LQuartetNods$Evening;", true)
  | 2 => ("QuartetNods$Draughts", "ensemble", "LQuartetNods$Ensemble;", true)
  | 3 => ("QuartetNods$Draughts", "lost", "I", false)
  | 4 => ("QuartetNods$Draughts", "coffees", "I", false)
  | _ => ("QuartetNods$Draughts", "seed", "I", false)
def tyX1 : Nat → FieldType := fun k => match k with
  | 0 => .object "QuartetNods$Score"
  | 1 => .object "QuartetNods$Evening"
  | 2 => .object "QuartetNods$Ensemble"
  | 3 => .int
  | 4 => .int
  | _ => .int
theorem nmX1 : ∀ a, a < 6 → ∀ b, b < 6 → a ≠ b → (TX1 a).2.1 ≠ (TX1 b).2.1 := by decide +kernel
theorem tyX1_ok : ∀ k, k < 6 → parseFieldDescriptor (TX1 k).2.2.1 = some (tyX1 k) := by decide +kernel
abbrev cX1_init : ByteArray := prog_3_method_1_code
def yX1_init : MethodName := ⟨RX1, "<init>", "(LQuartetNods$Score;LQuartetNods$Evening;LQuartetNods$Ensemble;)V"⟩
abbrev cX1_blow : ByteArray := prog_3_method_2_code
def yX1_blow : MethodName := ⟨RX1, "blow", "(II)V"⟩
abbrev cX1_blowOnce : ByteArray := prog_3_method_3_code
def yX1_blowOnce : MethodName := ⟨RX1, "blowOnce", "()V"⟩
abbrev cX1_draw : ByteArray := prog_3_method_4_code
def yX1_draw : MethodName := ⟨RX1, "draw", "(I)I"⟩
def RX2 : String := "QuartetNods$Ensemble"
def TX2 : u_T := fun k => match k with
  | 0 => ("QuartetNods$Ensemble", "score", "LQuartetNods$Score;", true)
  | _ => ("QuartetNods$Ensemble", "evening", "LQuartetNods$Evening;", true)
def tyX2 : Nat → FieldType := fun k => match k with
  | 0 => .object "QuartetNods$Score"
  | _ => .object "QuartetNods$Evening"
theorem nmX2 : ∀ a, a < 2 → ∀ b, b < 2 → a ≠ b → (TX2 a).2.1 ≠ (TX2 b).2.1 := by decide +kernel
theorem tyX2_ok : ∀ k, k < 2 → parseFieldDescriptor (TX2 k).2.2.1 = some (tyX2 k) := by decide +kernel
abbrev cX2_init : ByteArray := prog_4_method_1_code
def yX2_init : MethodName := ⟨RX2, "<init>", "(LQuartetNods$Score;LQuartetNods$Evening;)V"⟩
abbrev cX2_awakeOf : ByteArray := prog_4_method_2_code
def yX2_awakeOf : MethodName := ⟨RX2, "awakeOf", "(I)I"⟩
abbrev cX2_heardWith : ByteArray := prog_4_method_3_code
def yX2_heardWith : MethodName := ⟨RX2, "heardWith", "(I)I"⟩
abbrev cX2_sharesOf : ByteArray := prog_4_method_4_code
def yX2_sharesOf : MethodName := ⟨RX2, "sharesOf", "(II)I"⟩
abbrev cX2_leastTired : ByteArray := prog_4_method_5_code
def yX2_leastTired : MethodName := ⟨RX2, "leastTired", "(II)I"⟩
abbrev cX2_tiredBehind : ByteArray := prog_4_method_6_code
def yX2_tiredBehind : MethodName := ⟨RX2, "tiredBehind", "(III)I"⟩
abbrev cX2_lossesFrom : ByteArray := prog_4_method_7_code
def yX2_lossesFrom : MethodName := ⟨RX2, "lossesFrom", "(I)I"⟩
def RX3 : String := "QuartetNods$Evening"
def TX3 : u_T := fun k => match k with
  | 0 => ("QuartetNods$Evening", "kinds", "[I", true)
  | 1 => ("QuartetNods$Evening", "coffees", "[I", true)
  | 2 => ("QuartetNods$Evening", "taken", "[I", true)
  | 3 => ("QuartetNods$Evening", "toldBars", "[I", true)
  | 4 => ("QuartetNods$Evening", "toldLosts", "[I", true)
  | 5 => ("QuartetNods$Evening", "told", "I", false)
  | 6 => ("QuartetNods$Evening", "players", "I", false)
  | 7 => ("QuartetNods$Evening", "tired", "I", false)
  | 8 => ("QuartetNods$Evening", "dreamers", "I", false)
  | 9 => ("QuartetNods$Evening", "snorers", "I", false)
  | 10 => ("QuartetNods$Evening", "played", "I", false)
  | _ => ("QuartetNods$Evening", "lost", "I", false)
def tyX3 : Nat → FieldType := fun k => match k with
  | 0 => .array .int
  | 1 => .array .int
  | 2 => .array .int
  | 3 => .array .int
  | 4 => .array .int
  | 5 => .int
  | 6 => .int
  | 7 => .int
  | 8 => .int
  | 9 => .int
  | 10 => .int
  | _ => .int
theorem nmX3 : ∀ a, a < 12 → ∀ b, b < 12 → a ≠ b → (TX3 a).2.1 ≠ (TX3 b).2.1 := by decide +kernel
theorem tyX3_ok : ∀ k, k < 12 → parseFieldDescriptor (TX3 k).2.2.1 = some (tyX3 k) := by decide +kernel
abbrev cX3_init : ByteArray := prog_5_method_1_code
def yX3_init : MethodName := ⟨RX3, "<init>", "()V"⟩
abbrev cX3_has : ByteArray := prog_5_method_2_code
def yX3_has : MethodName := ⟨RX3, "has", "(I)Z"⟩
abbrev cX3_beginAnew : ByteArray := prog_5_method_3_code
def yX3_beginAnew : MethodName := ⟨RX3, "beginAnew", "()V"⟩
abbrev cX3_welcome : ByteArray := prog_5_method_4_code
def yX3_welcome : MethodName := ⟨RX3, "welcome", "(II)I"⟩
abbrev cX3_hear : ByteArray := prog_5_method_5_code
def yX3_hear : MethodName := ⟨RX3, "hear", "(II)V"⟩
abbrev cX3_lastToldOf : ByteArray := prog_5_method_6_code
def yX3_lastToldOf : MethodName := ⟨RX3, "lastToldOf", "(I)I"⟩
abbrev cX3_isAsTold : ByteArray := prog_5_method_7_code
def yX3_isAsTold : MethodName := ⟨RX3, "isAsTold", "(I)Z"⟩
abbrev cX3_coffeesGiven : ByteArray := prog_5_method_8_code
def yX3_coffeesGiven : MethodName := ⟨RX3, "coffeesGiven", "()I"⟩
abbrev cX3_takeOver : ByteArray := prog_5_method_9_code
def yX3_takeOver : MethodName := ⟨RX3, "takeOver", "(LQuartetNods$Evening;)V"⟩
def RX4 : String := "QuartetNods$Listener"
def TX4 : u_T := fun k => match k with
  | 0 => ("QuartetNods$Listener", "score", "LQuartetNods$Score;", true)
  | 1 => ("QuartetNods$Listener", "evening", "LQuartetNods$Evening;", true)
  | 2 => ("QuartetNods$Listener", "ensemble", "LQuartetNods$Ensemble;", true)
  | 3 => ("QuartetNods$Listener", "lossesBy", "[I", true)
  | 4 => ("QuartetNods$Listener", "alike", "[I", true)
  | _ => ("QuartetNods$Listener", "possible", "I", false)
def tyX4 : Nat → FieldType := fun k => match k with
  | 0 => .object "QuartetNods$Score"
  | 1 => .object "QuartetNods$Evening"
  | 2 => .object "QuartetNods$Ensemble"
  | 3 => .array .int
  | 4 => .array .int
  | _ => .int
theorem nmX4 : ∀ a, a < 6 → ∀ b, b < 6 → a ≠ b → (TX4 a).2.1 ≠ (TX4 b).2.1 := by decide +kernel
theorem tyX4_ok : ∀ k, k < 6 → parseFieldDescriptor (TX4 k).2.2.1 = some (tyX4 k) := by decide +kernel
abbrev cX4_init : ByteArray := prog_6_method_1_code
def yX4_init : MethodName := ⟨RX4, "<init>", "(LQuartetNods$Score;LQuartetNods$Evening;LQuartetNods$Ensemble;)V"⟩
abbrev cX4_study : ByteArray := prog_6_method_2_code
def yX4_study : MethodName := ⟨RX4, "study", "(I)V"⟩
abbrev cX4_bestBar : ByteArray := prog_6_method_3_code
def yX4_bestBar : MethodName := ⟨RX4, "bestBar", "()I"⟩
abbrev cX4_mostLeftBy : ByteArray := prog_6_method_4_code
def yX4_mostLeftBy : MethodName := ⟨RX4, "mostLeftBy", "(I)I"⟩
def RX5 : String := "QuartetNods$Nibbles"
def TX5 : u_T := fun k => match k with
  | _ => ("", "", "", false)
def tyX5 : Nat → FieldType := fun k => match k with
  | _ => .int
theorem nmX5 : ∀ a, a < 0 → ∀ b, b < 0 → a ≠ b → (TX5 a).2.1 ≠ (TX5 b).2.1 := by decide +kernel
theorem tyX5_ok : ∀ k, k < 0 → parseFieldDescriptor (TX5 k).2.2.1 = some (tyX5 k) := by decide +kernel
abbrev cX5_get : ByteArray := prog_7_method_2_code
def yX5_get : MethodName := ⟨RX5, "get", "(II)I"⟩
abbrev cX5_with : ByteArray := prog_7_method_3_code
def yX5_with : MethodName := ⟨RX5, "with", "(III)I"⟩
abbrev cX5_sum : ByteArray := prog_7_method_4_code
def yX5_sum : MethodName := ⟨RX5, "sum", "(I)I"⟩
abbrev cX5_firstAboveZero : ByteArray := prog_7_method_5_code
def yX5_firstAboveZero : MethodName := ⟨RX5, "firstAboveZero", "(I)I"⟩
def RX6 : String := "QuartetNods$OrderSearch"
def TX6 : u_T := fun k => match k with
  | 0 => ("QuartetNods$OrderSearch", "score", "LQuartetNods$Score;", true)
  | 1 => ("QuartetNods$OrderSearch", "ensemble", "LQuartetNods$Ensemble;", true)
  | 2 => ("QuartetNods$OrderSearch", "tried", "[I", true)
  | 3 => ("QuartetNods$OrderSearch", "best", "[I", true)
  | _ => ("QuartetNods$OrderSearch", "leastLost", "I", false)
def tyX6 : Nat → FieldType := fun k => match k with
  | 0 => .object "QuartetNods$Score"
  | 1 => .object "QuartetNods$Ensemble"
  | 2 => .array .int
  | 3 => .array .int
  | _ => .int
theorem nmX6 : ∀ a, a < 5 → ∀ b, b < 5 → a ≠ b → (TX6 a).2.1 ≠ (TX6 b).2.1 := by decide +kernel
theorem tyX6_ok : ∀ k, k < 5 → parseFieldDescriptor (TX6 k).2.2.1 = some (tyX6 k) := by decide +kernel
abbrev cX6_init : ByteArray := prog_8_method_1_code
def yX6_init : MethodName := ⟨RX6, "<init>", "(LQuartetNods$Score;LQuartetNods$Ensemble;)V"⟩
abbrev cX6_run : ByteArray := prog_8_method_2_code
def yX6_run : MethodName := ⟨RX6, "run", "(I)V"⟩
abbrev cX6_barAt : ByteArray := prog_8_method_3_code
def yX6_barAt : MethodName := ⟨RX6, "barAt", "(I)I"⟩
abbrev cX6_tryFrom : ByteArray := prog_8_method_4_code
def yX6_tryFrom : MethodName := ⟨RX6, "tryFrom", "(IIII)V"⟩
def RX7 : String := "QuartetNods$Page"
def TX7 : u_T := fun k => match k with
  | 0 => ("QuartetNods$Page", "letters", "[I", true)
  | _ => ("QuartetNods$Page", "length", "I", false)
def tyX7 : Nat → FieldType := fun k => match k with
  | 0 => .array .int
  | _ => .int
theorem nmX7 : ∀ a, a < 2 → ∀ b, b < 2 → a ≠ b → (TX7 a).2.1 ≠ (TX7 b).2.1 := by decide +kernel
theorem tyX7_ok : ∀ k, k < 2 → parseFieldDescriptor (TX7 k).2.2.1 = some (tyX7 k) := by decide +kernel
abbrev cX7_init : ByteArray := prog_9_method_1_code
def yX7_init : MethodName := ⟨RX7, "<init>", "()V"⟩
abbrev cX7_write : ByteArray := prog_9_method_2_code
def yX7_write : MethodName := ⟨RX7, "write", "(I)V"⟩
abbrev cX7_firstFault : ByteArray := prog_9_method_3_code
def yX7_firstFault : MethodName := ⟨RX7, "firstFault", "()I"⟩
abbrev cX7_isWhole : ByteArray := prog_9_method_4_code
def yX7_isWhole : MethodName := ⟨RX7, "isWhole", "()Z"⟩
abbrev cX7_fits : ByteArray := prog_9_method_5_code
def yX7_fits : MethodName := ⟨RX7, "fits", "(I)Z"⟩
def RX8 : String := "QuartetNods$Score"
def TX8 : u_T := fun k => match k with
  | 0 => ("QuartetNods$Score", "sorts", "[I", true)
  | 1 => ("QuartetNods$Score", "parts", "[I", true)
  | 2 => ("QuartetNods$Score", "bars", "I", false)
  | _ => ("QuartetNods$Score", "limit", "I", false)
def tyX8 : Nat → FieldType := fun k => match k with
  | 0 => .array .int
  | 1 => .array .int
  | 2 => .int
  | _ => .int
theorem nmX8 : ∀ a, a < 4 → ∀ b, b < 4 → a ≠ b → (TX8 a).2.1 ≠ (TX8 b).2.1 := by decide +kernel
theorem tyX8_ok : ∀ k, k < 4 → parseFieldDescriptor (TX8 k).2.2.1 = some (tyX8 k) := by decide +kernel
abbrev cX8_init : ByteArray := prog_10_method_1_code
def yX8_init : MethodName := ⟨RX8, "<init>", "()V"⟩
abbrev cX8_sortOf : ByteArray := prog_10_method_2_code
def yX8_sortOf : MethodName := ⟨RX8, "sortOf", "(I)I"⟩
abbrev cX8_has : ByteArray := prog_10_method_3_code
def yX8_has : MethodName := ⟨RX8, "has", "(I)Z"⟩
abbrev cX8_read : ByteArray := prog_10_method_4_code
def yX8_read : MethodName := ⟨RX8, "read", "(LQuartetNods$Page;)V"⟩
def RX9 : String := "QuartetNods"
def TX9 : u_T := fun k => match k with
  | 0 => ("QuartetNods", "page", "LQuartetNods$Page;", true)
  | 1 => ("QuartetNods", "score", "LQuartetNods$Score;", true)
  | 2 => ("QuartetNods", "now", "LQuartetNods$Evening;", true)
  | 3 => ("QuartetNods", "kept", "LQuartetNods$Evening;", true)
  | 4 => ("QuartetNods", "ensemble", "LQuartetNods$Ensemble;", true)
  | 5 => ("QuartetNods", "cupSearch", "LQuartetNods$CupSearch;", true)
  | 6 => ("QuartetNods", "orderSearch", "LQuartetNods$OrderSearch;", true)
  | 7 => ("QuartetNods", "listener", "LQuartetNods$Listener;", true)
  | 8 => ("QuartetNods", "air", "LQuartetNods$Draughts;", true)
  | 9 => ("QuartetNods", "isKept", "Z", false)
  | 10 => ("QuartetNods", "piecesRead", "I", false)
  | 11 => ("QuartetNods", "cupsDone", "I", false)
  | _ => ("QuartetNods", "ordersDone", "I", false)
def tyX9 : Nat → FieldType := fun k => match k with
  | 0 => .object "QuartetNods$Page"
  | 1 => .object "QuartetNods$Score"
  | 2 => .object "QuartetNods$Evening"
  | 3 => .object "QuartetNods$Evening"
  | 4 => .object "QuartetNods$Ensemble"
  | 5 => .object "QuartetNods$CupSearch"
  | 6 => .object "QuartetNods$OrderSearch"
  | 7 => .object "QuartetNods$Listener"
  | 8 => .object "QuartetNods$Draughts"
  | 9 => .boolean
  | 10 => .int
  | 11 => .int
  | _ => .int
theorem nmX9 : ∀ a, a < 13 → ∀ b, b < 13 → a ≠ b → (TX9 a).2.1 ≠ (TX9 b).2.1 := by decide +kernel
theorem tyX9_ok : ∀ k, k < 13 → parseFieldDescriptor (TX9 k).2.2.1 = some (tyX9 k) := by decide +kernel
abbrev cX9_init : ByteArray := prog_1_method_1_code
def yX9_init : MethodName := ⟨RX9, "<init>", "()V"⟩
abbrev cX9_letter : ByteArray := prog_1_method_2_code
def yX9_letter : MethodName := ⟨RX9, "letter", "(I)I"⟩
abbrev cX9_blank : ByteArray := prog_1_method_3_code
def yX9_blank : MethodName := ⟨RX9, "blank", "()I"⟩
abbrev cX9_fault : ByteArray := prog_1_method_4_code
def yX9_fault : MethodName := ⟨RX9, "fault", "()I"⟩
abbrev cX9_piece : ByteArray := prog_1_method_5_code
def yX9_piece : MethodName := ⟨RX9, "piece", "()I"⟩
abbrev cX9_bar : ByteArray := prog_1_method_6_code
def yX9_bar : MethodName := ⟨RX9, "bar", "(II)I"⟩
abbrev cX9_ofBar : ByteArray := prog_1_method_7_code
def yX9_ofBar : MethodName := ⟨RX9, "ofBar", "(III)I"⟩
abbrev cX9_player : ByteArray := prog_1_method_8_code
def yX9_player : MethodName := ⟨RX9, "player", "(II)I"⟩
abbrev cX9_about : ByteArray := prog_1_method_9_code
def yX9_about : MethodName := ⟨RX9, "about", "(II)I"⟩
abbrev cX9_ofPlayer : ByteArray := prog_1_method_10_code
def yX9_ofPlayer : MethodName := ⟨RX9, "ofPlayer", "(II)I"⟩
abbrev cX9_shareOfNext : ByteArray := prog_1_method_11_code
def yX9_shareOfNext : MethodName := ⟨RX9, "shareOfNext", "(I)I"⟩
abbrev cX9_as : ByteArray := prog_1_method_12_code
def yX9_as : MethodName := ⟨RX9, "as", "(II)I"⟩
abbrev cX9_coffee : ByteArray := prog_1_method_13_code
def yX9_coffee : MethodName := ⟨RX9, "coffee", "(I)I"⟩
abbrev cX9_tire : ByteArray := prog_1_method_14_code
def yX9_tire : MethodName := ⟨RX9, "tire", "(II)I"⟩
abbrev cX9_play : ByteArray := prog_1_method_15_code
def yX9_play : MethodName := ⟨RX9, "play", "()I"⟩
abbrev cX9_again : ByteArray := prog_1_method_16_code
def yX9_again : MethodName := ⟨RX9, "again", "()I"⟩
abbrev cX9_hearing : ByteArray := prog_1_method_17_code
def yX9_hearing : MethodName := ⟨RX9, "hearing", "(I)I"⟩
abbrev cX9_ofHearing : ByteArray := prog_1_method_18_code
def yX9_ofHearing : MethodName := ⟨RX9, "ofHearing", "(II)I"⟩
abbrev cX9_cups : ByteArray := prog_1_method_19_code
def yX9_cups : MethodName := ⟨RX9, "cups", "(I)I"⟩
abbrev cX9_order : ByteArray := prog_1_method_20_code
def yX9_order : MethodName := ⟨RX9, "order", "(I)I"⟩
abbrev cX9_tell : ByteArray := prog_1_method_21_code
def yX9_tell : MethodName := ⟨RX9, "tell", "(II)I"⟩
abbrev cX9_forget : ByteArray := prog_1_method_22_code
def yX9_forget : MethodName := ⟨RX9, "forget", "()I"⟩
abbrev cX9_guess : ByteArray := prog_1_method_23_code
def yX9_guess : MethodName := ⟨RX9, "guess", "(I)I"⟩
abbrev cX9_listen : ByteArray := prog_1_method_24_code
def yX9_listen : MethodName := ⟨RX9, "listen", "(I)I"⟩
abbrev cX9_draughts : ByteArray := prog_1_method_25_code
def yX9_draughts : MethodName := ⟨RX9, "draughts", "(III)I"⟩
abbrev cX9_image : ByteArray := prog_1_method_26_code
def yX9_image : MethodName := ⟨RX9, "image", "()I"⟩
abbrev cX9_restore : ByteArray := prog_1_method_27_code
def yX9_restore : MethodName := ⟨RX9, "restore", "()I"⟩
abbrev cX9_count : ByteArray := prog_1_method_28_code
def yX9_count : MethodName := ⟨RX9, "count", "(I)I"⟩
abbrev cX9_countOf : ByteArray := prog_1_method_29_code
def yX9_countOf : MethodName := ⟨RX9, "countOf", "(I)I"⟩
abbrev cX9_digest : ByteArray := prog_1_method_30_code
def yX9_digest : MethodName := ⟨RX9, "digest", "()J"⟩
abbrev cX9_withPlayer : ByteArray := prog_1_method_31_code
def yX9_withPlayer : MethodName := ⟨RX9, "withPlayer", "(JI)J"⟩
abbrev cX9_isKind : ByteArray := prog_1_method_32_code
def yX9_isKind : MethodName := ⟨RX9, "isKind", "(I)Z"⟩
abbrev cX9_isTiredness : ByteArray := prog_1_method_33_code
def yX9_isTiredness : MethodName := ⟨RX9, "isTiredness", "(I)Z"⟩
abbrev cX9_isSuch : ByteArray := prog_1_method_34_code
def yX9_isSuch : MethodName := ⟨RX9, "isSuch", "(II)Z"⟩
abbrev cX9_isOfRow : ByteArray := prog_1_method_35_code
def yX9_isOfRow : MethodName := ⟨RX9, "isOfRow", "(I)Z"⟩
abbrev cX9_refreshed : ByteArray := prog_1_method_36_code
def yX9_refreshed : MethodName := ⟨RX9, "refreshed", "(II)I"⟩
def RX10 : String := "QuartetNodsModel"
def TX10 : u_T := fun k => match k with
  | 0 => ("QuartetNodsModel", "page", "[I", true)
  | 1 => ("QuartetNodsModel", "pageMany", "I", false)
  | 2 => ("QuartetNodsModel", "read", "[I", true)
  | 3 => ("QuartetNodsModel", "readMany", "I", false)
  | 4 => ("QuartetNodsModel", "readLimit", "I", false)
  | 5 => ("QuartetNodsModel", "state", "I", false)
  | 6 => ("QuartetNodsModel", "bars", "I", false)
  | 7 => ("QuartetNodsModel", "limit", "I", false)
  | 8 => ("QuartetNodsModel", "played", "I", false)
  | 9 => ("QuartetNodsModel", "lostAll", "I", false)
  | 10 => ("QuartetNodsModel", "piecesRead", "I", false)
  | 11 => ("QuartetNodsModel", "barRows", "[I", true)
  | 12 => ("QuartetNodsModel", "players", "I", false)
  | 13 => ("QuartetNodsModel", "rows", "[I", true)
  | 14 => ("QuartetNodsModel", "toldMany", "I", false)
  | 15 => ("QuartetNodsModel", "tolds", "[I", true)
  | 16 => ("QuartetNodsModel", "now", "[I", true)
  | 17 => ("QuartetNodsModel", "takes", "[I", true)
  | 18 => ("QuartetNodsModel", "then", "[I", true)
  | 19 => ("QuartetNodsModel", "cupsMany", "I", false)
  | 20 => ("QuartetNodsModel", "orderMany", "I", false)
  | 21 => ("QuartetNodsModel", "row", "[I", true)
  | 22 => ("QuartetNodsModel", "bestRow", "[I", true)
  | 23 => ("QuartetNodsModel", "leftBy", "[I", true)
  | 24 => ("QuartetNodsModel", "seedNow", "I", false)
  | 25 => ("QuartetNodsModel", "keptPiece", "I", false)
  | 26 => ("QuartetNodsModel", "keptPlayers", "I", false)
  | 27 => ("QuartetNodsModel", "keptPlayed", "I", false)
  | 28 => ("QuartetNodsModel", "keptLost", "I", false)
  | 29 => ("QuartetNodsModel", "keptToldMany", "I", false)
  | 30 => ("QuartetNodsModel", "keptRows", "[I", true)
  | 31 => ("QuartetNodsModel", "keptTolds", "[I", true)
  | _ => ("QuartetNodsModel", "hash", "J", false)
def tyX10 : Nat → FieldType := fun k => match k with
  | 0 => .array .int
  | 1 => .int
  | 2 => .array .int
  | 3 => .int
  | 4 => .int
  | 5 => .int
  | 6 => .int
  | 7 => .int
  | 8 => .int
  | 9 => .int
  | 10 => .int
  | 11 => .array .int
  | 12 => .int
  | 13 => .array .int
  | 14 => .int
  | 15 => .array .int
  | 16 => .array .int
  | 17 => .array .int
  | 18 => .array .int
  | 19 => .int
  | 20 => .int
  | 21 => .array .int
  | 22 => .array .int
  | 23 => .array .int
  | 24 => .int
  | 25 => .int
  | 26 => .int
  | 27 => .int
  | 28 => .int
  | 29 => .int
  | 30 => .array .int
  | 31 => .array .int
  | _ => .long
theorem nmX10 : ∀ a, a < 33 → ∀ b, b < 33 → a ≠ b → (TX10 a).2.1 ≠ (TX10 b).2.1 := by decide +kernel
theorem tyX10_ok : ∀ k, k < 33 → parseFieldDescriptor (TX10 k).2.2.1 = some (tyX10 k) := by decide +kernel
abbrev cX10_init : ByteArray := prog_12_method_1_code
def yX10_init : MethodName := ⟨RX10, "<init>", "()V"⟩
abbrev cX10_in : ByteArray := prog_12_method_2_code
def yX10_in : MethodName := ⟨RX10, "in", "(JJJ)Z"⟩
abbrev cX10_letter : ByteArray := prog_12_method_3_code
def yX10_letter : MethodName := ⟨RX10, "letter", "(I)I"⟩
abbrev cX10_blank : ByteArray := prog_12_method_4_code
def yX10_blank : MethodName := ⟨RX10, "blank", "()I"⟩
abbrev cX10_sortBy : ByteArray := prog_12_method_5_code
def yX10_sortBy : MethodName := ⟨RX10, "sortBy", "(I)I"⟩
abbrev cX10_go : ByteArray := prog_12_method_6_code
def yX10_go : MethodName := ⟨RX10, "go", "(I)Z"⟩
abbrev cX10_faultOf : ByteArray := prog_12_method_7_code
def yX10_faultOf : MethodName := ⟨RX10, "faultOf", "()I"⟩
abbrev cX10_fault : ByteArray := prog_12_method_8_code
def yX10_fault : MethodName := ⟨RX10, "fault", "()I"⟩
abbrev cX10_copy : ByteArray := prog_12_method_9_code
def yX10_copy : MethodName := ⟨RX10, "copy", "([I[I)V"⟩
abbrev cX10_piece : ByteArray := prog_12_method_10_code
def yX10_piece : MethodName := ⟨RX10, "piece", "()I"⟩
abbrev cX10_lacks : ByteArray := prog_12_method_11_code
def yX10_lacks : MethodName := ⟨RX10, "lacks", "()Z"⟩
abbrev cX10_isBar : ByteArray := prog_12_method_12_code
def yX10_isBar : MethodName := ⟨RX10, "isBar", "(I)Z"⟩
abbrev cX10_isPlayer : ByteArray := prog_12_method_13_code
def yX10_isPlayer : MethodName := ⟨RX10, "isPlayer", "(I)Z"⟩
abbrev cX10_player : ByteArray := prog_12_method_14_code
def yX10_player : MethodName := ⟨RX10, "player", "(II)I"⟩
abbrev cX10_asItIs : ByteArray := prog_12_method_15_code
def yX10_asItIs : MethodName := ⟨RX10, "asItIs", "()V"⟩
abbrev cX10_isAwake : ByteArray := prog_12_method_16_code
def yX10_isAwake : MethodName := ⟨RX10, "isAwake", "(I)Z"⟩
abbrev cX10_isHeard : ByteArray := prog_12_method_17_code
def yX10_isHeard : MethodName := ⟨RX10, "isHeard", "(I)Z"⟩
abbrev cX10_mostOf : ByteArray := prog_12_method_18_code
def yX10_mostOf : MethodName := ⟨RX10, "mostOf", "(I)I"⟩
abbrev cX10_layTakes : ByteArray := prog_12_method_19_code
def yX10_layTakes : MethodName := ⟨RX10, "layTakes", "(I)I"⟩
abbrev cX10_snores : ByteArray := prog_12_method_20_code
def yX10_snores : MethodName := ⟨RX10, "snores", "(I)Z"⟩
abbrev cX10_plays : ByteArray := prog_12_method_21_code
def yX10_plays : MethodName := ⟨RX10, "plays", "(I)I"⟩
abbrev cX10_drinks : ByteArray := prog_12_method_22_code
def yX10_drinks : MethodName := ⟨RX10, "drinks", "(I)V"⟩
abbrev cX10_lostIn : ByteArray := prog_12_method_23_code
def yX10_lostIn : MethodName := ⟨RX10, "lostIn", "(I)I"⟩
abbrev cX10_toldOf : ByteArray := prog_12_method_24_code
def yX10_toldOf : MethodName := ⟨RX10, "toldOf", "(I)I"⟩
abbrev cX10_tellBar : ByteArray := prog_12_method_25_code
def yX10_tellBar : MethodName := ⟨RX10, "tellBar", "(II)I"⟩
abbrev cX10_bar : ByteArray := prog_12_method_26_code
def yX10_bar : MethodName := ⟨RX10, "bar", "(II)I"⟩
abbrev cX10_takesNext : ByteArray := prog_12_method_27_code
def yX10_takesNext : MethodName := ⟨RX10, "takesNext", "(I)I"⟩
abbrev cX10_tellPlayer : ByteArray := prog_12_method_28_code
def yX10_tellPlayer : MethodName := ⟨RX10, "tellPlayer", "(II)I"⟩
abbrev cX10_about : ByteArray := prog_12_method_29_code
def yX10_about : MethodName := ⟨RX10, "about", "(II)I"⟩
abbrev cX10_as : ByteArray := prog_12_method_30_code
def yX10_as : MethodName := ⟨RX10, "as", "(II)I"⟩
abbrev cX10_layNow : ByteArray := prog_12_method_31_code
def yX10_layNow : MethodName := ⟨RX10, "layNow", "()V"⟩
abbrev cX10_coffee : ByteArray := prog_12_method_32_code
def yX10_coffee : MethodName := ⟨RX10, "coffee", "(I)I"⟩
abbrev cX10_tire : ByteArray := prog_12_method_33_code
def yX10_tire : MethodName := ⟨RX10, "tire", "(II)I"⟩
abbrev cX10_play : ByteArray := prog_12_method_34_code
def yX10_play : MethodName := ⟨RX10, "play", "()I"⟩
abbrev cX10_again : ByteArray := prog_12_method_35_code
def yX10_again : MethodName := ⟨RX10, "again", "()I"⟩
abbrev cX10_hearingOf : ByteArray := prog_12_method_36_code
def yX10_hearingOf : MethodName := ⟨RX10, "hearingOf", "(I)I"⟩
abbrev cX10_hearing : ByteArray := prog_12_method_37_code
def yX10_hearing : MethodName := ⟨RX10, "hearing", "(I)I"⟩
abbrev cX10_layRow : ByteArray := prog_12_method_38_code
def yX10_layRow : MethodName := ⟨RX10, "layRow", "(II)V"⟩
abbrev cX10_codes : ByteArray := prog_12_method_39_code
def yX10_codes : MethodName := ⟨RX10, "codes", "(I)I"⟩
abbrev cX10_cupsBy : ByteArray := prog_12_method_40_code
def yX10_cupsBy : MethodName := ⟨RX10, "cupsBy", "()I"⟩
abbrev cX10_layCups : ByteArray := prog_12_method_41_code
def yX10_layCups : MethodName := ⟨RX10, "layCups", "()I"⟩
abbrev cX10_cups : ByteArray := prog_12_method_42_code
def yX10_cups : MethodName := ⟨RX10, "cups", "(I)I"⟩
abbrev cX10_isOrder : ByteArray := prog_12_method_43_code
def yX10_isOrder : MethodName := ⟨RX10, "isOrder", "()Z"⟩
abbrev cX10_order : ByteArray := prog_12_method_44_code
def yX10_order : MethodName := ⟨RX10, "order", "(I)I"⟩
abbrev cX10_tell : ByteArray := prog_12_method_45_code
def yX10_tell : MethodName := ⟨RX10, "tell", "(II)I"⟩
abbrev cX10_forget : ByteArray := prog_12_method_46_code
def yX10_forget : MethodName := ⟨RX10, "forget", "()I"⟩
abbrev cX10_isSo : ByteArray := prog_12_method_47_code
def yX10_isSo : MethodName := ⟨RX10, "isSo", "(II)Z"⟩
abbrev cX10_guessOf : ByteArray := prog_12_method_48_code
def yX10_guessOf : MethodName := ⟨RX10, "guessOf", "(I)I"⟩
abbrev cX10_guess : ByteArray := prog_12_method_49_code
def yX10_guess : MethodName := ⟨RX10, "guess", "(I)I"⟩
abbrev cX10_listenOf : ByteArray := prog_12_method_50_code
def yX10_listenOf : MethodName := ⟨RX10, "listenOf", "(I)I"⟩
abbrev cX10_listen : ByteArray := prog_12_method_51_code
def yX10_listen : MethodName := ⟨RX10, "listen", "(I)I"⟩
abbrev cX10_draw : ByteArray := prog_12_method_52_code
def yX10_draw : MethodName := ⟨RX10, "draw", "(I)I"⟩
abbrev cX10_draughts : ByteArray := prog_12_method_53_code
def yX10_draughts : MethodName := ⟨RX10, "draughts", "(III)I"⟩
abbrev cX10_image : ByteArray := prog_12_method_54_code
def yX10_image : MethodName := ⟨RX10, "image", "()I"⟩
abbrev cX10_restore : ByteArray := prog_12_method_55_code
def yX10_restore : MethodName := ⟨RX10, "restore", "()I"⟩
abbrev cX10_countOf : ByteArray := prog_12_method_56_code
def yX10_countOf : MethodName := ⟨RX10, "countOf", "(I)I"⟩
abbrev cX10_count : ByteArray := prog_12_method_57_code
def yX10_count : MethodName := ⟨RX10, "count", "(I)I"⟩
abbrev cX10_say : ByteArray := prog_12_method_58_code
def yX10_say : MethodName := ⟨RX10, "say", "(J)V"⟩
abbrev cX10_digest : ByteArray := prog_12_method_59_code
def yX10_digest : MethodName := ⟨RX10, "digest", "()J"⟩
def RJ6 : String := "java/lang/Integer"
def TJ6 : u_T := fun k => match k with
  | _ => ("", "", "", false)
def tyJ6 : Nat → FieldType := fun k => match k with
  | _ => .int
theorem nmJ6 : ∀ a, a < 0 → ∀ b, b < 0 → a ≠ b → (TJ6 a).2.1 ≠ (TJ6 b).2.1 := by decide +kernel
theorem tyJ6_ok : ∀ k, k < 0 → parseFieldDescriptor (TJ6 k).2.2.1 = some (tyJ6 k) := by decide +kernel
abbrev cJ6_bitCount_0f7a4 : ByteArray := prog_13_method_49_code
def yJ6_bitCount_0f7a4 : MethodName := ⟨RJ6, "bitCount", "(I)I"⟩
def RJ9 : String := "java/lang/Math"
def TJ9 : u_T := fun k => match k with
  | _ => ("", "", "", false)
def tyJ9 : Nat → FieldType := fun k => match k with
  | _ => .int
theorem nmJ9 : ∀ a, a < 0 → ∀ b, b < 0 → a ≠ b → (TJ9 a).2.1 ≠ (TJ9 b).2.1 := by decide +kernel
theorem tyJ9_ok : ∀ k, k < 0 → parseFieldDescriptor (TJ9 k).2.2.1 = some (tyJ9 k) := by decide +kernel
abbrev cJ9_max_7cf53 : ByteArray := prog_14_method_65_code
def yJ9_max_7cf53 : MethodName := ⟨RJ9, "max", "(II)I"⟩
abbrev cJ9_min_7cf53 : ByteArray := prog_14_method_69_code
def yJ9_min_7cf53 : MethodName := ⟨RJ9, "min", "(II)I"⟩
def RJ10 : String := "java/lang/System"
def TJ10 : u_T := fun k => match k with
  | _ => ("", "", "", false)
def tyJ10 : Nat → FieldType := fun k => match k with
  | _ => .int
theorem nmJ10 : ∀ a, a < 0 → ∀ b, b < 0 → a ≠ b → (TJ10 a).2.1 ≠ (TJ10 b).2.1 := by decide +kernel
theorem tyJ10_ok : ∀ k, k < 0 → parseFieldDescriptor (TJ10 k).2.2.1 = some (tyJ10 k) := by decide +kernel
def RL : String := "QuartetNodsLaw"
abbrev cL_law : ByteArray := code
def yL_law : MethodName := ⟨RL, "law", "([I)Z"⟩
abbrev vwCl : List vw_C := [(RX0, TX0, 6), (RX1, TX1, 6), (RX2, TX2, 2), (RX3, TX3, 12), (RX4, TX4, 6), (RX6, TX6, 5), (RX7, TX7, 2), (RX8, TX8, 4), (RX9, TX9, 13), (RX10, TX10, 33)]
def lw_u : List Cond := lw_tbl.filter goodWord
theorem lw_ut {w : Cond} (h : w ∈ lw_u) : w ∈ lw_tbl := (List.mem_filter.mp h).1
theorem lw_ug {w : Cond} (h : w ∈ lw_u) : goodWord w = true := (List.mem_filter.mp h).2
theorem lw_uT {w : Cond} (i : Nat) (h : tables_1[i]? = some w) (hg : goodWord w = true) : w ∈ lw_u := List.mem_filter.mpr ⟨List.mem_append_right _ (List.mem_of_getElem? h), hg⟩
theorem lw_uS {w : Cond} (i : Nat) (h : (k2_sels lw_privs)[i]? = some w) (hg : goodWord w = true) : w ∈ lw_u := List.mem_filter.mpr ⟨List.mem_append_left _ (List.mem_of_getElem? h), hg⟩
theorem inX0 : ∀ w ∈ u_ws RX0 TX0 6, w ∈ lw_u := by
  intro w h
  obtain ⟨i, -, hi⟩ := List.mem_filterMap.mp (show w ∈ ([159, 161, 163, 165, 167, 169] : List Nat).filterMap (fun i => tables_1[i]?) from (show u_ws RX0 TX0 6 = ([159, 161, 163, 165, 167, 169] : List Nat).filterMap (fun i => tables_1[i]?) by decide +kernel) ▸ h)
  exact lw_uT i hi (List.all_eq_true.mp (show (u_ws RX0 TX0 6).all goodWord = true by decide +kernel) w h)
theorem inX1 : ∀ w ∈ u_ws RX1 TX1 6, w ∈ lw_u := by
  intro w h
  obtain ⟨i, -, hi⟩ := List.mem_filterMap.mp (show w ∈ ([236, 238, 240, 242, 244, 246] : List Nat).filterMap (fun i => tables_1[i]?) from (show u_ws RX1 TX1 6 = ([236, 238, 240, 242, 244, 246] : List Nat).filterMap (fun i => tables_1[i]?) by decide +kernel) ▸ h)
  exact lw_uT i hi (List.all_eq_true.mp (show (u_ws RX1 TX1 6).all goodWord = true by decide +kernel) w h)
theorem inX2 : ∀ w ∈ u_ws RX2 TX2 2, w ∈ lw_u := by
  intro w h
  obtain ⟨i, -, hi⟩ := List.mem_filterMap.mp (show w ∈ ([142, 144] : List Nat).filterMap (fun i => tables_1[i]?) from (show u_ws RX2 TX2 2 = ([142, 144] : List Nat).filterMap (fun i => tables_1[i]?) by decide +kernel) ▸ h)
  exact lw_uT i hi (List.all_eq_true.mp (show (u_ws RX2 TX2 2).all goodWord = true by decide +kernel) w h)
theorem inX3 : ∀ w ∈ u_ws RX3 TX3 12, w ∈ lw_u := by
  intro w h
  obtain ⟨i, -, hi⟩ := List.mem_filterMap.mp (show w ∈ ([109, 111, 113, 115, 117, 119, 121, 123, 125, 127, 129, 131] : List Nat).filterMap (fun i => tables_1[i]?) from (show u_ws RX3 TX3 12 = ([109, 111, 113, 115, 117, 119, 121, 123, 125, 127, 129, 131] : List Nat).filterMap (fun i => tables_1[i]?) by decide +kernel) ▸ h)
  exact lw_uT i hi (List.all_eq_true.mp (show (u_ws RX3 TX3 12).all goodWord = true by decide +kernel) w h)
theorem inX4 : ∀ w ∈ u_ws RX4 TX4 6, w ∈ lw_u := by
  intro w h
  obtain ⟨i, -, hi⟩ := List.mem_filterMap.mp (show w ∈ ([208, 210, 212, 214, 216, 218] : List Nat).filterMap (fun i => tables_1[i]?) from (show u_ws RX4 TX4 6 = ([208, 210, 212, 214, 216, 218] : List Nat).filterMap (fun i => tables_1[i]?) by decide +kernel) ▸ h)
  exact lw_uT i hi (List.all_eq_true.mp (show (u_ws RX4 TX4 6).all goodWord = true by decide +kernel) w h)
theorem inX6 : ∀ w ∈ u_ws RX6 TX6 5, w ∈ lw_u := by
  intro w h
  obtain ⟨i, -, hi⟩ := List.mem_filterMap.mp (show w ∈ ([184, 186, 188, 190, 192] : List Nat).filterMap (fun i => tables_1[i]?) from (show u_ws RX6 TX6 5 = ([184, 186, 188, 190, 192] : List Nat).filterMap (fun i => tables_1[i]?) by decide +kernel) ▸ h)
  exact lw_uT i hi (List.all_eq_true.mp (show (u_ws RX6 TX6 5).all goodWord = true by decide +kernel) w h)
theorem inX7 : ∀ w ∈ u_ws RX7 TX7 2, w ∈ lw_u := by
  intro w h
  obtain ⟨i, -, hi⟩ := List.mem_filterMap.mp (show w ∈ ([35, 37] : List Nat).filterMap (fun i => tables_1[i]?) from (show u_ws RX7 TX7 2 = ([35, 37] : List Nat).filterMap (fun i => tables_1[i]?) by decide +kernel) ▸ h)
  exact lw_uT i hi (List.all_eq_true.mp (show (u_ws RX7 TX7 2).all goodWord = true by decide +kernel) w h)
theorem inX8 : ∀ w ∈ u_ws RX8 TX8 4, w ∈ lw_u := by
  intro w h
  obtain ⟨i, -, hi⟩ := List.mem_filterMap.mp (show w ∈ ([65, 67, 69, 71] : List Nat).filterMap (fun i => tables_1[i]?) from (show u_ws RX8 TX8 4 = ([65, 67, 69, 71] : List Nat).filterMap (fun i => tables_1[i]?) by decide +kernel) ▸ h)
  exact lw_uT i hi (List.all_eq_true.mp (show (u_ws RX8 TX8 4).all goodWord = true by decide +kernel) w h)
theorem inX9 : ∀ w ∈ u_ws RX9 TX9 13, w ∈ lw_u := by
  intro w h
  obtain ⟨i, -, hi⟩ := List.mem_filterMap.mp (show w ∈ ([262, 264, 266, 268, 270, 272, 274, 276, 278, 280, 282, 284, 286] : List Nat).filterMap (fun i => tables_1[i]?) from (show u_ws RX9 TX9 13 = ([262, 264, 266, 268, 270, 272, 274, 276, 278, 280, 282, 284, 286] : List Nat).filterMap (fun i => tables_1[i]?) by decide +kernel) ▸ h)
  exact lw_uT i hi (List.all_eq_true.mp (show (u_ws RX9 TX9 13).all goodWord = true by decide +kernel) w h)
theorem inX10 : ∀ w ∈ u_ws RX10 TX10 33, w ∈ lw_u := by
  intro w h
  obtain ⟨i, -, hi⟩ := List.mem_filterMap.mp (show w ∈ ([674, 676, 678, 680, 682, 684, 686, 688, 690, 692, 694, 696, 698, 700, 702, 704, 706, 708, 710, 712, 714, 716, 718, 720, 722, 724, 726, 728, 730, 732, 734, 736, 738] : List Nat).filterMap (fun i => tables_1[i]?) from (show u_ws RX10 TX10 33 = ([674, 676, 678, 680, 682, 684, 686, 688, 690, 692, 694, 696, 698, 700, 702, 704, 706, 708, 710, 712, 714, 716, 718, 720, 722, 724, 726, 728, 730, 732, 734, 736, 738] : List Nat).filterMap (fun i => tables_1[i]?) by decide +kernel) ▸ h)
  exact lw_uT i hi (List.all_eq_true.mp (show (u_ws RX10 TX10 33).all goodWord = true by decide +kernel) w h)
