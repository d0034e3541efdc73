def RX0 : String := "Taxmaze$Book"
def TX0 : u_T := fun k => match k with
  | 0 => ("Taxmaze$Book", "stale", "Z", false)
  | 1 => ("Taxmaze$Book", "gross", "[[J", true)
  | 2 => ("Taxmaze$Book", "contributions", "[[J", true)
  | 3 => ("Taxmaze$Book", "taxes", "[[J", true)
  | 4 => ("Taxmaze$Book", "grossOfYear", "[[J", true)
  | 5 => ("Taxmaze$Book", "countedOfYear", "[[J", true)
  | 6 => ("Taxmaze$Book", "taxedOfYear", "[[J", true)
  | 7 => ("Taxmaze$Book", "taxOfYear", "[[J", true)
  | 8 => ("Taxmaze$Book", "elementSums", "[[J", true)
  | 9 => ("Taxmaze$Book", "homes", "[I", true)
  | 10 => ("Taxmaze$Book", "pensions", "[J", true)
  | 11 => ("Taxmaze$Book", "matches", "[J", true)
  | 12 => ("Taxmaze$Book", "nets", "[J", true)
  | 13 => ("Taxmaze$Book", "taken", "[J", true)
  | _ => ("Taxmaze$Book", "payouts", "[J", true)
def tyX0 : Nat → FieldType := fun k => match k with
  | 0 => .boolean
  | 1 => .array (.array .long)
  | 2 => .array (.array .long)
  | 3 => .array (.array .long)
  | 4 => .array (.array .long)
  | 5 => .array (.array .long)
  | 6 => .array (.array .long)
  | 7 => .array (.array .long)
  | 8 => .array (.array .long)
  | 9 => .array .int
  | 10 => .array .long
  | 11 => .array .long
  | 12 => .array .long
  | 13 => .array .long
  | _ => .array .long
abbrev wsX00 : List Cond := u_ws RX0 TX0 15
theorem nmX0 : ∀ a, a < 15 → ∀ b, b < 15 → a ≠ b → (TX0 a).2.1 ≠ (TX0 b).2.1 := by decide +kernel
theorem tyX0_ok : ∀ k, k < 15 → parseFieldDescriptor (TX0 k).2.2.1 = some (tyX0 k) := by decide +kernel
abbrev cX0_init : ByteArray := prog_2_method_1_code
def yX0_init : MethodName := ⟨RX0, "<init>", "()V"⟩
abbrev cX0_gather : ByteArray := prog_2_method_2_code
def yX0_gather : MethodName := ⟨RX0, "gather", "(ILTaxmaze$Person;LTaxmaze$Elements;)V"⟩
abbrev cX0_reckon : ByteArray := prog_2_method_3_code
def yX0_reckon : MethodName := ⟨RX0, "reckon", "(ILTaxmaze$Person;[LTaxmaze$Place;)V"⟩
abbrev cX0_contribute : ByteArray := prog_2_method_4_code
def yX0_contribute : MethodName := ⟨RX0, "contribute", "(IILTaxmaze$Place;)V"⟩
abbrev cX0_tax : ByteArray := prog_2_method_5_code
def yX0_tax : MethodName := ⟨RX0, "tax", "(IILTaxmaze$Brackets;)V"⟩
abbrev cX0_earlier : ByteArray := prog_2_method_6_code
def yX0_earlier : MethodName := ⟨RX0, "earlier", "([[JII)J"⟩
abbrev cX0_share : ByteArray := prog_2_method_7_code
def yX0_share : MethodName := ⟨RX0, "share", "(LTaxmaze$Person;)V"⟩
abbrev cX0_line : ByteArray := prog_2_method_9_code
def yX0_line : MethodName := ⟨RX0, "line", "(II)J"⟩
abbrev cX0_lineIn : ByteArray := prog_2_method_10_code
def yX0_lineIn : MethodName := ⟨RX0, "lineIn", "(III)J"⟩
def RX1 : String := "Taxmaze$Brackets"
def TX1 : u_T := fun k => match k with
  | 0 => ("Taxmaze$Brackets", "counts", "[I", true)
  | 1 => ("Taxmaze$Brackets", "ends", "[[I", true)
  | _ => ("Taxmaze$Brackets", "parts", "[[I", true)
def tyX1 : Nat → FieldType := fun k => match k with
  | 0 => .array .int
  | 1 => .array (.array .int)
  | _ => .array (.array .int)
abbrev wsX10 : List Cond := u_ws RX1 TX1 3
theorem nmX1 : ∀ a, a < 3 → ∀ b, b < 3 → a ≠ b → (TX1 a).2.1 ≠ (TX1 b).2.1 := by decide +kernel
theorem tyX1_ok : ∀ k, k < 3 → parseFieldDescriptor (TX1 k).2.2.1 = some (tyX1 k) := by decide +kernel
abbrev cX1_init : ByteArray := prog_3_method_1_code
def yX1_init : MethodName := ⟨RX1, "<init>", "()V"⟩
abbrev cX1_takesEnd : ByteArray := prog_3_method_2_code
def yX1_takesEnd : MethodName := ⟨RX1, "takesEnd", "(II)Z"⟩
abbrev cX1_add : ByteArray := prog_3_method_3_code
def yX1_add : MethodName := ⟨RX1, "add", "(III)V"⟩
abbrev cX1_taxOn : ByteArray := prog_3_method_4_code
def yX1_taxOn : MethodName := ⟨RX1, "taxOn", "(JI)J"⟩
def RX2 : String := "Taxmaze$Cents"
def TX2 : u_T := fun k => match k with
  | _ => ("", "", "", false)
def tyX2 : Nat → FieldType := fun k => match k with
  | _ => .int
abbrev wsX20 : List Cond := u_ws RX2 TX2 0
theorem nmX2 : ∀ a, a < 0 → ∀ b, b < 0 → a ≠ b → (TX2 a).2.1 ≠ (TX2 b).2.1 := by decide +kernel
theorem tyX2_ok : ∀ k, k < 0 → parseFieldDescriptor (TX2 k).2.2.1 = some (tyX2 k) := by decide +kernel
abbrev cX2_rounded : ByteArray := prog_4_method_2_code
def yX2_rounded : MethodName := ⟨RX2, "rounded", "(JJ)J"⟩
abbrev cX2_roundedDown : ByteArray := prog_4_method_3_code
def yX2_roundedDown : MethodName := ⟨RX2, "roundedDown", "(JJ)J"⟩
def RX3 : String := "Taxmaze$Contract"
def TX3 : u_T := fun k => match k with
  | 0 => ("Taxmaze$Contract", "person", "I", true)
  | 1 => ("Taxmaze$Contract", "place", "I", true)
  | 2 => ("Taxmaze$Contract", "from", "I", true)
  | 3 => ("Taxmaze$Contract", "to", "I", true)
  | 4 => ("Taxmaze$Contract", "byHours", "Z", true)
  | 5 => ("Taxmaze$Contract", "norm", "I", true)
  | 6 => ("Taxmaze$Contract", "pays", "LTaxmaze$Steps;", true)
  | 7 => ("Taxmaze$Contract", "minutesOn", "[I", true)
  | 8 => ("Taxmaze$Contract", "begins", "[I", true)
  | 9 => ("Taxmaze$Contract", "ends", "[I", true)
  | 10 => ("Taxmaze$Contract", "shifts", "I", false)
  | 11 => ("Taxmaze$Contract", "stale", "Z", false)
  | 12 => ("Taxmaze$Contract", "worked", "[J", true)
  | 13 => ("Taxmaze$Contract", "minutesIn", "[I", true)
  | _ => ("Taxmaze$Contract", "leavePay", "[J", true)
def tyX3 : Nat → FieldType := fun k => match k with
  | 0 => .int
  | 1 => .int
  | 2 => .int
  | 3 => .int
  | 4 => .boolean
  | 5 => .int
  | 6 => .object "Taxmaze$Steps"
  | 7 => .array .int
  | 8 => .array .int
  | 9 => .array .int
  | 10 => .int
  | 11 => .boolean
  | 12 => .array .long
  | 13 => .array .int
  | _ => .array .long
abbrev wsX30 : List Cond := u_ws RX3 TX3 15
theorem nmX3 : ∀ a, a < 15 → ∀ b, b < 15 → a ≠ b → (TX3 a).2.1 ≠ (TX3 b).2.1 := by decide +kernel
theorem tyX3_ok : ∀ k, k < 15 → parseFieldDescriptor (TX3 k).2.2.1 = some (tyX3 k) := by decide +kernel
abbrev cX3_init : ByteArray := prog_5_method_1_code
def yX3_init : MethodName := ⟨RX3, "<init>", "(IIIIZI)V"⟩
abbrev cX3_covers : ByteArray := prog_5_method_2_code
def yX3_covers : MethodName := ⟨RX3, "covers", "(I)Z"⟩
abbrev cX3_hasDayIn : ByteArray := prog_5_method_3_code
def yX3_hasDayIn : MethodName := ⟨RX3, "hasDayIn", "(I)Z"⟩
abbrev cX3_payOn : ByteArray := prog_5_method_4_code
def yX3_payOn : MethodName := ⟨RX3, "payOn", "(I)I"⟩
abbrev cX3_isFree : ByteArray := prog_5_method_6_code
def yX3_isFree : MethodName := ⟨RX3, "isFree", "(II)Z"⟩
abbrev cX3_addShift : ByteArray := prog_5_method_7_code
def yX3_addShift : MethodName := ⟨RX3, "addShift", "(III)V"⟩
abbrev cX3_overtimeIn : ByteArray := prog_5_method_8_code
def yX3_overtimeIn : MethodName := ⟨RX3, "overtimeIn", "(I)I"⟩
abbrev cX3_baseIn : ByteArray := prog_5_method_9_code
def yX3_baseIn : MethodName := ⟨RX3, "baseIn", "(I)J"⟩
abbrev cX3_refresh : ByteArray := prog_5_method_10_code
def yX3_refresh : MethodName := ⟨RX3, "refresh", "()V"⟩
abbrev cX3_fillWorked : ByteArray := prog_5_method_11_code
def yX3_fillWorked : MethodName := ⟨RX3, "fillWorked", "()V"⟩
abbrev cX3_fillMonth : ByteArray := prog_5_method_12_code
def yX3_fillMonth : MethodName := ⟨RX3, "fillMonth", "(I)V"⟩
abbrev cX3_overtimePay : ByteArray := prog_5_method_13_code
def yX3_overtimePay : MethodName := ⟨RX3, "overtimePay", "(II)J"⟩
def RX4 : String := "Taxmaze$Elements"
def TX4 : u_T := fun k => match k with
  | 0 => ("Taxmaze$Elements", "count", "I", false)
  | 1 => ("Taxmaze$Elements", "height", "I", false)
  | 2 => ("Taxmaze$Elements", "words", "[[I", true)
  | 3 => ("Taxmaze$Elements", "numbers", "[[I", true)
  | 4 => ("Taxmaze$Elements", "lengths", "[I", true)
  | 5 => ("Taxmaze$Elements", "needs", "[I", true)
  | 6 => ("Taxmaze$Elements", "sets", "[I", true)
  | 7 => ("Taxmaze$Elements", "sequence", "[I", true)
  | 8 => ("Taxmaze$Elements", "values", "[J", true)
  | _ => ("Taxmaze$Elements", "pile", "[J", true)
def tyX4 : Nat → FieldType := fun k => match k with
  | 0 => .int
  | 1 => .int
  | 2 => .array (.array .int)
  | 3 => .array (.array .int)
  | 4 => .array .int
  | 5 => .array .int
  | 6 => .array .int
  | 7 => .array .int
  | 8 => .array .long
  | _ => .array .long
abbrev wsX40 : List Cond := u_ws RX4 TX4 10
theorem nmX4 : ∀ a, a < 10 → ∀ b, b < 10 → a ≠ b → (TX4 a).2.1 ≠ (TX4 b).2.1 := by decide +kernel
theorem tyX4_ok : ∀ k, k < 10 → parseFieldDescriptor (TX4 k).2.2.1 = some (tyX4 k) := by decide +kernel
abbrev cX4_init : ByteArray := prog_6_method_1_code
def yX4_init : MethodName := ⟨RX4, "<init>", "()V"⟩
abbrev cX4_takesWord : ByteArray := prog_6_method_2_code
def yX4_takesWord : MethodName := ⟨RX4, "takesWord", "(I)Z"⟩
abbrev cX4_putWord : ByteArray := prog_6_method_3_code
def yX4_putWord : MethodName := ⟨RX4, "putWord", "(II)I"⟩
abbrev cX4_wouldNeedItself : ByteArray := prog_6_method_4_code
def yX4_wouldNeedItself : MethodName := ⟨RX4, "wouldNeedItself", "(I)Z"⟩
abbrev cX4_make : ByteArray := prog_6_method_5_code
def yX4_make : MethodName := ⟨RX4, "make", "(II)V"⟩
abbrev cX4_arrange : ByteArray := prog_6_method_6_code
def yX4_arrange : MethodName := ⟨RX4, "arrange", "()V"⟩
abbrev cX4_lowestReady : ByteArray := prog_6_method_7_code
def yX4_lowestReady : MethodName := ⟨RX4, "lowestReady", "(I)I"⟩
abbrev cX4_reckonAll : ByteArray := prog_6_method_8_code
def yX4_reckonAll : MethodName := ⟨RX4, "reckonAll", "(IJJ)V"⟩
abbrev cX4_comesTo : ByteArray := prog_6_method_9_code
def yX4_comesTo : MethodName := ⟨RX4, "comesTo", "(IJJ)J"⟩
abbrev cX4_single : ByteArray := prog_6_method_10_code
def yX4_single : MethodName := ⟨RX4, "single", "(IIJJ)J"⟩
abbrev cX4_joined : ByteArray := prog_6_method_11_code
def yX4_joined : MethodName := ⟨RX4, "joined", "(IJJ)J"⟩
abbrev cX4_bounded : ByteArray := prog_6_method_12_code
def yX4_bounded : MethodName := ⟨RX4, "bounded", "(J)J"⟩
abbrev cX4_isIn : ByteArray := prog_6_method_13_code
def yX4_isIn : MethodName := ⟨RX4, "isIn", "(II)Z"⟩
def RX5 : String := "Taxmaze$Garnishment"
def TX5 : u_T := fun k => match k with
  | 0 => ("Taxmaze$Garnishment", "person", "I", true)
  | 1 => ("Taxmaze$Garnishment", "begin", "I", true)
  | 2 => ("Taxmaze$Garnishment", "rank", "I", true)
  | 3 => ("Taxmaze$Garnishment", "total", "I", true)
  | 4 => ("Taxmaze$Garnishment", "part", "I", true)
  | 5 => ("Taxmaze$Garnishment", "kept", "I", true)
  | _ => ("Taxmaze$Garnishment", "takenUpTo", "[J", true)
def tyX5 : Nat → FieldType := fun k => match k with
  | 0 => .int
  | 1 => .int
  | 2 => .int
  | 3 => .int
  | 4 => .int
  | 5 => .int
  | _ => .array .long
abbrev wsX50 : List Cond := u_ws RX5 TX5 7
theorem nmX5 : ∀ a, a < 7 → ∀ b, b < 7 → a ≠ b → (TX5 a).2.1 ≠ (TX5 b).2.1 := by decide +kernel
theorem tyX5_ok : ∀ k, k < 7 → parseFieldDescriptor (TX5 k).2.2.1 = some (tyX5 k) := by decide +kernel
abbrev cX5_init : ByteArray := prog_7_method_1_code
def yX5_init : MethodName := ⟨RX5, "<init>", "(IIIIII)V"⟩
abbrev cX5_take : ByteArray := prog_7_method_2_code
def yX5_take : MethodName := ⟨RX5, "take", "(IJJ)J"⟩
def RX6 : String := "Taxmaze$Leave"
def TX6 : u_T := fun k => match k with
  | 0 => ("Taxmaze$Leave", "contract", "LTaxmaze$Contract;", true)
  | 1 => ("Taxmaze$Leave", "day", "I", true)
  | _ => ("Taxmaze$Leave", "taken", "Z", false)
def tyX6 : Nat → FieldType := fun k => match k with
  | 0 => .object "Taxmaze$Contract"
  | 1 => .int
  | _ => .boolean
abbrev wsX60 : List Cond := u_ws RX6 TX6 3
theorem nmX6 : ∀ a, a < 3 → ∀ b, b < 3 → a ≠ b → (TX6 a).2.1 ≠ (TX6 b).2.1 := by decide +kernel
theorem tyX6_ok : ∀ k, k < 3 → parseFieldDescriptor (TX6 k).2.2.1 = some (tyX6 k) := by decide +kernel
abbrev cX6_init : ByteArray := prog_8_method_1_code
def yX6_init : MethodName := ⟨RX6, "<init>", "(LTaxmaze$Contract;I)V"⟩
def RX7 : String := "Taxmaze$Payment"
def TX7 : u_T := fun k => match k with
  | 0 => ("Taxmaze$Payment", "person", "I", true)
  | 1 => ("Taxmaze$Payment", "month", "I", true)
  | 2 => ("Taxmaze$Payment", "cents", "J", true)
  | _ => ("Taxmaze$Payment", "cameBack", "Z", false)
def tyX7 : Nat → FieldType := fun k => match k with
  | 0 => .int
  | 1 => .int
  | 2 => .long
  | _ => .boolean
abbrev wsX70 : List Cond := u_ws RX7 TX7 4
theorem nmX7 : ∀ a, a < 4 → ∀ b, b < 4 → a ≠ b → (TX7 a).2.1 ≠ (TX7 b).2.1 := by decide +kernel
theorem tyX7_ok : ∀ k, k < 4 → parseFieldDescriptor (TX7 k).2.2.1 = some (tyX7 k) := by decide +kernel
abbrev cX7_init : ByteArray := prog_9_method_1_code
def yX7_init : MethodName := ⟨RX7, "<init>", "(IIJ)V"⟩
def RX8 : String := "Taxmaze$Person"
def TX8 : u_T := fun k => match k with
  | 0 => ("Taxmaze$Person", "number", "I", true)
  | 1 => ("Taxmaze$Person", "contracts", "Ljava/util/ArrayList;", true)
  | 2 => ("Taxmaze$Person", "leaves", "Ljava/util/ArrayList;", true)
  | 3 => ("Taxmaze$Person", "garnishments", "Ljava/util/ArrayList;", true)
  | 4 => ("Taxmaze$Person", "states", "LTaxmaze$Steps;", true)
  | 5 => ("Taxmaze$Person", "pensionParts", "LTaxmaze$Steps;", true)
  | 6 => ("Taxmaze$Person", "bonuses", "[[I", true)
  | 7 => ("Taxmaze$Person", "advances", "[J", true)
  | 8 => ("Taxmaze$Person", "allAdvances", "J", false)
  | 9 => ("Taxmaze$Person", "paid", "J", false)
  | _ => ("Taxmaze$Person", "book", "LTaxmaze$Book;", true)
def tyX8 : Nat → FieldType := fun k => match k with
  | 0 => .int
  | 1 => .object "java/util/ArrayList"
  | 2 => .object "java/util/ArrayList"
  | 3 => .object "java/util/ArrayList"
  | 4 => .object "Taxmaze$Steps"
  | 5 => .object "Taxmaze$Steps"
  | 6 => .array (.array .int)
  | 7 => .array .long
  | 8 => .long
  | 9 => .long
  | _ => .object "Taxmaze$Book"
abbrev wsX80 : List Cond := u_ws RX8 TX8 11
theorem nmX8 : ∀ a, a < 11 → ∀ b, b < 11 → a ≠ b → (TX8 a).2.1 ≠ (TX8 b).2.1 := by decide +kernel
theorem tyX8_ok : ∀ k, k < 11 → parseFieldDescriptor (TX8 k).2.2.1 = some (tyX8 k) := by decide +kernel
abbrev cX8_init : ByteArray := prog_10_method_1_code
def yX8_init : MethodName := ⟨RX8, "<init>", "(I)V"⟩
abbrev cX8_worksOn : ByteArray := prog_10_method_2_code
def yX8_worksOn : MethodName := ⟨RX8, "worksOn", "(I)Z"⟩
abbrev cX8_tellLeave : ByteArray := prog_10_method_3_code
def yX8_tellLeave : MethodName := ⟨RX8, "tellLeave", "(LTaxmaze$Leave;)V"⟩
abbrev cX8_tellGarnishment : ByteArray := prog_10_method_4_code
def yX8_tellGarnishment : MethodName := ⟨RX8, "tellGarnishment", "(LTaxmaze$Garnishment;)V"⟩
abbrev cX8_takeLeave : ByteArray := prog_10_method_5_code
def yX8_takeLeave : MethodName := ⟨RX8, "takeLeave", "(IIII)I"⟩
abbrev cX8_refreshContracts : ByteArray := prog_10_method_6_code
def yX8_refreshContracts : MethodName := ⟨RX8, "refreshContracts", "()V"⟩
def RX9 : String := "Taxmaze$Place"
def TX9 : u_T := fun k => match k with
  | 0 => ("Taxmaze$Place", "parts", "LTaxmaze$Steps;", true)
  | 1 => ("Taxmaze$Place", "ceilings", "LTaxmaze$Steps;", true)
  | 2 => ("Taxmaze$Place", "brackets", "[LTaxmaze$Brackets;", true)
  | 3 => ("Taxmaze$Place", "filedTaxes", "[J", true)
  | 4 => ("Taxmaze$Place", "filedContributions", "[J", true)
  | _ => ("Taxmaze$Place", "corrected", "[I", true)
def tyX9 : Nat → FieldType := fun k => match k with
  | 0 => .object "Taxmaze$Steps"
  | 1 => .object "Taxmaze$Steps"
  | 2 => .array (.object "Taxmaze$Brackets")
  | 3 => .array .long
  | 4 => .array .long
  | _ => .array .int
abbrev wsX90 : List Cond := u_ws RX9 TX9 6
theorem nmX9 : ∀ a, a < 6 → ∀ b, b < 6 → a ≠ b → (TX9 a).2.1 ≠ (TX9 b).2.1 := by decide +kernel
theorem tyX9_ok : ∀ k, k < 6 → parseFieldDescriptor (TX9 k).2.2.1 = some (tyX9 k) := by decide +kernel
abbrev cX9_init : ByteArray := prog_11_method_1_code
def yX9_init : MethodName := ⟨RX9, "<init>", "()V"⟩
abbrev cX9_file : ByteArray := prog_11_method_2_code
def yX9_file : MethodName := ⟨RX9, "file", "(IJJZ)V"⟩
def RX10 : String := "Taxmaze$Steps"
def TX10 : u_T := fun k => match k with
  | 0 => ("Taxmaze$Steps", "holding", "[I", true)
  | _ => ("Taxmaze$Steps", "told", "[Z", true)
def tyX10 : Nat → FieldType := fun k => match k with
  | 0 => .array .int
  | _ => .array .boolean
abbrev wsX100 : List Cond := u_ws RX10 TX10 2
theorem nmX10 : ∀ a, a < 2 → ∀ b, b < 2 → a ≠ b → (TX10 a).2.1 ≠ (TX10 b).2.1 := by decide +kernel
theorem tyX10_ok : ∀ k, k < 2 → parseFieldDescriptor (TX10 k).2.2.1 = some (tyX10 k) := by decide +kernel
abbrev cX10_init : ByteArray := prog_12_method_1_code
def yX10_init : MethodName := ⟨RX10, "<init>", "(I)V"⟩
abbrev cX10_tell : ByteArray := prog_12_method_2_code
def yX10_tell : MethodName := ⟨RX10, "tell", "(II)V"⟩
abbrev cX10_at : ByteArray := prog_12_method_3_code
def yX10_at : MethodName := ⟨RX10, "at", "(I)I"⟩
def RX11 : String := "Taxmaze"
def TX11 : u_T := fun k => match k with
  | 0 => ("Taxmaze", "contracts", "Ljava/util/ArrayList;", true)
  | 1 => ("Taxmaze", "people", "[LTaxmaze$Person;", true)
  | 2 => ("Taxmaze", "places", "[LTaxmaze$Place;", true)
  | 3 => ("Taxmaze", "elements", "LTaxmaze$Elements;", true)
  | 4 => ("Taxmaze", "garnishments", "Ljava/util/ArrayList;", true)
  | 5 => ("Taxmaze", "made", "Ljava/util/ArrayList;", true)
  | 6 => ("Taxmaze", "shiftsTold", "I", false)
  | 7 => ("Taxmaze", "leavesTold", "I", false)
  | 8 => ("Taxmaze", "leaveRate", "I", false)
  | 9 => ("Taxmaze", "leaveCarry", "I", false)
  | 10 => ("Taxmaze", "leaveTerm", "I", false)
  | _ => ("Taxmaze", "openMonth", "I", false)
def tyX11 : Nat → FieldType := fun k => match k with
  | 0 => .object "java/util/ArrayList"
  | 1 => .array (.object "Taxmaze$Person")
  | 2 => .array (.object "Taxmaze$Place")
  | 3 => .object "Taxmaze$Elements"
  | 4 => .object "java/util/ArrayList"
  | 5 => .object "java/util/ArrayList"
  | 6 => .int
  | 7 => .int
  | 8 => .int
  | 9 => .int
  | 10 => .int
  | _ => .int
abbrev wsX110 : List Cond := u_ws RX11 TX11 12
theorem nmX11 : ∀ a, a < 12 → ∀ b, b < 12 → a ≠ b → (TX11 a).2.1 ≠ (TX11 b).2.1 := by decide +kernel
theorem tyX11_ok : ∀ k, k < 12 → parseFieldDescriptor (TX11 k).2.2.1 = some (tyX11 k) := by decide +kernel
abbrev cX11_init : ByteArray := prog_1_method_1_code
def yX11_init : MethodName := ⟨RX11, "<init>", "()V"⟩
abbrev cX11_contract : ByteArray := prog_1_method_2_code
def yX11_contract : MethodName := ⟨RX11, "contract", "(IIIIZII)I"⟩
abbrev cX11_shift : ByteArray := prog_1_method_4_code
def yX11_shift : MethodName := ⟨RX11, "shift", "(IIII)I"⟩
abbrev cX11_leaveRule : ByteArray := prog_1_method_8_code
def yX11_leaveRule : MethodName := ⟨RX11, "leaveRule", "(III)V"⟩
abbrev cX11_leave : ByteArray := prog_1_method_9_code
def yX11_leave : MethodName := ⟨RX11, "leave", "(II)Z"⟩
abbrev cX11_leaveLeft : ByteArray := prog_1_method_10_code
def yX11_leaveLeft : MethodName := ⟨RX11, "leaveLeft", "(II)I"⟩
abbrev cX11_word : ByteArray := prog_1_method_11_code
def yX11_word : MethodName := ⟨RX11, "word", "(II)I"⟩
abbrev cX11_element : ByteArray := prog_1_method_12_code
def yX11_element : MethodName := ⟨RX11, "element", "(II)I"⟩
abbrev cX11_bonus : ByteArray := prog_1_method_14_code
def yX11_bonus : MethodName := ⟨RX11, "bonus", "(IIII)I"⟩
abbrev cX11_contribution : ByteArray := prog_1_method_15_code
def yX11_contribution : MethodName := ⟨RX11, "contribution", "(IIII)V"⟩
abbrev cX11_bracket : ByteArray := prog_1_method_16_code
def yX11_bracket : MethodName := ⟨RX11, "bracket", "(IIIII)I"⟩
abbrev cX11_state : ByteArray := prog_1_method_17_code
def yX11_state : MethodName := ⟨RX11, "state", "(III)V"⟩
abbrev cX11_pension : ByteArray := prog_1_method_18_code
def yX11_pension : MethodName := ⟨RX11, "pension", "(III)V"⟩
abbrev cX11_yearTax : ByteArray := prog_1_method_19_code
def yX11_yearTax : MethodName := ⟨RX11, "yearTax", "(IIIJ)J"⟩
abbrev cX11_slip : ByteArray := prog_1_method_20_code
def yX11_slip : MethodName := ⟨RX11, "slip", "(III)J"⟩
abbrev cX11_slipIn : ByteArray := prog_1_method_21_code
def yX11_slipIn : MethodName := ⟨RX11, "slipIn", "(IIII)J"⟩
abbrev cX11_garnish : ByteArray := prog_1_method_25_code
def yX11_garnish : MethodName := ⟨RX11, "garnish", "(IIIIII)I"⟩
abbrev cX11_takenBy : ByteArray := prog_1_method_26_code
def yX11_takenBy : MethodName := ⟨RX11, "takenBy", "(II)J"⟩
abbrev cX11_advance : ByteArray := prog_1_method_27_code
def yX11_advance : MethodName := ⟨RX11, "advance", "(II)J"⟩
abbrev cX11_open : ByteArray := prog_1_method_28_code
def yX11_open : MethodName := ⟨RX11, "open", "()I"⟩
abbrev cX11_close : ByteArray := prog_1_method_29_code
def yX11_close : MethodName := ⟨RX11, "close", "()I"⟩
abbrev cX11_payments : ByteArray := prog_1_method_30_code
def yX11_payments : MethodName := ⟨RX11, "payments", "()I"⟩
abbrev cX11_payment : ByteArray := prog_1_method_31_code
def yX11_payment : MethodName := ⟨RX11, "payment", "(II)J"⟩
abbrev cX11_comeBack : ByteArray := prog_1_method_32_code
def yX11_comeBack : MethodName := ⟨RX11, "comeBack", "(I)J"⟩
abbrev cX11_owed : ByteArray := prog_1_method_33_code
def yX11_owed : MethodName := ⟨RX11, "owed", "(I)J"⟩
abbrev cX11_filed : ByteArray := prog_1_method_34_code
def yX11_filed : MethodName := ⟨RX11, "filed", "(IIZ)J"⟩
abbrev cX11_payOut : ByteArray := prog_1_method_36_code
def yX11_payOut : MethodName := ⟨RX11, "payOut", "(LTaxmaze$Person;)V"⟩
abbrev cX11_unpaid : ByteArray := prog_1_method_37_code
def yX11_unpaid : MethodName := ⟨RX11, "unpaid", "(LTaxmaze$Person;)J"⟩
abbrev cX11_fileMonth : ByteArray := prog_1_method_38_code
def yX11_fileMonth : MethodName := ⟨RX11, "fileMonth", "(II)V"⟩
abbrev cX11_bookOf : ByteArray := prog_1_method_39_code
def yX11_bookOf : MethodName := ⟨RX11, "bookOf", "(I)LTaxmaze$Book;"⟩
abbrev cX11_makeAllStale : ByteArray := prog_1_method_40_code
def yX11_makeAllStale : MethodName := ⟨RX11, "makeAllStale", "()V"⟩
abbrev cX11_isContract : ByteArray := prog_1_method_41_code
def yX11_isContract : MethodName := ⟨RX11, "isContract", "(I)Z"⟩
abbrev cX11_isPayment : ByteArray := prog_1_method_43_code
def yX11_isPayment : MethodName := ⟨RX11, "isPayment", "(I)Z"⟩
abbrev cX11_isPerson : ByteArray := prog_1_method_44_code
def yX11_isPerson : MethodName := ⟨RX11, "isPerson", "(I)Z"⟩
abbrev cX11_isPlace : ByteArray := prog_1_method_45_code
def yX11_isPlace : MethodName := ⟨RX11, "isPlace", "(I)Z"⟩
abbrev cX11_isState : ByteArray := prog_1_method_46_code
def yX11_isState : MethodName := ⟨RX11, "isState", "(I)Z"⟩
abbrev cX11_isMonth : ByteArray := prog_1_method_47_code
def yX11_isMonth : MethodName := ⟨RX11, "isMonth", "(I)Z"⟩
abbrev cX11_isDay : ByteArray := prog_1_method_48_code
def yX11_isDay : MethodName := ⟨RX11, "isDay", "(I)Z"⟩
abbrev cX11_isWithin : ByteArray := prog_1_method_49_code
def yX11_isWithin : MethodName := ⟨RX11, "isWithin", "(III)Z"⟩
abbrev cX11_needThere : ByteArray := prog_1_method_50_code
def yX11_needThere : MethodName := ⟨RX11, "needThere", "(Z)V"⟩
abbrev cX11_needFitting : ByteArray := prog_1_method_51_code
def yX11_needFitting : MethodName := ⟨RX11, "needFitting", "(Z)V"⟩
abbrev cX11_needAllowed : ByteArray := prog_1_method_52_code
def yX11_needAllowed : MethodName := ⟨RX11, "needAllowed", "(Z)V"⟩
def RX12 : String := "TaxmazeModel"
def TX12 : u_T := fun k => match k with
  | _ => ("", "", "", false)
def tyX12 : Nat → FieldType := fun k => match k with
  | _ => .int
abbrev wsX120 : List Cond := u_ws RX12 TX12 0
theorem nmX12 : ∀ a, a < 0 → ∀ b, b < 0 → a ≠ b → (TX12 a).2.1 ≠ (TX12 b).2.1 := by decide +kernel
theorem tyX12_ok : ∀ k, k < 0 → parseFieldDescriptor (TX12 k).2.2.1 = some (tyX12 k) := by decide +kernel
def RJx145de : String := "java/io/Serializable"
def TJx145de : u_T := fun k => match k with
  | _ => ("", "", "", false)
def tyJx145de : Nat → FieldType := fun k => match k with
  | _ => .int
abbrev wsJx145de0 : List Cond := u_ws RJx145de TJx145de 0
theorem nmJx145de : ∀ a, a < 0 → ∀ b, b < 0 → a ≠ b → (TJx145de a).2.1 ≠ (TJx145de b).2.1 := by decide +kernel
theorem tyJx145de_ok : ∀ k, k < 0 → parseFieldDescriptor (TJx145de k).2.2.1 = some (tyJx145de k) := by decide +kernel
def RJ5 : String := "java/lang/AbstractStringBuilder"
def TJ5 : u_T := fun k => match k with
  | _ => ("", "", "", false)
def tyJ5 : Nat → FieldType := fun k => match k with
  | _ => .int
abbrev wsJ50 : List Cond := u_ws RJ5 TJ5 0
theorem nmJ5 : ∀ a, a < 0 → ∀ b, b < 0 → a ≠ b → (TJ5 a).2.1 ≠ (TJ5 b).2.1 := by decide +kernel
theorem tyJ5_ok : ∀ k, k < 0 → parseFieldDescriptor (TJ5 k).2.2.1 = some (tyJ5 k) := by decide +kernel
abbrev cJ5_init_d00df : ByteArray := prog_16_method_2_code
def yJ5_init_d00df : MethodName := ⟨RJ5, "<init>", "(I)V"⟩
abbrev cJ5_length_8abf5 : ByteArray := prog_16_method_6_code
def yJ5_length_8abf5 : MethodName := ⟨RJ5, "length", "()I"⟩
abbrev cJ5_ensureCapacityInternal_d00df : ByteArray := prog_16_method_9_code
def yJ5_ensureCapacityInternal_d00df : MethodName := ⟨RJ5, "ensureCapacityInternal", "(I)V"⟩
abbrev cJ5_newCapacity_0f7a4 : ByteArray := prog_16_method_10_code
def yJ5_newCapacity_0f7a4 : MethodName := ⟨RJ5, "newCapacity", "(I)I"⟩
abbrev cJ5_inflate_da8c8 : ByteArray := prog_16_method_11_code
def yJ5_inflate_da8c8 : MethodName := ⟨RJ5, "inflate", "()V"⟩
abbrev cJ5_append_cf1ce : ByteArray := prog_16_method_22_code
def yJ5_append_cf1ce : MethodName := ⟨RJ5, "append", "(Ljava/lang/String;)Ljava/lang/AbstractStringBuilder;"⟩
abbrev cJ5_appendNull_278bc : ByteArray := prog_16_method_26_code
def yJ5_appendNull_278bc : MethodName := ⟨RJ5, "appendNull", "()Ljava/lang/AbstractStringBuilder;"⟩
abbrev cJ5_append_c97b9 : ByteArray := prog_16_method_32_code
def yJ5_append_c97b9 : MethodName := ⟨RJ5, "append", "(I)Ljava/lang/AbstractStringBuilder;"⟩
abbrev cJ5_getValue_6d5f1 : ByteArray := prog_16_method_64_code
def yJ5_getValue_6d5f1 : MethodName := ⟨RJ5, "getValue", "()[B"⟩
abbrev cJ5_isLatin1_aae02 : ByteArray := prog_16_method_68_code
def yJ5_isLatin1_aae02 : MethodName := ⟨RJ5, "isLatin1", "()Z"⟩
abbrev cJ5_inflateIfNeededFor_a7421 : ByteArray := prog_16_method_71_code
def yJ5_inflateIfNeededFor_a7421 : MethodName := ⟨RJ5, "inflateIfNeededFor", "(Ljava/lang/String;)V"⟩
abbrev cJ5_putStringAt_47b60 : ByteArray := prog_16_method_73_code
def yJ5_putStringAt_47b60 : MethodName := ⟨RJ5, "putStringAt", "(ILjava/lang/String;)V"⟩
def RJx2cfe8 : String := "java/lang/Appendable"
def TJx2cfe8 : u_T := fun k => match k with
  | _ => ("", "", "", false)
def tyJx2cfe8 : Nat → FieldType := fun k => match k with
  | _ => .int
abbrev wsJx2cfe80 : List Cond := u_ws RJx2cfe8 TJx2cfe8 0
theorem nmJx2cfe8 : ∀ a, a < 0 → ∀ b, b < 0 → a ≠ b → (TJx2cfe8 a).2.1 ≠ (TJx2cfe8 b).2.1 := by decide +kernel
theorem tyJx2cfe8_ok : ∀ k, k < 0 → parseFieldDescriptor (TJx2cfe8 k).2.2.1 = some (tyJx2cfe8 k) := by decide +kernel
def RJx9f9b0 : String := "java/lang/CharSequence"
def TJx9f9b0 : u_T := fun k => match k with
  | _ => ("", "", "", false)
def tyJx9f9b0 : Nat → FieldType := fun k => match k with
  | _ => .int
abbrev wsJx9f9b00 : List Cond := u_ws RJx9f9b0 TJx9f9b0 0
theorem nmJx9f9b0 : ∀ a, a < 0 → ∀ b, b < 0 → a ≠ b → (TJx9f9b0 a).2.1 ≠ (TJx9f9b0 b).2.1 := by decide +kernel
theorem tyJx9f9b0_ok : ∀ k, k < 0 → parseFieldDescriptor (TJx9f9b0 k).2.2.1 = some (tyJx9f9b0 k) := by decide +kernel
def RJx8e188 : String := "java/lang/Cloneable"
def TJx8e188 : u_T := fun k => match k with
  | _ => ("", "", "", false)
def tyJx8e188 : Nat → FieldType := fun k => match k with
  | _ => .int
abbrev wsJx8e1880 : List Cond := u_ws RJx8e188 TJx8e188 0
theorem nmJx8e188 : ∀ a, a < 0 → ∀ b, b < 0 → a ≠ b → (TJx8e188 a).2.1 ≠ (TJx8e188 b).2.1 := by decide +kernel
theorem tyJx8e188_ok : ∀ k, k < 0 → parseFieldDescriptor (TJx8e188 k).2.2.1 = some (tyJx8e188 k) := by decide +kernel
def RJxb160c : String := "java/lang/Comparable"
def TJxb160c : u_T := fun k => match k with
  | _ => ("", "", "", false)
def tyJxb160c : Nat → FieldType := fun k => match k with
  | _ => .int
abbrev wsJxb160c0 : List Cond := u_ws RJxb160c TJxb160c 0
theorem nmJxb160c : ∀ a, a < 0 → ∀ b, b < 0 → a ≠ b → (TJxb160c a).2.1 ≠ (TJxb160c b).2.1 := by decide +kernel
theorem tyJxb160c_ok : ∀ k, k < 0 → parseFieldDescriptor (TJxb160c k).2.2.1 = some (tyJxb160c k) := by decide +kernel
def RJ6 : String := "java/lang/Integer"
def TJ6 : u_T := fun k => match k with
  | _ => ("", "", "", false)
def tyJ6 : Nat → FieldType := fun k => match k with
  | _ => .int
abbrev wsJ60 : List Cond := u_ws RJ6 TJ6 0
theorem nmJ6 : ∀ a, a < 0 → ∀ b, b < 0 → a ≠ b → (TJ6 a).2.1 ≠ (TJ6 b).2.1 := by decide +kernel
theorem tyJ6_ok : ∀ k, k < 0 → parseFieldDescriptor (TJ6 k).2.2.1 = some (tyJ6 k) := by decide +kernel
abbrev cJ6_getChars_ba4f3 : ByteArray := prog_25_method_12_code
def yJ6_getChars_ba4f3 : MethodName := ⟨RJ6, "getChars", "(II[B)I"⟩
abbrev cJ6_stringSize_0f7a4 : ByteArray := prog_25_method_13_code
def yJ6_stringSize_0f7a4 : MethodName := ⟨RJ6, "stringSize", "(I)I"⟩
def RJxab1ab : String := "java/lang/Iterable"
def TJxab1ab : u_T := fun k => match k with
  | _ => ("", "", "", false)
def tyJxab1ab : Nat → FieldType := fun k => match k with
  | _ => .int
abbrev wsJxab1ab0 : List Cond := u_ws RJxab1ab TJxab1ab 0
theorem nmJxab1ab : ∀ a, a < 0 → ∀ b, b < 0 → a ≠ b → (TJxab1ab a).2.1 ≠ (TJxab1ab b).2.1 := by decide +kernel
theorem tyJxab1ab_ok : ∀ k, k < 0 → parseFieldDescriptor (TJxab1ab k).2.2.1 = some (tyJxab1ab k) := by decide +kernel
def RJ9 : String := "java/lang/Math"
def TJ9 : u_T := fun k => match k with
  | _ => ("", "", "", false)
def tyJ9 : Nat → FieldType := fun k => match k with
  | _ => .int
abbrev wsJ90 : List Cond := u_ws RJ9 TJ9 0
theorem nmJ9 : ∀ a, a < 0 → ∀ b, b < 0 → a ≠ b → (TJ9 a).2.1 ≠ (TJ9 b).2.1 := by decide +kernel
theorem tyJ9_ok : ∀ k, k < 0 → parseFieldDescriptor (TJ9 k).2.2.1 = some (tyJ9 k) := by decide +kernel
abbrev cJ9_floorDiv_f86c9 : ByteArray := prog_27_method_49_code
def yJ9_floorDiv_f86c9 : MethodName := ⟨RJ9, "floorDiv", "(JJ)J"⟩
abbrev cJ9_max_7cf53 : ByteArray := prog_27_method_65_code
def yJ9_max_7cf53 : MethodName := ⟨RJ9, "max", "(II)I"⟩
abbrev cJ9_max_f86c9 : ByteArray := prog_27_method_66_code
def yJ9_max_f86c9 : MethodName := ⟨RJ9, "max", "(JJ)J"⟩
abbrev cJ9_min_7cf53 : ByteArray := prog_27_method_69_code
def yJ9_min_7cf53 : MethodName := ⟨RJ9, "min", "(II)I"⟩
abbrev cJ9_min_f86c9 : ByteArray := prog_27_method_70_code
def yJ9_min_f86c9 : MethodName := ⟨RJ9, "min", "(JJ)J"⟩
def RJxd2413 : String := "java/lang/Number"
def TJxd2413 : u_T := fun k => match k with
  | _ => ("", "", "", false)
def tyJxd2413 : Nat → FieldType := fun k => match k with
  | _ => .int
abbrev wsJxd24130 : List Cond := u_ws RJxd2413 TJxd2413 0
theorem nmJxd2413 : ∀ a, a < 0 → ∀ b, b < 0 → a ≠ b → (TJxd2413 a).2.1 ≠ (TJxd2413 b).2.1 := by decide +kernel
theorem tyJxd2413_ok : ∀ k, k < 0 → parseFieldDescriptor (TJxd2413 k).2.2.1 = some (tyJxd2413 k) := by decide +kernel
def RJ0 : String := "java/lang/String"
def TJ0 : u_T := fun k => match k with
  | 0 => ("java/lang/String", "value", "[B", true)
  | 1 => ("java/lang/String", "coder", "B", true)
  | 2 => ("java/lang/String", "hash", "I", false)
  | _ => ("java/lang/String", "hashIsZero", "Z", false)
def tyJ0 : Nat → FieldType := fun k => match k with
  | 0 => .array .byte
  | 1 => .byte
  | 2 => .int
  | _ => .boolean
abbrev wsJ00 : List Cond := u_ws RJ0 TJ0 4
theorem nmJ0 : ∀ a, a < 4 → ∀ b, b < 4 → a ≠ b → (TJ0 a).2.1 ≠ (TJ0 b).2.1 := by decide +kernel
theorem tyJ0_ok : ∀ k, k < 4 → parseFieldDescriptor (TJ0 k).2.2.1 = some (tyJ0 k) := by decide +kernel
abbrev cJ0_init_81219 : ByteArray := prog_30_method_53_code
def yJ0_init_81219 : MethodName := ⟨RJ0, "<init>", "(Ljava/lang/StringBuilder;)V"⟩
abbrev cJ0_length_8abf5 : ByteArray := prog_30_method_54_code
def yJ0_length_8abf5 : MethodName := ⟨RJ0, "length", "()I"⟩
abbrev cJ0_getBytes_840e7 : ByteArray := prog_30_method_147_code
def yJ0_getBytes_840e7 : MethodName := ⟨RJ0, "getBytes", "([BIB)V"⟩
abbrev cJ0_init_db425 : ByteArray := prog_30_method_150_code
def yJ0_init_db425 : MethodName := ⟨RJ0, "<init>", "(Ljava/lang/AbstractStringBuilder;Ljava/lang/Void;)V"⟩
abbrev cJ0_coder_7d493 : ByteArray := prog_30_method_152_code
def yJ0_coder_7d493 : MethodName := ⟨RJ0, "coder", "()B"⟩
abbrev cJ0_checkBoundsOffCount_cabcc : ByteArray := prog_30_method_157_code
def yJ0_checkBoundsOffCount_cabcc : MethodName := ⟨RJ0, "checkBoundsOffCount", "(III)I"⟩
abbrev cJ0_checkBoundsBeginEnd_23922 : ByteArray := prog_30_method_158_code
def yJ0_checkBoundsBeginEnd_23922 : MethodName := ⟨RJ0, "checkBoundsBeginEnd", "(III)V"⟩
def RJ4 : String := "java/lang/StringBuilder"
def TJ4 : u_T := fun k => match k with
  | 0 => ("java/lang/AbstractStringBuilder", "value", "[B", false)
  | 1 => ("java/lang/AbstractStringBuilder", "coder", "B", false)
  | 2 => ("java/lang/AbstractStringBuilder", "maybeLatin1", "Z", false)
  | _ => ("java/lang/AbstractStringBuilder", "count", "I", false)
def tyJ4 : Nat → FieldType := fun k => match k with
  | 0 => .array .byte
  | 1 => .byte
  | 2 => .boolean
  | _ => .int
abbrev wsJ40 : List Cond := u_ws RJ4 TJ4 4
theorem nmJ4 : ∀ a, a < 4 → ∀ b, b < 4 → a ≠ b → (TJ4 a).2.1 ≠ (TJ4 b).2.1 := by decide +kernel
theorem tyJ4_ok : ∀ k, k < 4 → parseFieldDescriptor (TJ4 k).2.2.1 = some (tyJ4 k) := by decide +kernel
abbrev cJ4_init_da8c8 : ByteArray := prog_31_method_1_code
def yJ4_init_da8c8 : MethodName := ⟨RJ4, "<init>", "()V"⟩
abbrev cJ4_append_15ec4 : ByteArray := prog_31_method_7_code
def yJ4_append_15ec4 : MethodName := ⟨RJ4, "append", "(Ljava/lang/String;)Ljava/lang/StringBuilder;"⟩
abbrev cJ4_append_bf812 : ByteArray := prog_31_method_15_code
def yJ4_append_bf812 : MethodName := ⟨RJ4, "append", "(I)Ljava/lang/StringBuilder;"⟩
abbrev cJ4_toString_0e30d : ByteArray := prog_31_method_42_code
def yJ4_toString_0e30d : MethodName := ⟨RJ4, "toString", "()Ljava/lang/String;"⟩
abbrev cJ4_length_8abf5 : ByteArray := prog_31_method_93_code
def yJ4_length_8abf5 : MethodName := ⟨RJ4, "length", "()I"⟩
def RJ1 : String := "java/lang/StringLatin1"
def TJ1 : u_T := fun k => match k with
  | _ => ("", "", "", false)
def tyJ1 : Nat → FieldType := fun k => match k with
  | _ => .int
abbrev wsJ10 : List Cond := u_ws RJ1 TJ1 0
theorem nmJ1 : ∀ a, a < 0 → ∀ b, b < 0 → a ≠ b → (TJ1 a).2.1 ≠ (TJ1 b).2.1 := by decide +kernel
theorem tyJ1_ok : ∀ k, k < 0 → parseFieldDescriptor (TJ1 k).2.2.1 = some (tyJ1 k) := by decide +kernel
abbrev cJ1_inflate_0e8fd : ByteArray := prog_32_method_50_code
def yJ1_inflate_0e8fd : MethodName := ⟨RJ1, "inflate", "([BI[BII)V"⟩
def RJ2 : String := "java/lang/StringUTF16"
def TJ2 : u_T := fun k => match k with
  | _ => ("", "", "", false)
def tyJ2 : Nat → FieldType := fun k => match k with
  | _ => .int
abbrev wsJ20 : List Cond := u_ws RJ2 TJ2 0
theorem nmJ2 : ∀ a, a < 0 → ∀ b, b < 0 → a ≠ b → (TJ2 a).2.1 ≠ (TJ2 b).2.1 := by decide +kernel
theorem tyJ2_ok : ∀ k, k < 0 → parseFieldDescriptor (TJ2 k).2.2.1 = some (tyJ2 k) := by decide +kernel
abbrev cJ2_newBytesFor_77867 : ByteArray := prog_33_method_2_code
def yJ2_newBytesFor_77867 : MethodName := ⟨RJ2, "newBytesFor", "(I)[B"⟩
abbrev cJ2_newBytesLength_0f7a4 : ByteArray := prog_33_method_3_code
def yJ2_newBytesLength_0f7a4 : MethodName := ⟨RJ2, "newBytesLength", "(I)I"⟩
abbrev cJ2_putChar_b72d1 : ByteArray := prog_33_method_4_code
def yJ2_putChar_b72d1 : MethodName := ⟨RJ2, "putChar", "([BII)V"⟩
abbrev cJ2_getChar_3b067 : ByteArray := prog_33_method_5_code
def yJ2_getChar_3b067 : MethodName := ⟨RJ2, "getChar", "([BI)C"⟩
abbrev cJ2_length_9d52b : ByteArray := prog_33_method_6_code
def yJ2_length_9d52b : MethodName := ⟨RJ2, "length", "([B)I"⟩
abbrev cJ2_coderFromArrayLen_85cad : ByteArray := prog_33_method_15_code
def yJ2_coderFromArrayLen_85cad : MethodName := ⟨RJ2, "coderFromArrayLen", "([BI)B"⟩
abbrev cJ2_compress_39247 : ByteArray := prog_33_method_17_code
def yJ2_compress_39247 : MethodName := ⟨RJ2, "compress", "([BII)[B"⟩
abbrev cJ2_compress_5af95 : ByteArray := prog_33_method_22_code
def yJ2_compress_5af95 : MethodName := ⟨RJ2, "compress", "([BI[BII)I"⟩
abbrev cJ2_getChars_46870 : ByteArray := prog_33_method_77_code
def yJ2_getChars_46870 : MethodName := ⟨RJ2, "getChars", "(III[B)I"⟩
abbrev cJ2_putCharsAt_cd4e5 : ByteArray := prog_33_method_81_code
def yJ2_putCharsAt_cd4e5 : MethodName := ⟨RJ2, "putCharsAt", "([BICCCC)I"⟩
abbrev cJ2_inflate_0e8fd : ByteArray := prog_33_method_86_code
def yJ2_inflate_0e8fd : MethodName := ⟨RJ2, "inflate", "([BI[BII)V"⟩
abbrev cJ2_getChars_ba4f3 : ByteArray := prog_33_method_89_code
def yJ2_getChars_ba4f3 : MethodName := ⟨RJ2, "getChars", "(II[B)I"⟩
abbrev cJ2_checkBoundsBeginEnd_d044e : ByteArray := prog_33_method_93_code
def yJ2_checkBoundsBeginEnd_d044e : MethodName := ⟨RJ2, "checkBoundsBeginEnd", "(II[B)V"⟩
abbrev cJ2_checkBoundsOffCount_d044e : ByteArray := prog_33_method_94_code
def yJ2_checkBoundsOffCount_d044e : MethodName := ⟨RJ2, "checkBoundsOffCount", "(II[B)V"⟩
def RJ10 : String := "java/lang/System"
def TJ10 : u_T := fun k => match k with
  | _ => ("", "", "", false)
def tyJ10 : Nat → FieldType := fun k => match k with
  | _ => .int
abbrev wsJ100 : List Cond := u_ws RJ10 TJ10 0
theorem nmJ10 : ∀ a, a < 0 → ∀ b, b < 0 → a ≠ b → (TJ10 a).2.1 ≠ (TJ10 b).2.1 := by decide +kernel
theorem tyJ10_ok : ∀ k, k < 0 → parseFieldDescriptor (TJ10 k).2.2.1 = some (tyJ10 k) := by decide +kernel
def RJxfd54e : String := "java/lang/constant/Constable"
def TJxfd54e : u_T := fun k => match k with
  | _ => ("", "", "", false)
def tyJxfd54e : Nat → FieldType := fun k => match k with
  | _ => .int
abbrev wsJxfd54e0 : List Cond := u_ws RJxfd54e TJxfd54e 0
theorem nmJxfd54e : ∀ a, a < 0 → ∀ b, b < 0 → a ≠ b → (TJxfd54e a).2.1 ≠ (TJxfd54e b).2.1 := by decide +kernel
theorem tyJxfd54e_ok : ∀ k, k < 0 → parseFieldDescriptor (TJxfd54e k).2.2.1 = some (tyJxfd54e k) := by decide +kernel
def RJx3cf43 : String := "java/lang/constant/ConstantDesc"
def TJx3cf43 : u_T := fun k => match k with
  | _ => ("", "", "", false)
def tyJx3cf43 : Nat → FieldType := fun k => match k with
  | _ => .int
abbrev wsJx3cf430 : List Cond := u_ws RJx3cf43 TJx3cf43 0
theorem nmJx3cf43 : ∀ a, a < 0 → ∀ b, b < 0 → a ≠ b → (TJx3cf43 a).2.1 ≠ (TJx3cf43 b).2.1 := by decide +kernel
theorem tyJx3cf43_ok : ∀ k, k < 0 → parseFieldDescriptor (TJx3cf43 k).2.2.1 = some (tyJx3cf43 k) := by decide +kernel
def RJxa1e45 : String := "java/util/AbstractCollection"
def TJxa1e45 : u_T := fun k => match k with
  | _ => ("", "", "", false)
def tyJxa1e45 : Nat → FieldType := fun k => match k with
  | _ => .int
abbrev wsJxa1e450 : List Cond := u_ws RJxa1e45 TJxa1e45 0
theorem nmJxa1e45 : ∀ a, a < 0 → ∀ b, b < 0 → a ≠ b → (TJxa1e45 a).2.1 ≠ (TJxa1e45 b).2.1 := by decide +kernel
theorem tyJxa1e45_ok : ∀ k, k < 0 → parseFieldDescriptor (TJxa1e45 k).2.2.1 = some (tyJxa1e45 k) := by decide +kernel
abbrev cJxa1e45_init_da8c8 : ByteArray := prog_38_method_1_code
def yJxa1e45_init_da8c8 : MethodName := ⟨RJxa1e45, "<init>", "()V"⟩
def RJxc12de : String := "java/util/AbstractList"
def TJxc12de : u_T := fun k => match k with
  | _ => ("", "", "", false)
def tyJxc12de : Nat → FieldType := fun k => match k with
  | _ => .int
abbrev wsJxc12de0 : List Cond := u_ws RJxc12de TJxc12de 0
theorem nmJxc12de : ∀ a, a < 0 → ∀ b, b < 0 → a ≠ b → (TJxc12de a).2.1 ≠ (TJxc12de b).2.1 := by decide +kernel
theorem tyJxc12de_ok : ∀ k, k < 0 → parseFieldDescriptor (TJxc12de k).2.2.1 = some (tyJxc12de k) := by decide +kernel
abbrev cJxc12de_init_da8c8 : ByteArray := prog_39_method_1_code
def yJxc12de_init_da8c8 : MethodName := ⟨RJxc12de, "<init>", "()V"⟩
def RJx4a65c : String := "java/util/ArrayList"
def TJx4a65c : u_T := fun k => match k with
  | 0 => ("java/util/AbstractList", "modCount", "I", false)
  | 1 => ("java/util/ArrayList", "elementData", "[Ljava/lang/Object;", false)
  | _ => ("java/util/ArrayList", "size", "I", false)
def tyJx4a65c : Nat → FieldType := fun k => match k with
  | 0 => .int
  | 1 => .array (.object "java/lang/Object")
  | _ => .int
abbrev wsJx4a65c0 : List Cond := u_ws RJx4a65c TJx4a65c 3
theorem nmJx4a65c : ∀ a, a < 3 → ∀ b, b < 3 → a ≠ b → (TJx4a65c a).2.1 ≠ (TJx4a65c b).2.1 := by decide +kernel
theorem tyJx4a65c_ok : ∀ k, k < 3 → parseFieldDescriptor (TJx4a65c k).2.2.1 = some (tyJx4a65c k) := by decide +kernel
abbrev cJx4a65c_init_da8c8 : ByteArray := prog_40_method_2_code
def yJx4a65c_init_da8c8 : MethodName := ⟨RJx4a65c, "<init>", "()V"⟩
abbrev cJx4a65c_grow_92f84 : ByteArray := prog_40_method_6_code
def yJx4a65c_grow_92f84 : MethodName := ⟨RJx4a65c, "grow", "(I)[Ljava/lang/Object;"⟩
abbrev cJx4a65c_grow_d5877 : ByteArray := prog_40_method_7_code
def yJx4a65c_grow_d5877 : MethodName := ⟨RJx4a65c, "grow", "()[Ljava/lang/Object;"⟩
abbrev cJx4a65c_size_8abf5 : ByteArray := prog_40_method_8_code
def yJx4a65c_size_8abf5 : MethodName := ⟨RJx4a65c, "size", "()I"⟩
abbrev cJx4a65c_elementData_915e3 : ByteArray := prog_40_method_18_code
def yJx4a65c_elementData_915e3 : MethodName := ⟨RJx4a65c, "elementData", "(I)Ljava/lang/Object;"⟩
abbrev cJx4a65c_get_915e3 : ByteArray := prog_40_method_20_code
def yJx4a65c_get_915e3 : MethodName := ⟨RJx4a65c, "get", "(I)Ljava/lang/Object;"⟩
abbrev cJx4a65c_add_72be8 : ByteArray := prog_40_method_24_code
def yJx4a65c_add_72be8 : MethodName := ⟨RJx4a65c, "add", "(Ljava/lang/Object;[Ljava/lang/Object;I)V"⟩
abbrev cJx4a65c_add_9ea2d : ByteArray := prog_40_method_25_code
def yJx4a65c_add_9ea2d : MethodName := ⟨RJx4a65c, "add", "(Ljava/lang/Object;)Z"⟩
abbrev cJx4a65c_add_7a177 : ByteArray := prog_40_method_26_code
def yJx4a65c_add_7a177 : MethodName := ⟨RJx4a65c, "add", "(ILjava/lang/Object;)V"⟩
abbrev cJx4a65c_rangeCheckForAdd_d00df : ByteArray := prog_40_method_45_code
def yJx4a65c_rangeCheckForAdd_d00df : MethodName := ⟨RJx4a65c, "rangeCheckForAdd", "(I)V"⟩
abbrev cJx4a65c_outOfBoundsMsg_b52d3 : ByteArray := prog_40_method_46_code
def yJx4a65c_outOfBoundsMsg_b52d3 : MethodName := ⟨RJx4a65c, "outOfBoundsMsg", "(I)Ljava/lang/String;"⟩
def RJ7 : String := "java/util/Arrays"
def TJ7 : u_T := fun k => match k with
  | _ => ("", "", "", false)
def tyJ7 : Nat → FieldType := fun k => match k with
  | _ => .int
abbrev wsJ70 : List Cond := u_ws RJ7 TJ7 0
theorem nmJ7 : ∀ a, a < 0 → ∀ b, b < 0 → a ≠ b → (TJ7 a).2.1 ≠ (TJ7 b).2.1 := by decide +kernel
theorem tyJ7_ok : ∀ k, k < 0 → parseFieldDescriptor (TJ7 k).2.2.1 = some (tyJ7 k) := by decide +kernel
abbrev cJ7_copyOf_1904c : ByteArray := prog_41_method_119_code
def yJ7_copyOf_1904c : MethodName := ⟨RJ7, "copyOf", "([Ljava/lang/Object;I)[Ljava/lang/Object;"⟩
abbrev cJ7_copyOf_6403c : ByteArray := prog_41_method_120_code
def yJ7_copyOf_6403c : MethodName := ⟨RJ7, "copyOf", "([Ljava/lang/Object;ILjava/lang/Class;)[Ljava/lang/Object;"⟩
abbrev cJ7_copyOf_9075b : ByteArray := prog_41_method_121_code
def yJ7_copyOf_9075b : MethodName := ⟨RJ7, "copyOf", "([BI)[B"⟩
abbrev cJ7_checkLength_df160 : ByteArray := prog_41_method_131_code
def yJ7_checkLength_df160 : MethodName := ⟨RJ7, "checkLength", "(II)V"⟩
abbrev cJ7_copyOfRange_39247 : ByteArray := prog_41_method_132_code
def yJ7_copyOfRange_39247 : MethodName := ⟨RJ7, "copyOfRange", "([BII)[B"⟩
abbrev cJ7_copyOfRangeByte_39247 : ByteArray := prog_41_method_133_code
def yJ7_copyOfRangeByte_39247 : MethodName := ⟨RJ7, "copyOfRangeByte", "([BII)[B"⟩
def RJx5ef63 : String := "java/util/Collection"
def TJx5ef63 : u_T := fun k => match k with
  | _ => ("", "", "", false)
def tyJx5ef63 : Nat → FieldType := fun k => match k with
  | _ => .int
abbrev wsJx5ef630 : List Cond := u_ws RJx5ef63 TJx5ef63 0
theorem nmJx5ef63 : ∀ a, a < 0 → ∀ b, b < 0 → a ≠ b → (TJx5ef63 a).2.1 ≠ (TJx5ef63 b).2.1 := by decide +kernel
theorem tyJx5ef63_ok : ∀ k, k < 0 → parseFieldDescriptor (TJx5ef63 k).2.2.1 = some (tyJx5ef63 k) := by decide +kernel
def RJxbd725 : String := "java/util/List"
def TJxbd725 : u_T := fun k => match k with
  | _ => ("", "", "", false)
def tyJxbd725 : Nat → FieldType := fun k => match k with
  | _ => .int
abbrev wsJxbd7250 : List Cond := u_ws RJxbd725 TJxbd725 0
theorem nmJxbd725 : ∀ a, a < 0 → ∀ b, b < 0 → a ≠ b → (TJxbd725 a).2.1 ≠ (TJxbd725 b).2.1 := by decide +kernel
theorem tyJxbd725_ok : ∀ k, k < 0 → parseFieldDescriptor (TJxbd725 k).2.2.1 = some (tyJxbd725 k) := by decide +kernel
def RJ15 : String := "java/util/Objects"
def TJ15 : u_T := fun k => match k with
  | _ => ("", "", "", false)
def tyJ15 : Nat → FieldType := fun k => match k with
  | _ => .int
abbrev wsJ150 : List Cond := u_ws RJ15 TJ15 0
theorem nmJ15 : ∀ a, a < 0 → ∀ b, b < 0 → a ≠ b → (TJ15 a).2.1 ≠ (TJ15 b).2.1 := by decide +kernel
theorem tyJ15_ok : ∀ k, k < 0 → parseFieldDescriptor (TJ15 k).2.2.1 = some (tyJ15 k) := by decide +kernel
abbrev cJ15_checkIndex_7cf53 : ByteArray := prog_44_method_17_code
def yJ15_checkIndex_7cf53 : MethodName := ⟨RJ15, "checkIndex", "(II)I"⟩
def RJxf0a74 : String := "java/util/RandomAccess"
def TJxf0a74 : u_T := fun k => match k with
  | _ => ("", "", "", false)
def tyJxf0a74 : Nat → FieldType := fun k => match k with
  | _ => .int
abbrev wsJxf0a740 : List Cond := u_ws RJxf0a74 TJxf0a74 0
theorem nmJxf0a74 : ∀ a, a < 0 → ∀ b, b < 0 → a ≠ b → (TJxf0a74 a).2.1 ≠ (TJxf0a74 b).2.1 := by decide +kernel
theorem tyJxf0a74_ok : ∀ k, k < 0 → parseFieldDescriptor (TJxf0a74 k).2.2.1 = some (tyJxf0a74 k) := by decide +kernel
def RJxa66e6 : String := "java/util/SequencedCollection"
def TJxa66e6 : u_T := fun k => match k with
  | _ => ("", "", "", false)
def tyJxa66e6 : Nat → FieldType := fun k => match k with
  | _ => .int
abbrev wsJxa66e60 : List Cond := u_ws RJxa66e6 TJxa66e6 0
theorem nmJxa66e6 : ∀ a, a < 0 → ∀ b, b < 0 → a ≠ b → (TJxa66e6 a).2.1 ≠ (TJxa66e6 b).2.1 := by decide +kernel
theorem tyJxa66e6_ok : ∀ k, k < 0 → parseFieldDescriptor (TJxa66e6 k).2.2.1 = some (tyJxa66e6 k) := by decide +kernel
def RJ8 : String := "jdk/internal/util/ArraysSupport"
def TJ8 : u_T := fun k => match k with
  | _ => ("", "", "", false)
def tyJ8 : Nat → FieldType := fun k => match k with
  | _ => .int
abbrev wsJ80 : List Cond := u_ws RJ8 TJ8 0
theorem nmJ8 : ∀ a, a < 0 → ∀ b, b < 0 → a ≠ b → (TJ8 a).2.1 ≠ (TJ8 b).2.1 := by decide +kernel
theorem tyJ8_ok : ∀ k, k < 0 → parseFieldDescriptor (TJ8 k).2.2.1 = some (tyJ8 k) := by decide +kernel
abbrev cJ8_newLength_cabcc : ByteArray := prog_47_method_27_code
def yJ8_newLength_cabcc : MethodName := ⟨RJ8, "newLength", "(III)I"⟩
abbrev cJ8_hugeLength_7cf53 : ByteArray := prog_47_method_28_code
def yJ8_hugeLength_7cf53 : MethodName := ⟨RJ8, "hugeLength", "(II)I"⟩
def RJ3 : String := "jdk/internal/util/Preconditions"
def TJ3 : u_T := fun k => match k with
  | _ => ("", "", "", false)
def tyJ3 : Nat → FieldType := fun k => match k with
  | _ => .int
abbrev wsJ30 : List Cond := u_ws RJ3 TJ3 0
theorem nmJ3 : ∀ a, a < 0 → ∀ b, b < 0 → a ≠ b → (TJ3 a).2.1 ≠ (TJ3 b).2.1 := by decide +kernel
theorem tyJ3_ok : ∀ k, k < 0 → parseFieldDescriptor (TJ3 k).2.2.1 = some (tyJ3 k) := by decide +kernel
abbrev cJ3_checkIndex_8e157 : ByteArray := prog_48_method_11_code
def yJ3_checkIndex_8e157 : MethodName := ⟨RJ3, "checkIndex", "(IILjava/util/function/BiFunction;)I"⟩
abbrev cJ3_checkFromToIndex_8c36e : ByteArray := prog_48_method_12_code
def yJ3_checkFromToIndex_8c36e : MethodName := ⟨RJ3, "checkFromToIndex", "(IIILjava/util/function/BiFunction;)I"⟩
abbrev cJ3_checkFromIndexSize_8c36e : ByteArray := prog_48_method_13_code
def yJ3_checkFromIndexSize_8c36e : MethodName := ⟨RJ3, "checkFromIndexSize", "(IIILjava/util/function/BiFunction;)I"⟩
def RL : String := "TaxmazeLaw"
abbrev cL_cell : ByteArray := method_2_code
def yL_cell : MethodName := ⟨RL, "cell", "([II)I"⟩
abbrev cL_low : ByteArray := method_3_code
def yL_low : MethodName := ⟨RL, "low", "(II)I"⟩
abbrev cL_contracts : ByteArray := method_4_code
def yL_contracts : MethodName := ⟨RL, "contracts", "(LTaxmaze;IIIIZII)I"⟩
abbrev cL_shifts : ByteArray := method_5_code
def yL_shifts : MethodName := ⟨RL, "shifts", "(LTaxmaze;IIII)I"⟩
abbrev cL_leaves : ByteArray := method_6_code
def yL_leaves : MethodName := ⟨RL, "leaves", "(LTaxmaze;II)I"⟩
abbrev cL_words : ByteArray := method_7_code
def yL_words : MethodName := ⟨RL, "words", "(LTaxmaze;II)I"⟩
abbrev cL_elements : ByteArray := method_8_code
def yL_elements : MethodName := ⟨RL, "elements", "(LTaxmaze;II)I"⟩
abbrev cL_brackets : ByteArray := method_9_code
def yL_brackets : MethodName := ⟨RL, "brackets", "(LTaxmaze;IIIII)I"⟩
abbrev cL_garnishes : ByteArray := method_10_code
def yL_garnishes : MethodName := ⟨RL, "garnishes", "(LTaxmaze;IIIIII)I"⟩
abbrev cL_advances : ByteArray := method_11_code
def yL_advances : MethodName := ⟨RL, "advances", "(LTaxmaze;II)J"⟩
abbrev cL_back : ByteArray := method_12_code
def yL_back : MethodName := ⟨RL, "back", "(LTaxmaze;I)J"⟩
abbrev cL_tell : ByteArray := method_13_code
def yL_tell : MethodName := ⟨RL, "tell", "(LTaxmaze;)[I"⟩
abbrev cL_same : ByteArray := method_14_code
def yL_same : MethodName := ⟨RL, "same", "([I[I)Z"⟩
abbrev cL_asks : ByteArray := method_15_code
def yL_asks : MethodName := ⟨RL, "asks", "(LTaxmaze;II)Z"⟩
abbrev cL_act : ByteArray := method_16_code
def yL_act : MethodName := ⟨RL, "act", "(LTaxmaze;[III)I"⟩
abbrev cL_law : ByteArray := code
def yL_law : MethodName := ⟨RL, "law", "([I)Z"⟩
abbrev vwCl : List vw_C := [(RJ0, TJ0, 4), (RJ4, TJ4, 4), (RJx4a65c, TJx4a65c, 3), (RX0, TX0, 15), (RX1, TX1, 3), (RX3, TX3, 15), (RX4, TX4, 10), (RX5, TX5, 7), (RX6, TX6, 3), (RX7, TX7, 4), (RX8, TX8, 11), (RX9, TX9, 6), (RX10, TX10, 2), (RX11, TX11, 12)]
