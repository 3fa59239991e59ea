def RX0 : String := "HireYard$Bills"
def TX0 : u_T := fun k => match k with
  | 0 => ("HireYard$Bills", "texts", "[LHireYard$Terms;", true)
  | 1 => ("HireYard$Bills", "made", "I", false)
  | 2 => ("HireYard$Bills", "names", "[I", true)
  | _ => ("HireYard$Bills", "stack", "[I", true)
def tyX0 : Nat → FieldType := fun k => match k with
  | 0 => .array (.object "HireYard$Terms")
  | 1 => .int
  | 2 => .array .int
  | _ => .array .int
abbrev wsX00 : List Cond := u_ws RX0 TX0 4
theorem nmX0 : ∀ a, a < 4 → ∀ b, b < 4 → a ≠ b → (TX0 a).2.1 ≠ (TX0 b).2.1 := by decide +kernel
theorem tyX0_ok : ∀ k, k < 4 → parseFieldDescriptor (TX0 k).2.2.1 = some (tyX0 k) := by decide +kernel
abbrev cX0_init : ByteArray := prog_2_method_1_code
def yX0_init : MethodName := ⟨RX0, "<init>", "()V"⟩
abbrev cX0_isFull : ByteArray := prog_2_method_2_code
def yX0_isFull : MethodName := ⟨RX0, "isFull", "()Z"⟩
abbrev cX0_has : ByteArray := prog_2_method_3_code
def yX0_has : MethodName := ⟨RX0, "has", "(I)Z"⟩
abbrev cX0_add : ByteArray := prog_2_method_4_code
def yX0_add : MethodName := ⟨RX0, "add", "(LHireYard$Terms;)I"⟩
abbrev cX0_learn : ByteArray := prog_2_method_5_code
def yX0_learn : MethodName := ⟨RX0, "learn", "(LHireYard$Order;I)V"⟩
abbrev cX0_learnTroubles : ByteArray := prog_2_method_6_code
def yX0_learnTroubles : MethodName := ⟨RX0, "learnTroubles", "(LHireYard$Order;I[ZLHireYard$Log;)V"⟩
abbrev cX0_setDays : ByteArray := prog_2_method_7_code
def yX0_setDays : MethodName := ⟨RX0, "setDays", "(I)V"⟩
abbrev cX0_setAll : ByteArray := prog_2_method_8_code
def yX0_setAll : MethodName := ⟨RX0, "setAll", "(LHireYard$Order;I)V"⟩
abbrev cX0_amount : ByteArray := prog_2_method_9_code
def yX0_amount : MethodName := ⟨RX0, "amount", "(I)I"⟩
abbrev cX0_inForce : ByteArray := prog_2_method_10_code
def yX0_inForce : MethodName := ⟨RX0, "inForce", "(III)I"⟩
def RX1 : String := "HireYard$Kind"
def TX1 : u_T := fun k => match k with
  | 0 => ("HireYard$Kind", "number", "I", true)
  | 1 => ("HireYard$Kind", "weight", "I", true)
  | 2 => ("HireYard$Kind", "lookEvery", "I", true)
  | 3 => ("HireYard$Kind", "rate", "I", true)
  | 4 => ("HireYard$Kind", "paper", "I", true)
  | 5 => ("HireYard$Kind", "worth", "I", true)
  | 6 => ("HireYard$Kind", "costs", "[I", true)
  | _ => ("HireYard$Kind", "goesFor", "[Z", true)
def tyX1 : Nat → FieldType := fun k => match k with
  | 0 => .int
  | 1 => .int
  | 2 => .int
  | 3 => .int
  | 4 => .int
  | 5 => .int
  | 6 => .array .int
  | _ => .array .boolean
abbrev wsX10 : List Cond := u_ws RX1 TX1 8
theorem nmX1 : ∀ a, a < 8 → ∀ b, b < 8 → a ≠ b → (TX1 a).2.1 ≠ (TX1 b).2.1 := by decide +kernel
theorem tyX1_ok : ∀ k, k < 8 → parseFieldDescriptor (TX1 k).2.2.1 = some (tyX1 k) := by decide +kernel
abbrev cX1_init : ByteArray := prog_3_method_1_code
def yX1_init : MethodName := ⟨RX1, "<init>", "(IIIII)V"⟩
abbrev cX1_standsFor : ByteArray := prog_3_method_2_code
def yX1_standsFor : MethodName := ⟨RX1, "standsFor", "(LHireYard$Kind;)Z"⟩
def RX2 : String := "HireYard$Log"
def TX2 : u_T := fun k => match k with
  | 0 => ("HireYard$Log", "trackMachine", "[I", true)
  | 1 => ("HireYard$Log", "trackTown", "[I", true)
  | 2 => ("HireYard$Log", "trackHour", "[I", true)
  | 3 => ("HireYard$Log", "tracks", "I", false)
  | 4 => ("HireYard$Log", "breakMachine", "[I", true)
  | 5 => ("HireYard$Log", "breakFrom", "[I", true)
  | 6 => ("HireYard$Log", "breakTo", "[I", true)
  | _ => ("HireYard$Log", "breaks", "I", false)
def tyX2 : Nat → FieldType := fun k => match k with
  | 0 => .array .int
  | 1 => .array .int
  | 2 => .array .int
  | 3 => .int
  | 4 => .array .int
  | 5 => .array .int
  | 6 => .array .int
  | _ => .int
abbrev wsX20 : List Cond := u_ws RX2 TX2 8
theorem nmX2 : ∀ a, a < 8 → ∀ b, b < 8 → a ≠ b → (TX2 a).2.1 ≠ (TX2 b).2.1 := by decide +kernel
theorem tyX2_ok : ∀ k, k < 8 → parseFieldDescriptor (TX2 k).2.2.1 = some (tyX2 k) := by decide +kernel
abbrev cX2_init : ByteArray := prog_4_method_1_code
def yX2_init : MethodName := ⟨RX2, "<init>", "()V"⟩
abbrev cX2_addTrack : ByteArray := prog_4_method_2_code
def yX2_addTrack : MethodName := ⟨RX2, "addTrack", "(III)I"⟩
abbrev cX2_countsFor : ByteArray := prog_4_method_3_code
def yX2_countsFor : MethodName := ⟨RX2, "countsFor", "(LHireYard$Machine;I)Z"⟩
abbrev cX2_elsewhere : ByteArray := prog_4_method_4_code
def yX2_elsewhere : MethodName := ⟨RX2, "elsewhere", "(LHireYard$Machine;)I"⟩
abbrev cX2_firstElsewhere : ByteArray := prog_4_method_5_code
def yX2_firstElsewhere : MethodName := ⟨RX2, "firstElsewhere", "(LHireYard$Machine;)I"⟩
abbrev cX2_lastThere : ByteArray := prog_4_method_6_code
def yX2_lastThere : MethodName := ⟨RX2, "lastThere", "(LHireYard$Machine;)I"⟩
abbrev cX2_beginBreak : ByteArray := prog_4_method_7_code
def yX2_beginBreak : MethodName := ⟨RX2, "beginBreak", "(II)Z"⟩
abbrev cX2_endBreak : ByteArray := prog_4_method_8_code
def yX2_endBreak : MethodName := ⟨RX2, "endBreak", "(II)V"⟩
abbrev cX2_hoursBroken : ByteArray := prog_4_method_9_code
def yX2_hoursBroken : MethodName := ⟨RX2, "hoursBroken", "(III)I"⟩
def RX3 : String := "HireYard$Lorry"
def TX3 : u_T := fun k => match k with
  | 0 => ("HireYard$Lorry", "stops", "[LHireYard$Machine;", true)
  | 1 => ("HireYard$Lorry", "size", "I", false)
  | 2 => ("HireYard$Lorry", "row", "[LHireYard$Machine;", true)
  | 3 => ("HireYard$Lorry", "rowSize", "I", false)
  | _ => ("HireYard$Lorry", "turn", "[I", true)
def tyX3 : Nat → FieldType := fun k => match k with
  | 0 => .array (.object "HireYard$Machine")
  | 1 => .int
  | 2 => .array (.object "HireYard$Machine")
  | 3 => .int
  | _ => .array .int
abbrev wsX30 : List Cond := u_ws RX3 TX3 5
theorem nmX3 : ∀ a, a < 5 → ∀ b, b < 5 → a ≠ b → (TX3 a).2.1 ≠ (TX3 b).2.1 := by decide +kernel
theorem tyX3_ok : ∀ k, k < 5 → parseFieldDescriptor (TX3 k).2.2.1 = some (tyX3 k) := by decide +kernel
abbrev cX3_init : ByteArray := prog_5_method_1_code
def yX3_init : MethodName := ⟨RX3, "<init>", "()V"⟩
abbrev cX3_isPromised : ByteArray := prog_5_method_2_code
def yX3_isPromised : MethodName := ⟨RX3, "isPromised", "(LHireYard$Machine;)Z"⟩
abbrev cX3_joins : ByteArray := prog_5_method_3_code
def yX3_joins : MethodName := ⟨RX3, "joins", "(LHireYard$Machine;)Z"⟩
abbrev cX3_add : ByteArray := prog_5_method_4_code
def yX3_add : MethodName := ⟨RX3, "add", "(LHireYard$Machine;)I"⟩
abbrev cX3_drive : ByteArray := prog_5_method_5_code
def yX3_drive : MethodName := ⟨RX3, "drive", "(LHireYard$Roads;)I"⟩
abbrev cX3_rowAt : ByteArray := prog_5_method_6_code
def yX3_rowAt : MethodName := ⟨RX3, "rowAt", "(I)LHireYard$Machine;"⟩
abbrev cX3_dropOthers : ByteArray := prog_5_method_7_code
def yX3_dropOthers : MethodName := ⟨RX3, "dropOthers", "()V"⟩
abbrev cX3_weight : ByteArray := prog_5_method_8_code
def yX3_weight : MethodName := ⟨RX3, "weight", "(I)I"⟩
abbrev cX3_sortByNumber : ByteArray := prog_5_method_9_code
def yX3_sortByNumber : MethodName := ⟨RX3, "sortByNumber", "(I)V"⟩
abbrev cX3_rowMiles : ByteArray := prog_5_method_10_code
def yX3_rowMiles : MethodName := ⟨RX3, "rowMiles", "(LHireYard$Roads;II)I"⟩
abbrev cX3_customerTown : ByteArray := prog_5_method_11_code
def yX3_customerTown : MethodName := ⟨RX3, "customerTown", "(I)I"⟩
abbrev cX3_keepRow : ByteArray := prog_5_method_12_code
def yX3_keepRow : MethodName := ⟨RX3, "keepRow", "(I)V"⟩
abbrev cX3_nextTurn : ByteArray := prog_5_method_13_code
def yX3_nextTurn : MethodName := ⟨RX3, "nextTurn", "(I)Z"⟩
abbrev cX3_swapTurns : ByteArray := prog_5_method_14_code
def yX3_swapTurns : MethodName := ⟨RX3, "swapTurns", "(II)V"⟩
def RX4 : String := "HireYard$Machine"
def TX4 : u_T := fun k => match k with
  | 0 => ("HireYard$Machine", "number", "I", true)
  | 1 => ("HireYard$Machine", "kind", "LHireYard$Kind;", true)
  | 2 => ("HireYard$Machine", "meter", "LHireYard$Meter;", true)
  | 3 => ("HireYard$Machine", "where", "I", false)
  | 4 => ("HireYard$Machine", "town", "I", false)
  | 5 => ("HireYard$Machine", "state", "I", false)
  | 6 => ("HireYard$Machine", "till", "I", false)
  | 7 => ("HireYard$Machine", "since", "I", false)
  | 8 => ("HireYard$Machine", "meterAtLook", "I", false)
  | 9 => ("HireYard$Machine", "order", "LHireYard$Order;", false)
  | 10 => ("HireYard$Machine", "lastSent", "LHireYard$Order;", false)
  | 11 => ("HireYard$Machine", "lostFrom", "I", false)
  | 12 => ("HireYard$Machine", "lostAt", "I", false)
  | 13 => ("HireYard$Machine", "owners", "[I", true)
  | 14 => ("HireYard$Machine", "rates", "[I", true)
  | _ => ("HireYard$Machine", "links", "I", false)
def tyX4 : Nat → FieldType := fun k => match k with
  | 0 => .int
  | 1 => .object "HireYard$Kind"
  | 2 => .object "HireYard$Meter"
  | 3 => .int
  | 4 => .int
  | 5 => .int
  | 6 => .int
  | 7 => .int
  | 8 => .int
  | 9 => .object "HireYard$Order"
  | 10 => .object "HireYard$Order"
  | 11 => .int
  | 12 => .int
  | 13 => .array .int
  | 14 => .array .int
  | _ => .int
abbrev wsX40 : List Cond := u_ws RX4 TX4 16
theorem nmX4 : ∀ a, a < 16 → ∀ b, b < 16 → a ≠ b → (TX4 a).2.1 ≠ (TX4 b).2.1 := by decide +kernel
theorem tyX4_ok : ∀ k, k < 16 → parseFieldDescriptor (TX4 k).2.2.1 = some (tyX4 k) := by decide +kernel
abbrev cX4_init : ByteArray := prog_6_method_1_code
def yX4_init : MethodName := ⟨RX4, "<init>", "(ILHireYard$Kind;III)V"⟩
abbrev cX4_isFree : ByteArray := prog_6_method_2_code
def yX4_isFree : MethodName := ⟨RX4, "isFree", "()Z"⟩
abbrev cX4_sinceLook : ByteArray := prog_6_method_3_code
def yX4_sinceLook : MethodName := ⟨RX4, "sinceLook", "()I"⟩
abbrev cX4_hoursToLook : ByteArray := prog_6_method_4_code
def yX4_hoursToLook : MethodName := ⟨RX4, "hoursToLook", "()I"⟩
abbrev cX4_lookDue : ByteArray := prog_6_method_5_code
def yX4_lookDue : MethodName := ⟨RX4, "lookDue", "()Z"⟩
abbrev cX4_lookLapses : ByteArray := prog_6_method_6_code
def yX4_lookLapses : MethodName := ⟨RX4, "lookLapses", "(I)Z"⟩
abbrev cX4_beginLook : ByteArray := prog_6_method_7_code
def yX4_beginLook : MethodName := ⟨RX4, "beginLook", "(I)V"⟩
abbrev cX4_load : ByteArray := prog_6_method_8_code
def yX4_load : MethodName := ⟨RX4, "load", "(III)V"⟩
abbrev cX4_settle : ByteArray := prog_6_method_9_code
def yX4_settle : MethodName := ⟨RX4, "settle", "(I)V"⟩
abbrev cX4_leave : ByteArray := prog_6_method_10_code
def yX4_leave : MethodName := ⟨RX4, "leave", "(II)V"⟩
abbrev cX4_addLink : ByteArray := prog_6_method_11_code
def yX4_addLink : MethodName := ⟨RX4, "addLink", "(II)I"⟩
abbrev cX4_ownerOf : ByteArray := prog_6_method_12_code
def yX4_ownerOf : MethodName := ⟨RX4, "ownerOf", "(I)I"⟩
abbrev cX4_rateOf : ByteArray := prog_6_method_13_code
def yX4_rateOf : MethodName := ⟨RX4, "rateOf", "(I)I"⟩
def RX5 : String := "HireYard$Match"
def TX5 : u_T := fun k => match k with
  | 0 => ("HireYard$Match", "list", "[LHireYard$Order;", true)
  | 1 => ("HireYard$Match", "listed", "I", false)
  | 2 => ("HireYard$Match", "miles", "I", false)
  | 3 => ("HireYard$Match", "cheapest", "[J", true)
  | _ => ("HireYard$Match", "costs", "[J", true)
def tyX5 : Nat → FieldType := fun k => match k with
  | 0 => .array (.object "HireYard$Order")
  | 1 => .int
  | 2 => .int
  | 3 => .array .long
  | _ => .array .long
abbrev wsX50 : List Cond := u_ws RX5 TX5 5
theorem nmX5 : ∀ a, a < 5 → ∀ b, b < 5 → a ≠ b → (TX5 a).2.1 ≠ (TX5 b).2.1 := by decide +kernel
theorem tyX5_ok : ∀ k, k < 5 → parseFieldDescriptor (TX5 k).2.2.1 = some (tyX5 k) := by decide +kernel
abbrev cX5_init : ByteArray := prog_7_method_1_code
def yX5_init : MethodName := ⟨RX5, "<init>", "()V"⟩
abbrev cX5_isListed : ByteArray := prog_7_method_2_code
def yX5_isListed : MethodName := ⟨RX5, "isListed", "(LHireYard$Order;)Z"⟩
abbrev cX5_add : ByteArray := prog_7_method_3_code
def yX5_add : MethodName := ⟨RX5, "add", "(LHireYard$Order;)I"⟩
abbrev cX5_begin : ByteArray := prog_7_method_4_code
def yX5_begin : MethodName := ⟨RX5, "begin", "()V"⟩
abbrev cX5_offer : ByteArray := prog_7_method_5_code
def yX5_offer : MethodName := ⟨RX5, "offer", "(LHireYard$Machine;ILHireYard$Roads;)V"⟩
abbrev cX5_costOf : ByteArray := prog_7_method_6_code
def yX5_costOf : MethodName := ⟨RX5, "costOf", "(LHireYard$Order;ILHireYard$Machine;ILHireYard$Roads;)J"⟩
abbrev cX5_leastCost : ByteArray := prog_7_method_7_code
def yX5_leastCost : MethodName := ⟨RX5, "leastCost", "()J"⟩
abbrev cX5_promise : ByteArray := prog_7_method_8_code
def yX5_promise : MethodName := ⟨RX5, "promise", "([LHireYard$Machine;LHireYard$Roads;)I"⟩
def RX6 : String := "HireYard$Meter"
def TX6 : u_T := fun k => match k with
  | 0 => ("HireYard$Meter", "hours", "[I", false)
  | 1 => ("HireYard$Meter", "values", "[I", false)
  | 2 => ("HireYard$Meter", "size", "I", false)
  | _ => ("HireYard$Meter", "asItCame", "Z", false)
def tyX6 : Nat → FieldType := fun k => match k with
  | 0 => .array .int
  | 1 => .array .int
  | 2 => .int
  | _ => .boolean
abbrev wsX60 : List Cond := u_ws RX6 TX6 4
theorem nmX6 : ∀ a, a < 4 → ∀ b, b < 4 → a ≠ b → (TX6 a).2.1 ≠ (TX6 b).2.1 := by decide +kernel
theorem tyX6_ok : ∀ k, k < 4 → parseFieldDescriptor (TX6 k).2.2.1 = some (tyX6 k) := by decide +kernel
abbrev cX6_init : ByteArray := prog_8_method_1_code
def yX6_init : MethodName := ⟨RX6, "<init>", "(II)V"⟩
abbrev cX6_size : ByteArray := prog_8_method_2_code
def yX6_size : MethodName := ⟨RX6, "size", "()I"⟩
abbrev cX6_last : ByteArray := prog_8_method_3_code
def yX6_last : MethodName := ⟨RX6, "last", "()I"⟩
abbrev cX6_valueAt : ByteArray := prog_8_method_4_code
def yX6_valueAt : MethodName := ⟨RX6, "valueAt", "(I)I"⟩
abbrev cX6_toldAt : ByteArray := prog_8_method_5_code
def yX6_toldAt : MethodName := ⟨RX6, "toldAt", "(I)Z"⟩
abbrev cX6_isAnother : ByteArray := prog_8_method_6_code
def yX6_isAnother : MethodName := ⟨RX6, "isAnother", "(I)Z"⟩
abbrev cX6_tell : ByteArray := prog_8_method_7_code
def yX6_tell : MethodName := ⟨RX6, "tell", "(II)V"⟩
abbrev cX6_grow : ByteArray := prog_8_method_8_code
def yX6_grow : MethodName := ⟨RX6, "grow", "()V"⟩
abbrev cX6_latestUpTo : ByteArray := prog_8_method_9_code
def yX6_latestUpTo : MethodName := ⟨RX6, "latestUpTo", "(I)I"⟩
abbrev cX6_earliestFrom : ByteArray := prog_8_method_10_code
def yX6_earliestFrom : MethodName := ⟨RX6, "earliestFrom", "(I)I"⟩
def RX7 : String := "HireYard$Order"
def TX7 : u_T := fun k => match k with
  | 0 => ("HireYard$Order", "number", "I", true)
  | 1 => ("HireYard$Order", "from", "I", true)
  | 2 => ("HireYard$Order", "length", "I", true)
  | 3 => ("HireYard$Order", "work", "I", true)
  | 4 => ("HireYard$Order", "came", "I", true)
  | 5 => ("HireYard$Order", "kind", "LHireYard$Kind;", true)
  | 6 => ("HireYard$Order", "customer", "I", false)
  | 7 => ("HireYard$Order", "town", "I", false)
  | 8 => ("HireYard$Order", "papers", "I", false)
  | 9 => ("HireYard$Order", "state", "I", false)
  | 10 => ("HireYard$Order", "machine", "LHireYard$Machine;", false)
  | 11 => ("HireYard$Order", "begin", "I", false)
  | 12 => ("HireYard$Order", "ended", "I", false)
  | 13 => ("HireYard$Order", "saidNot", "[Z", true)
  | 14 => ("HireYard$Order", "marks", "[I", true)
  | _ => ("HireYard$Order", "litres", "[I", true)
def tyX7 : Nat → FieldType := fun k => match k with
  | 0 => .int
  | 1 => .int
  | 2 => .int
  | 3 => .int
  | 4 => .int
  | 5 => .object "HireYard$Kind"
  | 6 => .int
  | 7 => .int
  | 8 => .int
  | 9 => .int
  | 10 => .object "HireYard$Machine"
  | 11 => .int
  | 12 => .int
  | 13 => .array .boolean
  | 14 => .array .int
  | _ => .array .int
abbrev wsX70 : List Cond := u_ws RX7 TX7 16
theorem nmX7 : ∀ a, a < 16 → ∀ b, b < 16 → a ≠ b → (TX7 a).2.1 ≠ (TX7 b).2.1 := by decide +kernel
theorem tyX7_ok : ∀ k, k < 16 → parseFieldDescriptor (TX7 k).2.2.1 = some (tyX7 k) := by decide +kernel
abbrev cX7_init : ByteArray := prog_9_method_1_code
def yX7_init : MethodName := ⟨RX7, "<init>", "(ILHireYard$Kind;IIII)V"⟩
abbrev cX7_objection : ByteArray := prog_9_method_2_code
def yX7_objection : MethodName := ⟨RX7, "objection", "(LHireYard$Machine;ILHireYard$Roads;)I"⟩
abbrev cX7_begun : ByteArray := prog_9_method_3_code
def yX7_begun : MethodName := ⟨RX7, "begun", "(I)Z"⟩
abbrev cX7_isSubstitute : ByteArray := prog_9_method_4_code
def yX7_isSubstitute : MethodName := ⟨RX7, "isSubstitute", "()Z"⟩
abbrev cX7_promise : ByteArray := prog_9_method_5_code
def yX7_promise : MethodName := ⟨RX7, "promise", "(LHireYard$Machine;)V"⟩
abbrev cX7_finish : ByteArray := prog_9_method_6_code
def yX7_finish : MethodName := ⟨RX7, "finish", "(I)V"⟩
abbrev cX7_loseMachine : ByteArray := prog_9_method_7_code
def yX7_loseMachine : MethodName := ⟨RX7, "loseMachine", "(I)V"⟩
abbrev cX7_endBy : ByteArray := prog_9_method_8_code
def yX7_endBy : MethodName := ⟨RX7, "endBy", "(I)I"⟩
abbrev cX7_dayCount : ByteArray := prog_9_method_9_code
def yX7_dayCount : MethodName := ⟨RX7, "dayCount", "(I)I"⟩
abbrev cX7_knownOfDay : ByteArray := prog_9_method_10_code
def yX7_knownOfDay : MethodName := ⟨RX7, "knownOfDay", "(II)I"⟩
abbrev cX7_daysWorked : ByteArray := prog_9_method_11_code
def yX7_daysWorked : MethodName := ⟨RX7, "daysWorked", "(II)I"⟩
abbrev cX7_hoursWorked : ByteArray := prog_9_method_12_code
def yX7_hoursWorked : MethodName := ⟨RX7, "hoursWorked", "(I)I"⟩
abbrev cX7_mayTell : ByteArray := prog_9_method_13_code
def yX7_mayTell : MethodName := ⟨RX7, "mayTell", "(I)Z"⟩
abbrev cX7_tell : ByteArray := prog_9_method_14_code
def yX7_tell : MethodName := ⟨RX7, "tell", "([III)I"⟩
abbrev cX7_newMarks : ByteArray := prog_9_method_15_code
def yX7_newMarks : MethodName := ⟨RX7, "newMarks", "()I"⟩
abbrev cX7_harmCoins : ByteArray := prog_9_method_16_code
def yX7_harmCoins : MethodName := ⟨RX7, "harmCoins", "()I"⟩
abbrev cX7_litresMissing : ByteArray := prog_9_method_17_code
def yX7_litresMissing : MethodName := ⟨RX7, "litresMissing", "()I"⟩
def RX8 : String := "HireYard$Roads"
def TX8 : u_T := fun k => match k with
  | 0 => ("HireYard$Roads", "yards", "[Z", true)
  | 1 => ("HireYard$Roads", "told", "[[I", true)
  | 2 => ("HireYard$Roads", "least", "[[I", true)
  | _ => ("HireYard$Roads", "towns", "I", false)
def tyX8 : Nat → FieldType := fun k => match k with
  | 0 => .array .boolean
  | 1 => .array (.array .int)
  | 2 => .array (.array .int)
  | _ => .int
abbrev wsX80 : List Cond := u_ws RX8 TX8 4
theorem nmX8 : ∀ a, a < 4 → ∀ b, b < 4 → a ≠ b → (TX8 a).2.1 ≠ (TX8 b).2.1 := by decide +kernel
theorem tyX8_ok : ∀ k, k < 4 → parseFieldDescriptor (TX8 k).2.2.1 = some (tyX8 k) := by decide +kernel
abbrev cX8_init : ByteArray := prog_10_method_1_code
def yX8_init : MethodName := ⟨RX8, "<init>", "()V"⟩
abbrev cX8_found : ByteArray := prog_10_method_2_code
def yX8_found : MethodName := ⟨RX8, "found", "(I)I"⟩
abbrev cX8_has : ByteArray := prog_10_method_3_code
def yX8_has : MethodName := ⟨RX8, "has", "(I)Z"⟩
abbrev cX8_hasYard : ByteArray := prog_10_method_4_code
def yX8_hasYard : MethodName := ⟨RX8, "hasYard", "(I)Z"⟩
abbrev cX8_lay : ByteArray := prog_10_method_5_code
def yX8_lay : MethodName := ⟨RX8, "lay", "(III)I"⟩
abbrev cX8_shorten : ByteArray := prog_10_method_6_code
def yX8_shorten : MethodName := ⟨RX8, "shorten", "(IIIII)V"⟩
abbrev cX8_way : ByteArray := prog_10_method_7_code
def yX8_way : MethodName := ⟨RX8, "way", "(II)I"⟩
abbrev cX8_rideHours : ByteArray := prog_10_method_8_code
def yX8_rideHours : MethodName := ⟨RX8, "rideHours", "(II)I"⟩
def RX9 : String := "HireYard$Tape"
def TX9 : u_T := fun k => match k with
  | 0 => ("HireYard$Tape", "bytes", "[I", true)
  | 1 => ("HireYard$Tape", "length", "I", false)
  | 2 => ("HireYard$Tape", "sorts", "[I", true)
  | 3 => ("HireYard$Tape", "values", "[I", true)
  | 4 => ("HireYard$Tape", "places", "[I", true)
  | 5 => ("HireYard$Tape", "tokens", "I", false)
  | 6 => ("HireYard$Tape", "at", "I", false)
  | 7 => ("HireYard$Tape", "fault", "I", false)
  | 8 => ("HireYard$Tape", "code", "[I", true)
  | _ => ("HireYard$Tape", "codeLength", "I", false)
def tyX9 : Nat → FieldType := fun k => match k with
  | 0 => .array .int
  | 1 => .int
  | 2 => .array .int
  | 3 => .array .int
  | 4 => .array .int
  | 5 => .int
  | 6 => .int
  | 7 => .int
  | 8 => .array .int
  | _ => .int
abbrev wsX90 : List Cond := u_ws RX9 TX9 10
theorem nmX9 : ∀ a, a < 10 → ∀ b, b < 10 → a ≠ b → (TX9 a).2.1 ≠ (TX9 b).2.1 := by decide +kernel
theorem tyX9_ok : ∀ k, k < 10 → parseFieldDescriptor (TX9 k).2.2.1 = some (tyX9 k) := by decide +kernel
abbrev cX9_init : ByteArray := prog_11_method_1_code
def yX9_init : MethodName := ⟨RX9, "<init>", "()V"⟩
abbrev cX9_hasRoom : ByteArray := prog_11_method_2_code
def yX9_hasRoom : MethodName := ⟨RX9, "hasRoom", "()Z"⟩
abbrev cX9_append : ByteArray := prog_11_method_3_code
def yX9_append : MethodName := ⟨RX9, "append", "(I)V"⟩
abbrev cX9_compile : ByteArray := prog_11_method_4_code
def yX9_compile : MethodName := ⟨RX9, "compile", "()I"⟩
abbrev cX9_copyOfCode : ByteArray := prog_11_method_5_code
def yX9_copyOfCode : MethodName := ⟨RX9, "copyOfCode", "()[I"⟩
abbrev cX9_cut : ByteArray := prog_11_method_6_code
def yX9_cut : MethodName := ⟨RX9, "cut", "()V"⟩
abbrev cX9_isLetter : ByteArray := prog_11_method_7_code
def yX9_isLetter : MethodName := ⟨RX9, "isLetter", "(I)Z"⟩
abbrev cX9_isDigit : ByteArray := prog_11_method_8_code
def yX9_isDigit : MethodName := ⟨RX9, "isDigit", "(I)Z"⟩
abbrev cX9_addToken : ByteArray := prog_11_method_9_code
def yX9_addToken : MethodName := ⟨RX9, "addToken", "(III)V"⟩
abbrev cX9_numberOf : ByteArray := prog_11_method_10_code
def yX9_numberOf : MethodName := ⟨RX9, "numberOf", "(II)I"⟩
abbrev cX9_wordSort : ByteArray := prog_11_method_11_code
def yX9_wordSort : MethodName := ⟨RX9, "wordSort", "(II)I"⟩
abbrev cX9_sort : ByteArray := prog_11_method_12_code
def yX9_sort : MethodName := ⟨RX9, "sort", "()I"⟩
abbrev cX9_take : ByteArray := prog_11_method_13_code
def yX9_take : MethodName := ⟨RX9, "take", "(I)Z"⟩
abbrev cX9_need : ByteArray := prog_11_method_14_code
def yX9_need : MethodName := ⟨RX9, "need", "(I)V"⟩
abbrev cX9_fail : ByteArray := prog_11_method_15_code
def yX9_fail : MethodName := ⟨RX9, "fail", "()V"⟩
abbrev cX9_number : ByteArray := prog_11_method_16_code
def yX9_number : MethodName := ⟨RX9, "number", "()I"⟩
abbrev cX9_emit : ByteArray := prog_11_method_17_code
def yX9_emit : MethodName := ⟨RX9, "emit", "(I)V"⟩
abbrev cX9_step : ByteArray := prog_11_method_18_code
def yX9_step : MethodName := ⟨RX9, "step", "()V"⟩
abbrev cX9_sum : ByteArray := prog_11_method_19_code
def yX9_sum : MethodName := ⟨RX9, "sum", "(I)V"⟩
abbrev cX9_product : ByteArray := prog_11_method_20_code
def yX9_product : MethodName := ⟨RX9, "product", "(I)V"⟩
abbrev cX9_operand : ByteArray := prog_11_method_21_code
def yX9_operand : MethodName := ⟨RX9, "operand", "(I)V"⟩
def RX10 : String := "HireYard$Terms"
def TX10 : u_T := fun k => match k with
  | 0 => ("HireYard$Terms", "use", "I", true)
  | 1 => ("HireYard$Terms", "from", "I", true)
  | 2 => ("HireYard$Terms", "made", "I", true)
  | _ => ("HireYard$Terms", "code", "[I", true)
def tyX10 : Nat → FieldType := fun k => match k with
  | 0 => .int
  | 1 => .int
  | 2 => .int
  | _ => .array .int
abbrev wsX100 : List Cond := u_ws RX10 TX10 4
theorem nmX10 : ∀ a, a < 4 → ∀ b, b < 4 → a ≠ b → (TX10 a).2.1 ≠ (TX10 b).2.1 := by decide +kernel
theorem tyX10_ok : ∀ k, k < 4 → parseFieldDescriptor (TX10 k).2.2.1 = some (tyX10 k) := by decide +kernel
abbrev cX10_init : ByteArray := prog_12_method_1_code
def yX10_init : MethodName := ⟨RX10, "<init>", "(III[I)V"⟩
abbrev cX10_inForce : ByteArray := prog_12_method_2_code
def yX10_inForce : MethodName := ⟨RX10, "inForce", "(III)Z"⟩
abbrev cX10_give : ByteArray := prog_12_method_3_code
def yX10_give : MethodName := ⟨RX10, "give", "([I[I)I"⟩
abbrev cX10_run : ByteArray := prog_12_method_4_code
def yX10_run : MethodName := ⟨RX10, "run", "(II[I[I)I"⟩
abbrev cX10_work : ByteArray := prog_12_method_5_code
def yX10_work : MethodName := ⟨RX10, "work", "(III)I"⟩
def RX11 : String := "HireYard"
def TX11 : u_T := fun k => match k with
  | 0 => ("HireYard", "hour", "I", false)
  | 1 => ("HireYard", "readings", "I", false)
  | 2 => ("HireYard", "rainy", "[Z", true)
  | 3 => ("HireYard", "roads", "LHireYard$Roads;", true)
  | 4 => ("HireYard", "kinds", "[LHireYard$Kind;", true)
  | 5 => ("HireYard", "kindCount", "I", false)
  | 6 => ("HireYard", "machines", "[LHireYard$Machine;", true)
  | 7 => ("HireYard", "machineCount", "I", false)
  | 8 => ("HireYard", "customerTowns", "[I", true)
  | 9 => ("HireYard", "customerPapers", "[I", true)
  | 10 => ("HireYard", "customerCount", "I", false)
  | 11 => ("HireYard", "orders", "[LHireYard$Order;", true)
  | 12 => ("HireYard", "orderCount", "I", false)
  | 13 => ("HireYard", "log", "LHireYard$Log;", true)
  | 14 => ("HireYard", "match", "LHireYard$Match;", true)
  | 15 => ("HireYard", "lorry", "LHireYard$Lorry;", true)
  | 16 => ("HireYard", "tape", "LHireYard$Tape;", true)
  | _ => ("HireYard", "bills", "LHireYard$Bills;", true)
def tyX11 : Nat → FieldType := fun k => match k with
  | 0 => .int
  | 1 => .int
  | 2 => .array .boolean
  | 3 => .object "HireYard$Roads"
  | 4 => .array (.object "HireYard$Kind")
  | 5 => .int
  | 6 => .array (.object "HireYard$Machine")
  | 7 => .int
  | 8 => .array .int
  | 9 => .array .int
  | 10 => .int
  | 11 => .array (.object "HireYard$Order")
  | 12 => .int
  | 13 => .object "HireYard$Log"
  | 14 => .object "HireYard$Match"
  | 15 => .object "HireYard$Lorry"
  | 16 => .object "HireYard$Tape"
  | _ => .object "HireYard$Bills"
abbrev wsX110 : List Cond := u_ws RX11 TX11 18
theorem nmX11 : ∀ a, a < 18 → ∀ b, b < 18 → a ≠ b → (TX11 a).2.1 ≠ (TX11 b).2.1 := by decide +kernel
theorem tyX11_ok : ∀ k, k < 18 → parseFieldDescriptor (TX11 k).2.2.1 = some (tyX11 k) := by decide +kernel
abbrev cX11_init : ByteArray := prog_1_method_1_code
def yX11_init : MethodName := ⟨RX11, "<init>", "()V"⟩
abbrev cX11_town : ByteArray := prog_1_method_2_code
def yX11_town : MethodName := ⟨RX11, "town", "(I)I"⟩
abbrev cX11_road : ByteArray := prog_1_method_3_code
def yX11_road : MethodName := ⟨RX11, "road", "(III)I"⟩
abbrev cX11_far : ByteArray := prog_1_method_4_code
def yX11_far : MethodName := ⟨RX11, "far", "(II)I"⟩
abbrev cX11_hours : ByteArray := prog_1_method_5_code
def yX11_hours : MethodName := ⟨RX11, "hours", "(I)I"⟩
abbrev cX11_rain : ByteArray := prog_1_method_6_code
def yX11_rain : MethodName := ⟨RX11, "rain", "(II)I"⟩
abbrev cX11_type : ByteArray := prog_1_method_7_code
def yX11_type : MethodName := ⟨RX11, "type", "(IIII)I"⟩
abbrev cX11_instead : ByteArray := prog_1_method_8_code
def yX11_instead : MethodName := ⟨RX11, "instead", "(III)I"⟩
abbrev cX11_mark : ByteArray := prog_1_method_9_code
def yX11_mark : MethodName := ⟨RX11, "mark", "(III)I"⟩
abbrev cX11_machine : ByteArray := prog_1_method_10_code
def yX11_machine : MethodName := ⟨RX11, "machine", "(III)I"⟩
abbrev cX11_link : ByteArray := prog_1_method_11_code
def yX11_link : MethodName := ⟨RX11, "link", "(III)I"⟩
abbrev cX11_ofMachine : ByteArray := prog_1_method_12_code
def yX11_ofMachine : MethodName := ⟨RX11, "ofMachine", "(II)I"⟩
abbrev cX11_look : ByteArray := prog_1_method_13_code
def yX11_look : MethodName := ⟨RX11, "look", "(II)I"⟩
abbrev cX11_broken : ByteArray := prog_1_method_14_code
def yX11_broken : MethodName := ⟨RX11, "broken", "(II)I"⟩
abbrev cX11_gone : ByteArray := prog_1_method_15_code
def yX11_gone : MethodName := ⟨RX11, "gone", "(II)I"⟩
abbrev cX11_read : ByteArray := prog_1_method_16_code
def yX11_read : MethodName := ⟨RX11, "read", "(II)I"⟩
abbrev cX11_track : ByteArray := prog_1_method_17_code
def yX11_track : MethodName := ⟨RX11, "track", "(II)I"⟩
abbrev cX11_theft : ByteArray := prog_1_method_18_code
def yX11_theft : MethodName := ⟨RX11, "theft", "(II)I"⟩
abbrev cX11_customer : ByteArray := prog_1_method_19_code
def yX11_customer : MethodName := ⟨RX11, "customer", "(II)I"⟩
abbrev cX11_order : ByteArray := prog_1_method_20_code
def yX11_order : MethodName := ⟨RX11, "order", "(IIIII)I"⟩
abbrev cX11_why : ByteArray := prog_1_method_21_code
def yX11_why : MethodName := ⟨RX11, "why", "(II)I"⟩
abbrev cX11_list : ByteArray := prog_1_method_22_code
def yX11_list : MethodName := ⟨RX11, "list", "(I)I"⟩
abbrev cX11_best : ByteArray := prog_1_method_23_code
def yX11_best : MethodName := ⟨RX11, "best", "()I"⟩
abbrev cX11_miles : ByteArray := prog_1_method_24_code
def yX11_miles : MethodName := ⟨RX11, "miles", "()I"⟩
abbrev cX11_round : ByteArray := prog_1_method_25_code
def yX11_round : MethodName := ⟨RX11, "round", "()I"⟩
abbrev cX11_stop : ByteArray := prog_1_method_26_code
def yX11_stop : MethodName := ⟨RX11, "stop", "(I)I"⟩
abbrev cX11_stopped : ByteArray := prog_1_method_27_code
def yX11_stopped : MethodName := ⟨RX11, "stopped", "(I)I"⟩
abbrev cX11_send : ByteArray := prog_1_method_28_code
def yX11_send : MethodName := ⟨RX11, "send", "(I)I"⟩
abbrev cX11_fetch : ByteArray := prog_1_method_29_code
def yX11_fetch : MethodName := ⟨RX11, "fetch", "(II)I"⟩
abbrev cX11_off : ByteArray := prog_1_method_30_code
def yX11_off : MethodName := ⟨RX11, "off", "(I)I"⟩
abbrev cX11_ofOrder : ByteArray := prog_1_method_31_code
def yX11_ofOrder : MethodName := ⟨RX11, "ofOrder", "(II)I"⟩
abbrev cX11_said : ByteArray := prog_1_method_32_code
def yX11_said : MethodName := ⟨RX11, "said", "(III)I"⟩
abbrev cX11_days : ByteArray := prog_1_method_33_code
def yX11_days : MethodName := ⟨RX11, "days", "(II)I"⟩
abbrev cX11_dayOf : ByteArray := prog_1_method_34_code
def yX11_dayOf : MethodName := ⟨RX11, "dayOf", "(II)I"⟩
abbrev cX11_feed : ByteArray := prog_1_method_35_code
def yX11_feed : MethodName := ⟨RX11, "feed", "(IIIII)I"⟩
abbrev cX11_end : ByteArray := prog_1_method_36_code
def yX11_end : MethodName := ⟨RX11, "end", "(I)I"⟩
abbrev cX11_terms : ByteArray := prog_1_method_37_code
def yX11_terms : MethodName := ⟨RX11, "terms", "(II)I"⟩
abbrev cX11_gives : ByteArray := prog_1_method_38_code
def yX11_gives : MethodName := ⟨RX11, "gives", "(III)I"⟩
abbrev cX11_bill : ByteArray := prog_1_method_39_code
def yX11_bill : MethodName := ⟨RX11, "bill", "(III)I"⟩
abbrev cX11_next : ByteArray := prog_1_method_40_code
def yX11_next : MethodName := ⟨RX11, "next", "(II)I"⟩
abbrev cX11_looked : ByteArray := prog_1_method_41_code
def yX11_looked : MethodName := ⟨RX11, "looked", "(III)I"⟩
abbrev cX11_fuel : ByteArray := prog_1_method_42_code
def yX11_fuel : MethodName := ⟨RX11, "fuel", "(III)I"⟩
abbrev cX11_harm : ByteArray := prog_1_method_43_code
def yX11_harm : MethodName := ⟨RX11, "harm", "(II)I"⟩
abbrev cX11_share : ByteArray := prog_1_method_44_code
def yX11_share : MethodName := ⟨RX11, "share", "(II)I"⟩
abbrev cX11_chain : ByteArray := prog_1_method_45_code
def yX11_chain : MethodName := ⟨RX11, "chain", "(III)I"⟩
abbrev cX11_rank : ByteArray := prog_1_method_46_code
def yX11_rank : MethodName := ⟨RX11, "rank", "(II)I"⟩
abbrev cX11_idle : ByteArray := prog_1_method_47_code
def yX11_idle : MethodName := ⟨RX11, "idle", "(III)I"⟩
abbrev cX11_move : ByteArray := prog_1_method_48_code
def yX11_move : MethodName := ⟨RX11, "move", "(I)I"⟩
abbrev cX11_count : ByteArray := prog_1_method_49_code
def yX11_count : MethodName := ⟨RX11, "count", "(I)I"⟩
abbrev cX11_within : ByteArray := prog_1_method_50_code
def yX11_within : MethodName := ⟨RX11, "within", "(III)Z"⟩
abbrev cX11_isFlag : ByteArray := prog_1_method_51_code
def yX11_isFlag : MethodName := ⟨RX11, "isFlag", "(I)Z"⟩
abbrev cX11_kindOf : ByteArray := prog_1_method_52_code
def yX11_kindOf : MethodName := ⟨RX11, "kindOf", "(I)LHireYard$Kind;"⟩
abbrev cX11_machineOf : ByteArray := prog_1_method_53_code
def yX11_machineOf : MethodName := ⟨RX11, "machineOf", "(I)LHireYard$Machine;"⟩
abbrev cX11_orderOf : ByteArray := prog_1_method_54_code
def yX11_orderOf : MethodName := ⟨RX11, "orderOf", "(I)LHireYard$Order;"⟩
abbrev cX11_isCustomer : ByteArray := prog_1_method_55_code
def yX11_isCustomer : MethodName := ⟨RX11, "isCustomer", "(I)Z"⟩
abbrev cX11_begunOrder : ByteArray := prog_1_method_56_code
def yX11_begunOrder : MethodName := ⟨RX11, "begunOrder", "(I)LHireYard$Order;"⟩
abbrev cX11_learn : ByteArray := prog_1_method_57_code
def yX11_learn : MethodName := ⟨RX11, "learn", "(LHireYard$Order;)V"⟩
abbrev cX11_priceOf : ByteArray := prog_1_method_58_code
def yX11_priceOf : MethodName := ⟨RX11, "priceOf", "(LHireYard$Order;I)I"⟩
abbrev cX11_idleIn : ByteArray := prog_1_method_59_code
def yX11_idleIn : MethodName := ⟨RX11, "idleIn", "(LHireYard$Kind;I)I"⟩
abbrev cX11_wantedIn : ByteArray := prog_1_method_60_code
def yX11_wantedIn : MethodName := ⟨RX11, "wantedIn", "(LHireYard$Kind;I)I"⟩
abbrev cX11_machinesThatAre : ByteArray := prog_1_method_61_code
def yX11_machinesThatAre : MethodName := ⟨RX11, "machinesThatAre", "(I)I"⟩
abbrev cX11_ordersThatAre : ByteArray := prog_1_method_62_code
def yX11_ordersThatAre : MethodName := ⟨RX11, "ordersThatAre", "(I)I"⟩
def RX12 : String := "HireYardModel"
def TX12 : u_T := fun k => match k with
  | 0 => ("HireYardModel", "code", "I", false)
  | 1 => ("HireYardModel", "hour", "I", false)
  | 2 => ("HireYardModel", "towns", "I", false)
  | 3 => ("HireYardModel", "hasYard", "[Z", true)
  | 4 => ("HireYardModel", "roads", "[I", true)
  | 5 => ("HireYardModel", "fars", "[I", true)
  | 6 => ("HireYardModel", "rains", "[Z", true)
  | 7 => ("HireYardModel", "types", "I", false)
  | 8 => ("HireYardModel", "weight", "[I", true)
  | 9 => ("HireYardModel", "lookEvery", "[I", true)
  | 10 => ("HireYardModel", "rate", "[I", true)
  | 11 => ("HireYardModel", "paper", "[I", true)
  | 12 => ("HireYardModel", "worth", "[I", true)
  | 13 => ("HireYardModel", "mayGo", "[Z", true)
  | 14 => ("HireYardModel", "markCost", "[I", true)
  | 15 => ("HireYardModel", "machines", "I", false)
  | 16 => ("HireYardModel", "typeOf", "[I", true)
  | 17 => ("HireYardModel", "meter", "[I", true)
  | 18 => ("HireYardModel", "where", "[I", true)
  | 19 => ("HireYardModel", "townOf", "[I", true)
  | 20 => ("HireYardModel", "till", "[I", true)
  | 21 => ("HireYardModel", "toYard", "[Z", true)
  | 22 => ("HireYardModel", "since", "[I", true)
  | 23 => ("HireYardModel", "state", "[I", true)
  | 24 => ("HireYardModel", "lookTill", "[I", true)
  | 25 => ("HireYardModel", "lookMeter", "[I", true)
  | 26 => ("HireYardModel", "orderOf", "[I", true)
  | 27 => ("HireYardModel", "lastSent", "[I", true)
  | 28 => ("HireYardModel", "stolenOn", "[I", true)
  | 29 => ("HireYardModel", "links", "[I", true)
  | 30 => ("HireYardModel", "linkOwner", "[I", true)
  | 31 => ("HireYardModel", "linkRate", "[I", true)
  | 32 => ("HireYardModel", "readings", "I", false)
  | 33 => ("HireYardModel", "toldReadings", "I", false)
  | 34 => ("HireYardModel", "readMachine", "[I", true)
  | 35 => ("HireYardModel", "readHour", "[I", true)
  | 36 => ("HireYardModel", "readMeter", "[I", true)
  | 37 => ("HireYardModel", "spans", "I", false)
  | 38 => ("HireYardModel", "spanMachine", "[I", true)
  | 39 => ("HireYardModel", "spanFrom", "[I", true)
  | 40 => ("HireYardModel", "spanTo", "[I", true)
  | 41 => ("HireYardModel", "tracks", "I", false)
  | 42 => ("HireYardModel", "trackMachine", "[I", true)
  | 43 => ("HireYardModel", "trackTown", "[I", true)
  | 44 => ("HireYardModel", "trackHour", "[I", true)
  | 45 => ("HireYardModel", "customers", "I", false)
  | 46 => ("HireYardModel", "customerTown", "[I", true)
  | 47 => ("HireYardModel", "papers", "[I", true)
  | 48 => ("HireYardModel", "orders", "I", false)
  | 49 => ("HireYardModel", "customerOf", "[I", true)
  | 50 => ("HireYardModel", "orderType", "[I", true)
  | 51 => ("HireYardModel", "orderFrom", "[I", true)
  | 52 => ("HireYardModel", "orderDays", "[I", true)
  | 53 => ("HireYardModel", "work", "[I", true)
  | 54 => ("HireYardModel", "came", "[I", true)
  | 55 => ("HireYardModel", "orderState", "[I", true)
  | 56 => ("HireYardModel", "machineOf", "[I", true)
  | 57 => ("HireYardModel", "begins", "[I", true)
  | 58 => ("HireYardModel", "ended", "[I", true)
  | 59 => ("HireYardModel", "words", "[I", true)
  | 60 => ("HireYardModel", "marksOf", "[I", true)
  | 61 => ("HireYardModel", "litres", "[I", true)
  | 62 => ("HireYardModel", "listed", "I", false)
  | 63 => ("HireYardModel", "list", "[I", true)
  | 64 => ("HireYardModel", "hasBest", "Z", false)
  | 65 => ("HireYardModel", "bestMiles", "I", false)
  | 66 => ("HireYardModel", "taken", "[Z", true)
  | 67 => ("HireYardModel", "given", "[I", true)
  | 68 => ("HireYardModel", "worthOf", "[J", true)
  | 69 => ("HireYardModel", "worthNow", "[J", true)
  | 70 => ("HireYardModel", "stops", "I", false)
  | 71 => ("HireYardModel", "stop", "[I", true)
  | 72 => ("HireYardModel", "rowAt", "[I", true)
  | 73 => ("HireYardModel", "yardFrom", "I", false)
  | 74 => ("HireYardModel", "foundMany", "I", false)
  | 75 => ("HireYardModel", "found", "[I", true)
  | 76 => ("HireYardModel", "tape", "[B", true)
  | 77 => ("HireYardModel", "taped", "I", false)
  | 78 => ("HireYardModel", "terms", "I", false)
  | 79 => ("HireYardModel", "use", "[I", true)
  | 80 => ("HireYardModel", "made", "[I", true)
  | 81 => ("HireYardModel", "termsFrom", "[I", true)
  | 82 => ("HireYardModel", "steps", "[I", true)
  | 83 => ("HireYardModel", "act", "[I", true)
  | 84 => ("HireYardModel", "with", "[I", true)
  | 85 => ("HireYardModel", "upTo", "[I", true)
  | 86 => ("HireYardModel", "from", "I", false)
  | 87 => ("HireYardModel", "to", "I", false)
  | 88 => ("HireYardModel", "token", "I", false)
  | 89 => ("HireYardModel", "value", "I", false)
  | 90 => ("HireYardModel", "fault", "I", false)
  | 91 => ("HireYardModel", "open", "I", false)
  | 92 => ("HireYardModel", "at", "I", false)
  | 93 => ("HireYardModel", "laid", "I", false)
  | 94 => ("HireYardModel", "facts", "[I", true)
  | 95 => ("HireYardModel", "pile", "[I", true)
  | _ => ("HireYardModel", "billedBy", "I", false)
def tyX12 : Nat → FieldType := fun k => match k with
  | 0 => .int
  | 1 => .int
  | 2 => .int
  | 3 => .array .boolean
  | 4 => .array .int
  | 5 => .array .int
  | 6 => .array .boolean
  | 7 => .int
  | 8 => .array .int
  | 9 => .array .int
  | 10 => .array .int
  | 11 => .array .int
  | 12 => .array .int
  | 13 => .array .boolean
  | 14 => .array .int
  | 15 => .int
  | 16 => .array .int
  | 17 => .array .int
  | 18 => .array .int
  | 19 => .array .int
  | 20 => .array .int
  | 21 => .array .boolean
  | 22 => .array .int
  | 23 => .array .int
  | 24 => .array .int
  | 25 => .array .int
  | 26 => .array .int
  | 27 => .array .int
  | 28 => .array .int
  | 29 => .array .int
  | 30 => .array .int
  | 31 => .array .int
  | 32 => .int
  | 33 => .int
  | 34 => .array .int
  | 35 => .array .int
  | 36 => .array .int
  | 37 => .int
  | 38 => .array .int
  | 39 => .array .int
  | 40 => .array .int
  | 41 => .int
  | 42 => .array .int
  | 43 => .array .int
  | 44 => .array .int
  | 45 => .int
  | 46 => .array .int
  | 47 => .array .int
  | 48 => .int
  | 49 => .array .int
  | 50 => .array .int
  | 51 => .array .int
  | 52 => .array .int
  | 53 => .array .int
  | 54 => .array .int
  | 55 => .array .int
  | 56 => .array .int
  | 57 => .array .int
  | 58 => .array .int
  | 59 => .array .int
  | 60 => .array .int
  | 61 => .array .int
  | 62 => .int
  | 63 => .array .int
  | 64 => .boolean
  | 65 => .int
  | 66 => .array .boolean
  | 67 => .array .int
  | 68 => .array .long
  | 69 => .array .long
  | 70 => .int
  | 71 => .array .int
  | 72 => .array .int
  | 73 => .int
  | 74 => .int
  | 75 => .array .int
  | 76 => .array .byte
  | 77 => .int
  | 78 => .int
  | 79 => .array .int
  | 80 => .array .int
  | 81 => .array .int
  | 82 => .array .int
  | 83 => .array .int
  | 84 => .array .int
  | 85 => .array .int
  | 86 => .int
  | 87 => .int
  | 88 => .int
  | 89 => .int
  | 90 => .int
  | 91 => .int
  | 92 => .int
  | 93 => .int
  | 94 => .array .int
  | 95 => .array .int
  | _ => .int
abbrev wsX120 : List Cond := u_ws RX12 TX12 97
theorem nmX12 : ∀ a, a < 97 → ∀ b, b < 97 → a ≠ b → (TX12 a).2.1 ≠ (TX12 b).2.1 := by decide +kernel
theorem tyX12_ok : ∀ k, k < 97 → parseFieldDescriptor (TX12 k).2.2.1 = some (tyX12 k) := by decide +kernel
abbrev cX12_init : ByteArray := prog_14_method_1_code
def yX12_init : MethodName := ⟨RX12, "<init>", "()V"⟩
abbrev cX12_in : ByteArray := prog_14_method_3_code
def yX12_in : MethodName := ⟨RX12, "in", "(III)Z"⟩
abbrev cX12_isDay : ByteArray := prog_14_method_4_code
def yX12_isDay : MethodName := ⟨RX12, "isDay", "(I)Z"⟩
abbrev cX12_today : ByteArray := prog_14_method_5_code
def yX12_today : MethodName := ⟨RX12, "today", "()I"⟩
abbrev cX12_isTown : ByteArray := prog_14_method_6_code
def yX12_isTown : MethodName := ⟨RX12, "isTown", "(I)Z"⟩
abbrev cX12_farOf : ByteArray := prog_14_method_7_code
def yX12_farOf : MethodName := ⟨RX12, "farOf", "(II)I"⟩
abbrev cX12_findFars : ByteArray := prog_14_method_8_code
def yX12_findFars : MethodName := ⟨RX12, "findFars", "()V"⟩
abbrev cX12_town : ByteArray := prog_14_method_9_code
def yX12_town : MethodName := ⟨RX12, "town", "(I)I"⟩
abbrev cX12_road : ByteArray := prog_14_method_10_code
def yX12_road : MethodName := ⟨RX12, "road", "(III)I"⟩
abbrev cX12_far : ByteArray := prog_14_method_11_code
def yX12_far : MethodName := ⟨RX12, "far", "(II)I"⟩
abbrev cX12_rain : ByteArray := prog_14_method_12_code
def yX12_rain : MethodName := ⟨RX12, "rain", "(II)I"⟩
abbrev cX12_isType : ByteArray := prog_14_method_13_code
def yX12_isType : MethodName := ⟨RX12, "isType", "(I)Z"⟩
abbrev cX12_isMachine : ByteArray := prog_14_method_14_code
def yX12_isMachine : MethodName := ⟨RX12, "isMachine", "(I)Z"⟩
abbrev cX12_type : ByteArray := prog_14_method_15_code
def yX12_type : MethodName := ⟨RX12, "type", "(IIII)I"⟩
abbrev cX12_instead : ByteArray := prog_14_method_16_code
def yX12_instead : MethodName := ⟨RX12, "instead", "(III)I"⟩
abbrev cX12_mark : ByteArray := prog_14_method_17_code
def yX12_mark : MethodName := ⟨RX12, "mark", "(III)I"⟩
abbrev cX12_addReading : ByteArray := prog_14_method_18_code
def yX12_addReading : MethodName := ⟨RX12, "addReading", "(II)V"⟩
abbrev cX12_readBy : ByteArray := prog_14_method_19_code
def yX12_readBy : MethodName := ⟨RX12, "readBy", "(II)I"⟩
abbrev cX12_readFrom : ByteArray := prog_14_method_20_code
def yX12_readFrom : MethodName := ⟨RX12, "readFrom", "(II)I"⟩
abbrev cX12_machine : ByteArray := prog_14_method_21_code
def yX12_machine : MethodName := ⟨RX12, "machine", "(III)I"⟩
abbrev cX12_link : ByteArray := prog_14_method_22_code
def yX12_link : MethodName := ⟨RX12, "link", "(III)I"⟩
abbrev cX12_sinceLook : ByteArray := prog_14_method_23_code
def yX12_sinceLook : MethodName := ⟨RX12, "sinceLook", "(I)I"⟩
abbrev cX12_isDue : ByteArray := prog_14_method_24_code
def yX12_isDue : MethodName := ⟨RX12, "isDue", "(I)Z"⟩
abbrev cX12_lapses : ByteArray := prog_14_method_25_code
def yX12_lapses : MethodName := ⟨RX12, "lapses", "(II)Z"⟩
abbrev cX12_ofMachine : ByteArray := prog_14_method_26_code
def yX12_ofMachine : MethodName := ⟨RX12, "ofMachine", "(II)I"⟩
abbrev cX12_isFree : ByteArray := prog_14_method_27_code
def yX12_isFree : MethodName := ⟨RX12, "isFree", "(I)Z"⟩
abbrev cX12_look : ByteArray := prog_14_method_28_code
def yX12_look : MethodName := ⟨RX12, "look", "(II)I"⟩
abbrev cX12_endSpan : ByteArray := prog_14_method_29_code
def yX12_endSpan : MethodName := ⟨RX12, "endSpan", "(I)V"⟩
abbrev cX12_broken : ByteArray := prog_14_method_30_code
def yX12_broken : MethodName := ⟨RX12, "broken", "(II)I"⟩
abbrev cX12_gone : ByteArray := prog_14_method_31_code
def yX12_gone : MethodName := ⟨RX12, "gone", "(II)I"⟩
abbrev cX12_read : ByteArray := prog_14_method_32_code
def yX12_read : MethodName := ⟨RX12, "read", "(II)I"⟩
abbrev cX12_track : ByteArray := prog_14_method_33_code
def yX12_track : MethodName := ⟨RX12, "track", "(II)I"⟩
abbrev cX12_theft : ByteArray := prog_14_method_34_code
def yX12_theft : MethodName := ⟨RX12, "theft", "(II)I"⟩
abbrev cX12_hours : ByteArray := prog_14_method_35_code
def yX12_hours : MethodName := ⟨RX12, "hours", "(I)I"⟩
abbrev cX12_arrive : ByteArray := prog_14_method_36_code
def yX12_arrive : MethodName := ⟨RX12, "arrive", "(I)V"⟩
abbrev cX12_load : ByteArray := prog_14_method_37_code
def yX12_load : MethodName := ⟨RX12, "load", "(IIZ)V"⟩
abbrev cX12_isCustomer : ByteArray := prog_14_method_38_code
def yX12_isCustomer : MethodName := ⟨RX12, "isCustomer", "(I)Z"⟩
abbrev cX12_isOrder : ByteArray := prog_14_method_39_code
def yX12_isOrder : MethodName := ⟨RX12, "isOrder", "(I)Z"⟩
abbrev cX12_customer : ByteArray := prog_14_method_40_code
def yX12_customer : MethodName := ⟨RX12, "customer", "(II)I"⟩
abbrev cX12_order : ByteArray := prog_14_method_41_code
def yX12_order : MethodName := ⟨RX12, "order", "(IIIII)I"⟩
abbrev cX12_townOfOrder : ByteArray := prog_14_method_42_code
def yX12_townOfOrder : MethodName := ⟨RX12, "townOfOrder", "(I)I"⟩
abbrev cX12_whyNot : ByteArray := prog_14_method_43_code
def yX12_whyNot : MethodName := ⟨RX12, "whyNot", "(II)I"⟩
abbrev cX12_why : ByteArray := prog_14_method_44_code
def yX12_why : MethodName := ⟨RX12, "why", "(II)I"⟩
abbrev cX12_list : ByteArray := prog_14_method_45_code
def yX12_list : MethodName := ⟨RX12, "list", "(I)I"⟩
abbrev cX12_mayHave : ByteArray := prog_14_method_46_code
def yX12_mayHave : MethodName := ⟨RX12, "mayHave", "(II)Z"⟩
abbrev cX12_findWorths : ByteArray := prog_14_method_47_code
def yX12_findWorths : MethodName := ⟨RX12, "findWorths", "()V"⟩
abbrev cX12_worthBy : ByteArray := prog_14_method_48_code
def yX12_worthBy : MethodName := ⟨RX12, "worthBy", "(II)J"⟩
abbrev cX12_most : ByteArray := prog_14_method_49_code
def yX12_most : MethodName := ⟨RX12, "most", "(I)J"⟩
abbrev cX12_best : ByteArray := prog_14_method_50_code
def yX12_best : MethodName := ⟨RX12, "best", "()I"⟩
abbrev cX12_miles : ByteArray := prog_14_method_51_code
def yX12_miles : MethodName := ⟨RX12, "miles", "()I"⟩
abbrev cX12_isPromised : ByteArray := prog_14_method_52_code
def yX12_isPromised : MethodName := ⟨RX12, "isPromised", "(I)Z"⟩
abbrev cX12_stop : ByteArray := prog_14_method_53_code
def yX12_stop : MethodName := ⟨RX12, "stop", "(I)I"⟩
abbrev cX12_milesOfRow : ByteArray := prog_14_method_54_code
def yX12_milesOfRow : MethodName := ⟨RX12, "milesOfRow", "(I)I"⟩
abbrev cX12_isUsed : ByteArray := prog_14_method_55_code
def yX12_isUsed : MethodName := ⟨RX12, "isUsed", "(I)Z"⟩
abbrev cX12_round : ByteArray := prog_14_method_56_code
def yX12_round : MethodName := ⟨RX12, "round", "()I"⟩
abbrev cX12_stopped : ByteArray := prog_14_method_57_code
def yX12_stopped : MethodName := ⟨RX12, "stopped", "(I)I"⟩
abbrev cX12_send : ByteArray := prog_14_method_58_code
def yX12_send : MethodName := ⟨RX12, "send", "(I)I"⟩
abbrev cX12_hasBegun : ByteArray := prog_14_method_59_code
def yX12_hasBegun : MethodName := ⟨RX12, "hasBegun", "(I)Z"⟩
abbrev cX12_fetch : ByteArray := prog_14_method_60_code
def yX12_fetch : MethodName := ⟨RX12, "fetch", "(II)I"⟩
abbrev cX12_off : ByteArray := prog_14_method_61_code
def yX12_off : MethodName := ⟨RX12, "off", "(I)I"⟩
abbrev cX12_ofOrder : ByteArray := prog_14_method_62_code
def yX12_ofOrder : MethodName := ⟨RX12, "ofOrder", "(II)I"⟩
abbrev cX12_endOf : ByteArray := prog_14_method_63_code
def yX12_endOf : MethodName := ⟨RX12, "endOf", "(I)I"⟩
abbrev cX12_daysOf : ByteArray := prog_14_method_64_code
def yX12_daysOf : MethodName := ⟨RX12, "daysOf", "(I)I"⟩
abbrev cX12_said : ByteArray := prog_14_method_65_code
def yX12_said : MethodName := ⟨RX12, "said", "(III)I"⟩
abbrev cX12_dayIs : ByteArray := prog_14_method_66_code
def yX12_dayIs : MethodName := ⟨RX12, "dayIs", "(II)I"⟩
abbrev cX12_worked : ByteArray := prog_14_method_67_code
def yX12_worked : MethodName := ⟨RX12, "worked", "(II)I"⟩
abbrev cX12_days : ByteArray := prog_14_method_68_code
def yX12_days : MethodName := ⟨RX12, "days", "(II)I"⟩
abbrev cX12_dayOf : ByteArray := prog_14_method_69_code
def yX12_dayOf : MethodName := ⟨RX12, "dayOf", "(II)I"⟩
abbrev cX12_feed : ByteArray := prog_14_method_70_code
def yX12_feed : MethodName := ⟨RX12, "feed", "(IIIII)I"⟩
abbrev cX12_feedOne : ByteArray := prog_14_method_71_code
def yX12_feedOne : MethodName := ⟨RX12, "feedOne", "(I)V"⟩
abbrev cX12_end : ByteArray := prog_14_method_72_code
def yX12_end : MethodName := ⟨RX12, "end", "(I)I"⟩
abbrev cX12_isLetter : ByteArray := prog_14_method_73_code
def yX12_isLetter : MethodName := ⟨RX12, "isLetter", "(I)Z"⟩
abbrev cX12_isDigit : ByteArray := prog_14_method_74_code
def yX12_isDigit : MethodName := ⟨RX12, "isDigit", "(I)Z"⟩
abbrev cX12_nextToken : ByteArray := prog_14_method_75_code
def yX12_nextToken : MethodName := ⟨RX12, "nextToken", "()V"⟩
abbrev cX12_isWord : ByteArray := prog_14_method_76_code
def yX12_isWord : MethodName := ⟨RX12, "isWord", "(J)Z"⟩
abbrev cX12_wrong : ByteArray := prog_14_method_77_code
def yX12_wrong : MethodName := ⟨RX12, "wrong", "()V"⟩
abbrev cX12_lay : ByteArray := prog_14_method_78_code
def yX12_lay : MethodName := ⟨RX12, "lay", "(III)V"⟩
abbrev cX12_takes : ByteArray := prog_14_method_79_code
def yX12_takes : MethodName := ⟨RX12, "takes", "(I)Z"⟩
abbrev cX12_opens : ByteArray := prog_14_method_80_code
def yX12_opens : MethodName := ⟨RX12, "opens", "()Z"⟩
abbrev cX12_closes : ByteArray := prog_14_method_81_code
def yX12_closes : MethodName := ⟨RX12, "closes", "()Z"⟩
abbrev cX12_nameOf : ByteArray := prog_14_method_82_code
def yX12_nameOf : MethodName := ⟨RX12, "nameOf", "()I"⟩
abbrev cX12_operand : ByteArray := prog_14_method_83_code
def yX12_operand : MethodName := ⟨RX12, "operand", "()V"⟩
abbrev cX12_product : ByteArray := prog_14_method_84_code
def yX12_product : MethodName := ⟨RX12, "product", "()V"⟩
abbrev cX12_sum : ByteArray := prog_14_method_85_code
def yX12_sum : MethodName := ⟨RX12, "sum", "()V"⟩
abbrev cX12_step : ByteArray := prog_14_method_86_code
def yX12_step : MethodName := ⟨RX12, "step", "()V"⟩
abbrev cX12_terms : ByteArray := prog_14_method_87_code
def yX12_terms : MethodName := ⟨RX12, "terms", "(II)I"⟩
abbrev cX12_both : ByteArray := prog_14_method_88_code
def yX12_both : MethodName := ⟨RX12, "both", "(III)I"⟩
abbrev cX12_works : ByteArray := prog_14_method_89_code
def yX12_works : MethodName := ⟨RX12, "works", "(I)I"⟩
abbrev cX12_hoursOf : ByteArray := prog_14_method_90_code
def yX12_hoursOf : MethodName := ⟨RX12, "hoursOf", "(I)I"⟩
abbrev cX12_rainOf : ByteArray := prog_14_method_91_code
def yX12_rainOf : MethodName := ⟨RX12, "rainOf", "(I)I"⟩
abbrev cX12_brokenOf : ByteArray := prog_14_method_92_code
def yX12_brokenOf : MethodName := ⟨RX12, "brokenOf", "(I)I"⟩
abbrev cX12_marksFound : ByteArray := prog_14_method_93_code
def yX12_marksFound : MethodName := ⟨RX12, "marksFound", "(I)I"⟩
abbrev cX12_harmOf : ByteArray := prog_14_method_94_code
def yX12_harmOf : MethodName := ⟨RX12, "harmOf", "(I)I"⟩
abbrev cX12_fuelOf : ByteArray := prog_14_method_95_code
def yX12_fuelOf : MethodName := ⟨RX12, "fuelOf", "(I)I"⟩
abbrev cX12_tell : ByteArray := prog_14_method_96_code
def yX12_tell : MethodName := ⟨RX12, "tell", "(III)V"⟩
abbrev cX12_gives : ByteArray := prog_14_method_97_code
def yX12_gives : MethodName := ⟨RX12, "gives", "(III)I"⟩
abbrev cX12_lesser : ByteArray := prog_14_method_98_code
def yX12_lesser : MethodName := ⟨RX12, "lesser", "(III)I"⟩
abbrev cX12_bill : ByteArray := prog_14_method_99_code
def yX12_bill : MethodName := ⟨RX12, "bill", "(III)I"⟩
abbrev cX12_next : ByteArray := prog_14_method_100_code
def yX12_next : MethodName := ⟨RX12, "next", "(II)I"⟩
abbrev cX12_mayTell : ByteArray := prog_14_method_101_code
def yX12_mayTell : MethodName := ⟨RX12, "mayTell", "(II)Z"⟩
abbrev cX12_looked : ByteArray := prog_14_method_102_code
def yX12_looked : MethodName := ⟨RX12, "looked", "(III)I"⟩
abbrev cX12_fuel : ByteArray := prog_14_method_103_code
def yX12_fuel : MethodName := ⟨RX12, "fuel", "(III)I"⟩
abbrev cX12_harm : ByteArray := prog_14_method_104_code
def yX12_harm : MethodName := ⟨RX12, "harm", "(II)I"⟩
abbrev cX12_share : ByteArray := prog_14_method_105_code
def yX12_share : MethodName := ⟨RX12, "share", "(II)I"⟩
abbrev cX12_chain : ByteArray := prog_14_method_106_code
def yX12_chain : MethodName := ⟨RX12, "chain", "(III)I"⟩
abbrev cX12_rank : ByteArray := prog_14_method_107_code
def yX12_rank : MethodName := ⟨RX12, "rank", "(II)I"⟩
abbrev cX12_idleOf : ByteArray := prog_14_method_108_code
def yX12_idleOf : MethodName := ⟨RX12, "idleOf", "(II)I"⟩
abbrev cX12_wantedOf : ByteArray := prog_14_method_109_code
def yX12_wantedOf : MethodName := ⟨RX12, "wantedOf", "(II)I"⟩
abbrev cX12_idle : ByteArray := prog_14_method_110_code
def yX12_idle : MethodName := ⟨RX12, "idle", "(III)I"⟩
abbrev cX12_move : ByteArray := prog_14_method_111_code
def yX12_move : MethodName := ⟨RX12, "move", "(I)I"⟩
abbrev cX12_count : ByteArray := prog_14_method_112_code
def yX12_count : MethodName := ⟨RX12, "count", "(I)I"⟩
def RJ9 : String := "java/lang/Math"
abbrev cJ9_max_7cf53 : ByteArray := prog_16_method_65_code
def yJ9_max_7cf53 : MethodName := ⟨RJ9, "max", "(II)I"⟩
abbrev cJ9_min_7cf53 : ByteArray := prog_16_method_69_code
def yJ9_min_7cf53 : MethodName := ⟨RJ9, "min", "(II)I"⟩
abbrev cJ9_min_f86c9 : ByteArray := prog_16_method_70_code
def yJ9_min_f86c9 : MethodName := ⟨RJ9, "min", "(JJ)J"⟩
def RJ7 : String := "java/util/Arrays"
abbrev cJ7_fill_d0a16 : ByteArray := prog_21_method_101_code
def yJ7_fill_d0a16 : MethodName := ⟨RJ7, "fill", "([JJ)V"⟩
abbrev cJ7_copyOf_59c91 : ByteArray := prog_21_method_123_code
def yJ7_copyOf_59c91 : MethodName := ⟨RJ7, "copyOf", "([II)[I"⟩
def RL : String := "HireYardLaw"
abbrev cL_law : ByteArray := code
def yL_law : MethodName := ⟨RL, "law", "([I)Z"⟩
abbrev vwCl : List vw_C := [(RX0, TX0, 4), (RX1, TX1, 8), (RX2, TX2, 8), (RX3, TX3, 5), (RX4, TX4, 16), (RX5, TX5, 5), (RX6, TX6, 4), (RX7, TX7, 16), (RX8, TX8, 4), (RX9, TX9, 10), (RX10, TX10, 4), (RX11, TX11, 18), (RX12, TX12, 97)]
abbrev mR : Type := Instr × Nat × Nat × Nat × Nat
def mz : Option mR := none
def mi (I : Instr) (n : Nat) : Option mR := some (I, n, 0, 0, 0)
def mj (I : Instr) (n a b q : Nat) : Option mR := some (I, n, a, b, q)
def kX0_init : List (List (Option mR)) := [[mi (.aload 0) 1, mi .pop2 3, mz, mz, mi (.aload 0) 1, mi (.iconst 16) 2, mz, mj (.anewarray 11) 3 6 10 1, mz, mz, mj (.putfield 13) 3 0 0 2, mz, mz, mi (.aload 0) 1, mi (.iconst 14) 2, mz],
  [mi (.newarray .int) 2, mz, mj (.putfield 19) 3 0 2 3, mz, mz, mi (.aload 0) 1, mi (.iconst 64) 2, mz, mi (.newarray .int) 2, mz, mj (.putfield 23) 3 0 3 4, mz, mz, mi .return_ 1]]
def kX0_isFull : List (List (Option mR)) := [[mi (.aload 0) 1, mj (.getfield 26) 3 0 1 5, mz, mz, mi (.iconst 16) 2, mz, mi (.if_icmp .lt 7) 3, mz, mz, mi (.iconst 1) 1, mi (.goto 4) 3, mz, mz, mi (.iconst 0) 1, mi .ireturn 1]]
def kX0_has : List (List (Option mR)) := [[mi (.iload 1) 1, mi (.ifCond .lt 21) 3, mz, mz, mi (.iload 1) 1, mi (.aload 0) 1, mj (.getfield 26) 3 0 1 5, mz, mz, mi (.if_icmp .ge 13) 3, mz, mz, mi (.iload 1) 1, mi (.iconst 16) 2, mz, mi (.if_icmp .ge 7) 3],
  [mz, mz, mi (.iconst 1) 1, mi (.goto 4) 3, mz, mz, mi (.iconst 0) 1, mi .ireturn 1]]
def kX0_add : List (List (Option mR)) := [[mi (.aload 0) 1, mj (.invokevirtual 30) 3 1 0 6, mz, mz, mi (.ifCond .eq 6) 3, mz, mz, mi (.iconst (-3)) 2, mz, mi .ireturn 1, mi (.aload 0) 1, mj (.getfield 13) 3 0 0 2, mz, mz, mi (.aload 0) 1, mj (.getfield 26) 3 0 1 5],
  [mz, mz, mi (.aload 1) 1, mi .aastore 1, mi (.aload 0) 1, mi .dup 1, mj (.getfield 26) 3 0 1 5, mz, mz, mi .dup_x1 1, mi (.iconst 1) 1, mi .iadd 1, mj (.putfield 26) 3 0 1 5, mz, mz, mi .ireturn 1]]
def kX0_learn : List (List (Option mR)) := [[mi (.aload 0) 1, mj (.getfield 19) 3 0 2 3, mz, mz, mi (.iconst 5) 1, mi (.aload 1) 1, mi (.iload 2) 1, mj (.invokevirtual 34) 3 77 1 7, mz, mz, mi .iastore 1, mi (.aload 0) 1, mi (.aload 1) 1, mi (.aload 1) 1, mi (.iload 2) 1, mj (.invokevirtual 40) 3 74 1 8],
  [mz, mz, mj (.invokevirtual 43) 3 7 2 9, mz, mz, mi (.aload 0) 1, mj (.getfield 19) 3 0 2 3, mz, mz, mi (.iconst 0) 1, mi (.aload 1) 1, mi (.iconst 3) 1, mi (.iload 2) 1, mj (.invokevirtual 47) 3 76 2 10, mz, mz],
  [mi .iastore 1, mi (.aload 0) 1, mj (.getfield 19) 3 0 2 3, mz, mz, mi (.iconst 4) 1, mi (.aload 1) 1, mj (.getfield 51) 3 7 5 11, mz, mz, mj (.getfield 55) 3 1 3 12, mz, mz, mi .iastore 1, mi (.aload 0) 1, mj (.getfield 19) 3 0 2 3],
  [mz, mz, mi (.iconst 9) 2, mz, mi (.aload 1) 1, mj (.invokevirtual 60) 3 82 0 13, mz, mz, mi .iastore 1, mi (.aload 0) 1, mj (.getfield 19) 3 0 2 3, mz, mz, mi (.iconst 10) 2, mz, mi (.aload 1) 1],
  [mj (.invokevirtual 64) 3 81 0 14, mz, mz, mi .iastore 1, mi (.aload 0) 1, mj (.getfield 19) 3 0 2 3, mz, mz, mi (.iconst 11) 2, mz, mi (.aload 1) 1, mj (.getfield 67) 3 7 10 15, mz, mz, mi (.ifnonnull 7) 3, mz],
  [mz, mi (.iconst 0) 1, mi (.goto 13) 3, mz, mz, mi (.aload 1) 1, mj (.getfield 67) 3 7 10 15, mz, mz, mj (.getfield 71) 3 4 1 16, mz, mz, mj (.getfield 74) 3 1 5 17, mz, mz, mi .iastore 1],
  [mi (.aload 0) 1, mj (.getfield 19) 3 0 2 3, mz, mz, mi (.iconst 12) 2, mz, mi (.aload 1) 1, mj (.getfield 67) 3 7 10 15, mz, mz, mi (.ifnull 13) 3, mz, mz, mi (.aload 1) 1, mj (.getfield 67) 3 7 10 15, mz],
  [mz, mj (.getfield 77) 3 4 15 18, mz, mz, mi (.ifCond .ne 7) 3, mz, mz, mi (.iconst 1) 1, mi (.goto 4) 3, mz, mz, mi (.iconst 0) 1, mi .iastore 1, mi (.aload 0) 1, mj (.getfield 19) 3 0 2 3, mz],
  [mz, mi (.iconst 13) 2, mz, mi (.aload 1) 1, mj (.invokevirtual 80) 3 69 0 19, mz, mz, mi (.ifCond .eq 7) 3, mz, mz, mi (.iconst 1) 1, mi (.goto 4) 3, mz, mz, mi (.iconst 0) 1, mi .iastore 1],
  [mi .return_ 1]]
def kX0_learnTroubles : List (List (Option mR)) := [[mi (.aload 1) 1, mi (.iload 2) 1, mj (.invokevirtual 83) 3 73 1 20, mz, mz, mi (.istore 5) 2, mz, mi (.iconst 0) 1, mi (.istore 6) 2, mz, mi (.aload 1) 1, mj (.getfield 86) 3 7 11 21, mz, mz, mi (.iconst 24) 2, mz],
  [mi .idiv 1, mi (.istore 7) 2, mz, mi (.iload 7) 2, mz, mi (.ifCond .lt 45) 3, mz, mz, mi (.iload 7) 2, mz, mi (.aload 3) 1, mi .arraylength 1, mi (.if_icmp .ge 38) 3, mz, mz, mi (.iload 7) 2],
  [mz, mi (.iconst 24) 2, mz, mi .imul 1, mi (.iload 5) 2, mz, mi (.if_icmp .ge 28) 3, mz, mz, mi (.aload 3) 1, mi (.iload 7) 2, mz, mi .baload 1, mi (.ifCond .eq 15) 3, mz, mz],
  [mi (.iload 5) 2, mz, mi (.aload 1) 1, mj (.getfield 86) 3 7 11 21, mz, mz, mi (.if_icmp .le 6) 3, mz, mz, mi (.iinc 6 1) 3, mz, mz, mi (.iinc 7 1) 3, mz, mz, mi (.goto (-44)) 3],
  [mz, mz, mi (.aload 0) 1, mj (.getfield 19) 3 0 2 3, mz, mz, mi (.iconst 7) 2, mz, mi (.iload 6) 2, mz, mi .iastore 1, mi (.aload 0) 1, mj (.getfield 19) 3 0 2 3, mz, mz, mi (.iconst 8) 2],
  [mz, mi (.aload 1) 1, mj (.getfield 67) 3 7 10 15, mz, mz, mi (.ifnonnull 7) 3, mz, mz, mi (.iconst 0) 1, mi (.goto 21) 3, mz, mz, mi (.aload 4) 2, mz, mi (.aload 1) 1, mj (.getfield 67) 3 7 10 15],
  [mz, mz, mj (.getfield 89) 3 4 0 22, mz, mz, mi (.aload 1) 1, mj (.getfield 86) 3 7 11 21, mz, mz, mi (.iload 5) 2, mz, mj (.invokevirtual 92) 3 20 3 23, mz, mz, mi .iastore 1, mi .return_ 1]]
def kX0_setDays : List (List (Option mR)) := [[mi (.aload 0) 1, mj (.getfield 19) 3 0 2 3, mz, mz, mi (.iconst 0) 1, mi (.iload 1) 1, mi .iastore 1, mi .return_ 1]]
def kX0_setAll : List (List (Option mR)) := [[mi (.aload 0) 1, mj (.getfield 19) 3 0 2 3, mz, mz, mi (.iconst 0) 1, mi (.iload 2) 1, mi .iastore 1, mi (.aload 0) 1, mj (.getfield 19) 3 0 2 3, mz, mz, mi (.iconst 1) 1, mi (.iload 2) 1, mi .iastore 1, mi (.aload 0) 1, mj (.getfield 19) 3 0 2 3],
  [mz, mz, mi (.iconst 2) 1, mi (.iload 2) 1, mi (.iconst 7) 2, mz, mi .idiv 1, mi .iastore 1, mi (.aload 0) 1, mj (.getfield 19) 3 0 2 3, mz, mz, mi (.iconst 3) 1, mi (.iload 2) 1, mi (.iconst 7) 2, mz],
  [mi .irem 1, mi .iastore 1, mi (.aload 0) 1, mj (.getfield 19) 3 0 2 3, mz, mz, mi (.iconst 6) 2, mz, mi (.iconst 0) 1, mi (.aload 0) 1, mj (.getfield 19) 3 0 2 3, mz, mz, mi (.iconst 5) 1, mi .iaload 1, mi (.iload 2) 1],
  [mi (.aload 1) 1, mj (.getfield 98) 3 7 3 24, mz, mz, mi .imul 1, mi .isub 1, mj .fadd 3 0 0 25, mz, mz, mi .iastore 1, mi .return_ 1]]
def kX0_amount : List (List (Option mR)) := [[mi (.aload 0) 1, mi (.iload 1) 1, mj (.invokevirtual 106) 3 2 1 26, mz, mz, mi (.ifCond .eq 12) 3, mz, mz, mi (.aload 0) 1, mj (.getfield 13) 3 0 0 2, mz, mz, mi (.iload 1) 1, mi .aaload 1, mi (.goto 4) 3, mz],
  [mz, mi .aconst_null 1, mi (.astore 2) 1, mi (.aload 2) 1, mi (.ifnonnull 7) 3, mz, mz, mi (.iconst 0) 1, mi (.goto 15) 3, mz, mz, mi (.aload 2) 1, mi (.aload 0) 1, mj (.getfield 19) 3 0 2 3, mz, mz],
  [mi (.aload 0) 1, mj (.getfield 23) 3 0 3 4, mz, mz, mj (.invokevirtual 110) 3 114 2 27, mz, mz, mi .ireturn 1]]
def kX0_inForce : List (List (Option mR)) := [[mi (.iconst 0) 1, mi (.istore 4) 2, mz, mi (.iconst (-1)) 1, mi (.istore 5) 2, mz, mi (.aload 0) 1, mj (.getfield 26) 3 0 1 5, mz, mz, mi (.iconst 1) 1, mi .isub 1, mi (.istore 6) 2, mz, mi (.iload 6) 2, mz],
  [mi (.ifCond .lt 80) 3, mz, mz, mi (.iload 4) 2, mz, mi (.iconst 2) 1, mi (.if_icmp .ge 74) 3, mz, mz, mi (.aload 0) 1, mi (.iload 6) 2, mz, mj (.invokevirtual 106) 3 2 1 26, mz, mz, mi (.ifCond .eq 13) 3],
  [mz, mz, mi (.aload 0) 1, mj (.getfield 13) 3 0 0 2, mz, mz, mi (.iload 6) 2, mz, mi .aaload 1, mi (.goto 4) 3, mz, mz, mi .aconst_null 1, mi (.astore 7) 2, mz, mi (.aload 7) 2],
  [mz, mi (.ifnull 41) 3, mz, mz, mi (.aload 7) 2, mz, mi (.iload 1) 1, mi (.iload 2) 1, mi (.iload 3) 1, mj (.invokevirtual 114) 3 113 3 28, mz, mz, mi (.ifCond .eq 30) 3, mz, mz, mi (.iinc 4 1) 3],
  [mz, mz, mi (.iload 5) 2, mz, mi (.ifCond .lt 18) 3, mz, mz, mi (.aload 0) 1, mi (.iload 6) 2, mz, mj (.invokevirtual 118) 3 8 1 29, mz, mz, mi (.aload 0) 1, mi (.iload 5) 2, mz],
  [mj (.invokevirtual 118) 3 8 1 29, mz, mz, mi (.if_icmp .ge 7) 3, mz, mz, mi (.iload 6) 2, mz, mi (.istore 5) 2, mz, mi (.iinc 6 (-1)) 3, mz, mz, mi (.goto (-79)) 3, mz, mz],
  [mi (.iload 5) 2, mz, mi .ireturn 1]]
def kX1_init : List (List (Option mR)) := [[mi (.aload 0) 1, mi .pop2 3, mz, mz, mi (.aload 0) 1, mi (.iconst 16) 2, mz, mi (.newarray .int) 2, mz, mj (.putfield 9) 3 1 6 1, mz, mz, mi (.aload 0) 1, mi (.iconst 15) 2, mz, mi (.newarray .boolean) 2],
  [mz, mj (.putfield 15) 3 1 7 2, mz, mz, mi (.aload 0) 1, mi (.iload 1) 1, mj (.putfield 19) 3 1 0 3, mz, mz, mi (.aload 0) 1, mi (.iload 2) 1, mi (.iconst 1000) 3, mz, mz, mi .idiv 1, mj (.putfield 23) 3 1 1 4],
  [mz, mz, mi (.aload 0) 1, mi (.iload 2) 1, mi (.iconst 1000) 3, mz, mz, mi .irem 1, mj (.putfield 26) 3 1 2 5, mz, mz, mi (.aload 0) 1, mi (.iload 3) 1, mj (.putfield 29) 3 1 3 6, mz, mz],
  [mi (.aload 0) 1, mi (.iload 4) 2, mz, mj (.putfield 32) 3 1 4 7, mz, mz, mi (.aload 0) 1, mi (.iload 5) 2, mz, mj (.putfield 35) 3 1 5 8, mz, mz, mi .return_ 1]]
def kX1_standsFor : List (List (Option mR)) := [[mi (.aload 1) 1, mi (.ifnull 24) 3, mz, mz, mi (.aload 1) 1, mi (.aload 0) 1, mi (.if_acmp .eq 15) 3, mz, mz, mi (.aload 0) 1, mj (.getfield 15) 3 1 7 2, mz, mz, mi (.aload 1) 1, mj (.getfield 19) 3 1 0 3, mz],
  [mz, mi .baload 1, mi (.ifCond .eq 7) 3, mz, mz, mi (.iconst 1) 1, mi (.goto 4) 3, mz, mz, mi (.iconst 0) 1, mi .ireturn 1]]
def kX2_init : List (List (Option mR)) := [[mi (.aload 0) 1, mi .pop2 3, mz, mz, mi (.aload 0) 1, mi (.iconst 300) 3, mz, mz, mi (.newarray .int) 2, mz, mj (.putfield 11) 3 2 0 1, mz, mz, mi (.aload 0) 1, mi (.iconst 300) 3, mz],
  [mz, mi (.newarray .int) 2, mz, mj (.putfield 15) 3 2 1 2, mz, mz, mi (.aload 0) 1, mi (.iconst 300) 3, mz, mz, mi (.newarray .int) 2, mz, mj (.putfield 18) 3 2 2 3, mz, mz, mi (.aload 0) 1],
  [mi (.iconst 200) 3, mz, mz, mi (.newarray .int) 2, mz, mj (.putfield 21) 3 2 4 4, mz, mz, mi (.aload 0) 1, mi (.iconst 200) 3, mz, mz, mi (.newarray .int) 2, mz, mj (.putfield 24) 3 2 5 5, mz],
  [mz, mi (.aload 0) 1, mi (.iconst 200) 3, mz, mz, mi (.newarray .int) 2, mz, mj (.putfield 27) 3 2 6 6, mz, mz, mi .return_ 1]]
def kX2_addTrack : List (List (Option mR)) := [[mi (.aload 0) 1, mj (.getfield 30) 3 2 3 7, mz, mz, mi (.iconst 300) 3, mz, mz, mi (.if_icmp .lt 6) 3, mz, mz, mi (.iconst (-3)) 2, mz, mi .ireturn 1, mi (.aload 0) 1, mj (.getfield 11) 3 2 0 1, mz],
  [mz, mi (.aload 0) 1, mj (.getfield 30) 3 2 3 7, mz, mz, mi (.iload 1) 1, mi .iastore 1, mi (.aload 0) 1, mj (.getfield 15) 3 2 1 2, mz, mz, mi (.aload 0) 1, mj (.getfield 30) 3 2 3 7, mz, mz, mi (.iload 2) 1],
  [mi .iastore 1, mi (.aload 0) 1, mj (.getfield 18) 3 2 2 3, mz, mz, mi (.aload 0) 1, mj (.getfield 30) 3 2 3 7, mz, mz, mi (.iload 3) 1, mi .iastore 1, mi (.aload 0) 1, mi .dup 1, mj (.getfield 30) 3 2 3 7, mz, mz],
  [mi (.iconst 1) 1, mi .iadd 1, mj (.putfield 30) 3 2 3 7, mz, mz, mi (.aload 0) 1, mj (.getfield 30) 3 2 3 7, mz, mz, mi .ireturn 1]]
def kX2_countsFor : List (List (Option mR)) := [[mi (.aload 0) 1, mj (.getfield 11) 3 2 0 1, mz, mz, mi (.iload 2) 1, mi .iaload 1, mi (.aload 1) 1, mj (.getfield 34) 3 4 0 8, mz, mz, mi (.if_icmp .ne 33) 3, mz, mz, mi (.aload 0) 1, mj (.getfield 18) 3 2 2 3, mz],
  [mz, mi (.iload 2) 1, mi .iaload 1, mi (.aload 1) 1, mj (.getfield 39) 3 4 7 9, mz, mz, mi (.if_icmp .lt 20) 3, mz, mz, mi (.aload 0) 1, mj (.getfield 18) 3 2 2 3, mz, mz, mi (.iload 2) 1, mi .iaload 1],
  [mi (.aload 1) 1, mj (.getfield 42) 3 4 12 10, mz, mz, mi (.if_icmp .gt 7) 3, mz, mz, mi (.iconst 1) 1, mi (.goto 4) 3, mz, mz, mi (.iconst 0) 1, mi .ireturn 1]]
def kX2_elsewhere : List (List (Option mR)) := [[mi (.iconst 0) 1, mi (.istore 2) 1, mi (.iload 2) 1, mi (.aload 0) 1, mj (.getfield 30) 3 2 3 7, mz, mz, mi (.if_icmp .ge 33) 3, mz, mz, mi (.aload 0) 1, mi (.aload 1) 1, mi (.iload 2) 1, mj (.invokevirtual 45) 3 14 2 11, mz, mz],
  [mi (.ifCond .eq 18) 3, mz, mz, mi (.aload 0) 1, mj (.getfield 15) 3 2 1 2, mz, mz, mi (.iload 2) 1, mi .iaload 1, mi (.aload 1) 1, mj (.getfield 49) 3 4 11 12, mz, mz, mi (.if_icmp .eq 5) 3, mz, mz],
  [mi (.iload 2) 1, mi .ireturn 1, mi (.iinc 2 1) 3, mz, mz, mi (.goto (-35)) 3, mz, mz, mi (.aload 0) 1, mj (.getfield 30) 3 2 3 7, mz, mz, mi .ireturn 1]]
def kX2_firstElsewhere : List (List (Option mR)) := [[mi (.aload 0) 1, mi (.aload 1) 1, mj (.invokevirtual 52) 3 15 1 13, mz, mz, mi (.istore 2) 1, mi (.iload 2) 1, mi (.aload 0) 1, mj (.getfield 30) 3 2 3 7, mz, mz, mi (.if_icmp .ge 12) 3, mz, mz, mi (.aload 0) 1, mj (.getfield 18) 3 2 2 3],
  [mz, mz, mi (.iload 2) 1, mi .iaload 1, mi (.goto 7) 3, mz, mz, mi (.aload 1) 1, mj (.getfield 42) 3 4 12 10, mz, mz, mi .ireturn 1]]
def kX2_lastThere : List (List (Option mR)) := [[mi (.aload 0) 1, mi (.aload 1) 1, mj (.invokevirtual 52) 3 15 1 13, mz, mz, mi (.iconst 1) 1, mi .isub 1, mi (.istore 2) 1, mi (.iload 2) 1, mi (.ifCond .lt 25) 3, mz, mz, mi (.aload 0) 1, mi (.aload 1) 1, mi (.iload 2) 1, mj (.invokevirtual 45) 3 14 2 11],
  [mz, mz, mi (.ifCond .eq 10) 3, mz, mz, mi (.aload 0) 1, mj (.getfield 18) 3 2 2 3, mz, mz, mi (.iload 2) 1, mi .iaload 1, mi .ireturn 1, mi (.iinc 2 (-1)) 3, mz, mz, mi (.goto (-23)) 3],
  [mz, mz, mi (.aload 1) 1, mj (.getfield 39) 3 4 7 9, mz, mz, mi .ireturn 1]]
def kX2_beginBreak : List (List (Option mR)) := [[mi (.aload 0) 1, mj (.getfield 56) 3 2 7 14, mz, mz, mi (.iconst 200) 3, mz, mz, mi (.if_icmp .lt 5) 3, mz, mz, mi (.iconst 0) 1, mi .ireturn 1, mi (.aload 0) 1, mj (.getfield 21) 3 2 4 4, mz, mz],
  [mi (.aload 0) 1, mj (.getfield 56) 3 2 7 14, mz, mz, mi (.iload 1) 1, mi .iastore 1, mi (.aload 0) 1, mj (.getfield 24) 3 2 5 5, mz, mz, mi (.aload 0) 1, mj (.getfield 56) 3 2 7 14, mz, mz, mi (.iload 2) 1, mi .iastore 1],
  [mi (.aload 0) 1, mj (.getfield 27) 3 2 6 6, mz, mz, mi (.aload 0) 1, mj (.getfield 56) 3 2 7 14, mz, mz, mi (.iconst (-1)) 1, mi .iastore 1, mi (.aload 0) 1, mi .dup 1, mj (.getfield 56) 3 2 7 14, mz, mz, mi (.iconst 1) 1],
  [mi .iadd 1, mj (.putfield 56) 3 2 7 14, mz, mz, mi (.iconst 1) 1, mi .ireturn 1]]
def kX2_endBreak : List (List (Option mR)) := [[mi (.iconst 0) 1, mi (.istore 3) 1, mi (.iload 3) 1, mi (.aload 0) 1, mj (.getfield 56) 3 2 7 14, mz, mz, mi (.if_icmp .ge 35) 3, mz, mz, mi (.aload 0) 1, mj (.getfield 21) 3 2 4 4, mz, mz, mi (.iload 3) 1, mi .iaload 1],
  [mi (.iload 1) 1, mi (.if_icmp .ne 19) 3, mz, mz, mi (.aload 0) 1, mj (.getfield 27) 3 2 6 6, mz, mz, mi (.iload 3) 1, mi .iaload 1, mi (.ifCond .ge 10) 3, mz, mz, mi (.aload 0) 1, mj (.getfield 27) 3 2 6 6, mz],
  [mz, mi (.iload 3) 1, mi (.iload 2) 1, mi .iastore 1, mi (.iinc 3 1) 3, mz, mz, mi (.goto (-37)) 3, mz, mz, mi .return_ 1]]
def kX2_hoursBroken : List (List (Option mR)) := [[mi (.iconst 0) 1, mi (.istore 4) 2, mz, mi (.iconst 0) 1, mi (.istore 5) 2, mz, mi (.iload 5) 2, mz, mi (.aload 0) 1, mj (.getfield 56) 3 2 7 14, mz, mz, mi (.if_icmp .ge 70) 3, mz, mz, mi (.aload 0) 1],
  [mj (.getfield 21) 3 2 4 4, mz, mz, mi (.iload 5) 2, mz, mi .iaload 1, mi (.iload 1) 1, mi (.if_icmp .ne 53) 3, mz, mz, mi (.aload 0) 1, mj (.getfield 27) 3 2 6 6, mz, mz, mi (.iload 5) 2, mz],
  [mi .iaload 1, mi (.ifCond .ge 7) 3, mz, mz, mi (.iload 3) 1, mi (.goto 14) 3, mz, mz, mi (.iload 3) 1, mi (.aload 0) 1, mj (.getfield 27) 3 2 6 6, mz, mz, mi (.iload 5) 2, mz, mi .iaload 1],
  [mj .fsub 3 0 0 15, mz, mz, mi (.istore 6) 2, mz, mi (.iload 4) 2, mz, mi (.iconst 0) 1, mi (.iload 6) 2, mz, mi (.iload 2) 1, mi (.aload 0) 1, mj (.getfield 24) 3 2 5 5, mz, mz, mi (.iload 5) 2],
  [mz, mi .iaload 1, mj .fadd 3 0 0 16, mz, mz, mi .isub 1, mj .fadd 3 0 0 16, mz, mz, mi .iadd 1, mi (.istore 4) 2, mz, mi (.iinc 5 1) 3, mz, mz, mi (.goto (-73)) 3],
  [mz, mz, mi (.iload 4) 2, mz, mi .ireturn 1]]
def kX3_init : List (List (Option mR)) := [[mi (.aload 0) 1, mi .pop2 3, mz, mz, mi (.aload 0) 1, mi (.iconst 5) 1, mj (.anewarray 11) 3 4 4 1, mz, mz, mj (.putfield 13) 3 3 0 2, mz, mz, mi (.aload 0) 1, mi (.iconst 5) 1, mj (.anewarray 11) 3 4 4 1, mz],
  [mz, mj (.putfield 17) 3 3 2 3, mz, mz, mi (.aload 0) 1, mi (.iconst 5) 1, mi (.newarray .int) 2, mz, mj (.putfield 20) 3 3 4 4, mz, mz, mi .return_ 1]]
def kX3_isPromised : List (List (Option mR)) := [[mi (.aload 0) 1, mi (.ifnull 25) 3, mz, mz, mi (.aload 0) 1, mj (.getfield 24) 3 4 9 5, mz, mz, mi (.ifnull 18) 3, mz, mz, mi (.aload 0) 1, mj (.getfield 24) 3 4 9 5, mz, mz, mj (.getfield 28) 3 7 9 6],
  [mz, mz, mi (.iconst 1) 1, mi (.if_icmp .ne 7) 3, mz, mz, mi (.iconst 1) 1, mi (.goto 4) 3, mz, mz, mi (.iconst 0) 1, mi .ireturn 1]]
def kX3_joins : List (List (Option mR)) := [[mi (.iconst 0) 1, mi (.istore 2) 1, mi (.iload 2) 1, mi (.aload 0) 1, mj (.getfield 34) 3 3 1 7, mz, mz, mi (.if_icmp .ge 46) 3, mz, mz, mi (.aload 0) 1, mj (.getfield 13) 3 3 0 2, mz, mz, mi (.iload 2) 1, mi .aaload 1],
  [mi (.aload 1) 1, mi (.if_acmp .eq 28) 3, mz, mz, mi (.aload 0) 1, mj (.getfield 13) 3 3 0 2, mz, mz, mi (.iload 2) 1, mi .aaload 1, mi (.ifnull 19) 3, mz, mz, mi (.aload 0) 1, mj (.getfield 13) 3 3 0 2, mz],
  [mz, mi (.iload 2) 1, mi .aaload 1, mj (.getfield 37) 3 4 4 8, mz, mz, mi (.aload 1) 1, mj (.getfield 37) 3 4 4 8, mz, mz, mi (.if_icmp .eq 5) 3, mz, mz, mi (.iconst 0) 1, mi .ireturn 1, mi (.iinc 2 1) 3],
  [mz, mz, mi (.goto (-48)) 3, mz, mz, mi (.aload 1) 1, mj (.invokestatic 40) 3 22 1 9, mz, mz, mi (.ifCond .eq 14) 3, mz, mz, mi (.aload 1) 1, mj (.getfield 44) 3 4 3 10, mz, mz],
  [mi (.ifCond .ne 7) 3, mz, mz, mi (.iconst 1) 1, mi (.goto 4) 3, mz, mz, mi (.iconst 0) 1, mi .ireturn 1]]
def kX3_add : List (List (Option mR)) := [[mi (.aload 0) 1, mi (.aload 1) 1, mj (.invokevirtual 47) 3 23 1 11, mz, mz, mi (.ifCond .ne 6) 3, mz, mz, mi (.iconst (-2)) 2, mz, mi .ireturn 1, mi (.aload 0) 1, mj (.getfield 34) 3 3 1 7, mz, mz, mi (.iconst 5) 1],
  [mi (.if_icmp .lt 6) 3, mz, mz, mi (.iconst (-3)) 2, mz, mi .ireturn 1, mi (.aload 0) 1, mj (.getfield 13) 3 3 0 2, mz, mz, mi (.aload 0) 1, mj (.getfield 34) 3 3 1 7, mz, mz, mi (.aload 1) 1, mi .aastore 1],
  [mi (.aload 0) 1, mi .dup 1, mj (.getfield 34) 3 3 1 7, mz, mz, mi (.iconst 1) 1, mi .iadd 1, mj (.putfield 34) 3 3 1 7, mz, mz, mi (.aload 0) 1, mj (.getfield 34) 3 3 1 7, mz, mz, mi .ireturn 1]]
def kX3_drive : List (List (Option mR)) := [[mi (.aload 0) 1, mj (.invokevirtual 50) 3 27 0 12, mz, mz, mi (.aload 0) 1, mj (.getfield 34) 3 3 1 7, mz, mz, mi (.istore 2) 1, mi (.aload 0) 1, mi (.iconst 0) 1, mj (.putfield 34) 3 3 1 7, mz, mz, mi (.iload 2) 1, mi (.ifCond .eq 12) 3],
  [mz, mz, mi (.aload 0) 1, mj (.getfield 13) 3 3 0 2, mz, mz, mi (.iconst 0) 1, mi .aaload 1, mi (.ifnonnull 6) 3, mz, mz, mi (.iconst (-2)) 2, mz, mi .ireturn 1, mi (.aload 0) 1, mi (.iload 2) 1],
  [mj (.invokevirtual 53) 3 28 1 13, mz, mz, mi (.iconst 260) 3, mz, mz, mi (.if_icmp .le 6) 3, mz, mz, mi (.iconst (-4)) 2, mz, mi .ireturn 1, mi (.aload 0) 1, mj (.getfield 13) 3 3 0 2, mz, mz],
  [mi (.iconst 0) 1, mi .aaload 1, mj (.getfield 37) 3 4 4 8, mz, mz, mi (.istore 3) 1, mi (.aload 0) 1, mi (.iload 2) 1, mj (.invokevirtual 57) 3 29 1 14, mz, mz, mi (.iconst (-1)) 1, mi (.istore 4) 2, mz, mi (.iconst 0) 1, mi (.istore 5) 2],
  [mz, mi (.iload 5) 2, mz, mi (.iload 2) 1, mi (.if_icmp .ge 18) 3, mz, mz, mi (.aload 0) 1, mj (.getfield 20) 3 3 4 4, mz, mz, mi (.iload 5) 2, mz, mi (.iload 5) 2, mz, mi .iastore 1],
  [mi (.iinc 5 1) 3, mz, mz, mi (.goto (-18)) 3, mz, mz, mi (.iconst 1) 1, mi (.istore 5) 2, mz, mi (.iconst 0) 1, mi (.istore 6) 2, mz, mi (.iload 5) 2, mz, mi (.ifCond .eq 58) 3, mz],
  [mz, mi (.iload 6) 2, mz, mi (.iconst 120) 2, mz, mi (.if_icmp .ge 51) 3, mz, mz, mi (.aload 0) 1, mi (.aload 1) 1, mi (.iload 3) 1, mi (.iload 2) 1, mj (.invokevirtual 61) 3 30 3 15, mz, mz, mi (.istore 7) 2],
  [mz, mi (.iload 7) 2, mz, mi (.ifCond .lt 24) 3, mz, mz, mi (.iload 4) 2, mz, mi (.ifCond .lt 10) 3, mz, mz, mi (.iload 7) 2, mz, mi (.iload 4) 2, mz, mi (.if_icmp .ge 12) 3],
  [mz, mz, mi (.iload 7) 2, mz, mi (.istore 4) 2, mz, mi (.aload 0) 1, mi (.iload 2) 1, mj (.invokevirtual 65) 3 32 1 16, mz, mz, mi (.aload 0) 1, mi (.iload 2) 1, mj (.invokevirtual 68) 3 33 1 17, mz, mz],
  [mi (.istore 5) 2, mz, mi (.iinc 6 1) 3, mz, mz, mi (.goto (-57)) 3, mz, mz, mi (.iload 4) 2, mz, mi (.ifCond .ge 8) 3, mz, mz, mi (.iconst (-3)) 2, mz, mi (.goto 5) 3],
  [mz, mz, mi (.iload 4) 2, mz, mi .ireturn 1]]
def kX3_rowAt : List (List (Option mR)) := [[mi (.iload 1) 1, mi (.ifCond .lt 20) 3, mz, mz, mi (.iload 1) 1, mi (.aload 0) 1, mj (.getfield 72) 3 3 3 18, mz, mz, mi (.if_icmp .ge 12) 3, mz, mz, mi (.aload 0) 1, mj (.getfield 17) 3 3 2 3, mz, mz],
  [mi (.iload 1) 1, mi .aaload 1, mi (.goto 4) 3, mz, mz, mi .aconst_null 1, mi .areturn 1]]
def kX3_dropOthers : List (List (Option mR)) := [[mi (.iconst 0) 1, mi (.istore 1) 1, mi (.iconst 0) 1, mi (.istore 2) 1, mi (.iload 2) 1, mi (.aload 0) 1, mj (.getfield 34) 3 3 1 7, mz, mz, mi (.if_icmp .ge 36) 3, mz, mz, mi (.aload 0) 1, mj (.getfield 13) 3 3 0 2, mz, mz],
  [mi (.iload 2) 1, mi .aaload 1, mj (.invokestatic 40) 3 22 1 9, mz, mz, mi (.ifCond .eq 18) 3, mz, mz, mi (.aload 0) 1, mj (.getfield 13) 3 3 0 2, mz, mz, mi (.iload 1) 1, mi (.aload 0) 1, mj (.getfield 13) 3 3 0 2, mz],
  [mz, mi (.iload 2) 1, mi .aaload 1, mi .aastore 1, mi (.iinc 1 1) 3, mz, mz, mi (.iinc 2 1) 3, mz, mz, mi (.goto (-38)) 3, mz, mz, mi (.aload 0) 1, mi (.iload 1) 1, mj (.putfield 34) 3 3 1 7],
  [mz, mz, mi .return_ 1]]
def kX3_weight : List (List (Option mR)) := [[mi (.iconst 0) 1, mi (.istore 2) 1, mi (.iconst 0) 1, mi (.istore 3) 1, mi (.iload 3) 1, mi (.iload 1) 1, mi (.if_icmp .ge 37) 3, mz, mz, mi (.iload 2) 1, mi (.aload 0) 1, mj (.getfield 13) 3 3 0 2, mz, mz, mi (.iload 3) 1, mi .aaload 1],
  [mi (.ifnonnull 7) 3, mz, mz, mi (.iconst 0) 1, mi (.goto 15) 3, mz, mz, mi (.aload 0) 1, mj (.getfield 13) 3 3 0 2, mz, mz, mi (.iload 3) 1, mi .aaload 1, mj (.getfield 75) 3 4 1 19, mz, mz],
  [mj (.getfield 79) 3 1 1 20, mz, mz, mi .iadd 1, mi (.istore 2) 1, mi (.iinc 3 1) 3, mz, mz, mi (.goto (-36)) 3, mz, mz, mi (.iload 2) 1, mi .ireturn 1]]
def kX3_sortByNumber : List (List (Option mR)) := [[mi (.iconst 1) 1, mi (.istore 2) 1, mi (.iload 2) 1, mi (.iload 1) 1, mi (.if_icmp .ge 80) 3, mz, mz, mi (.iload 2) 1, mi (.istore 3) 1, mi (.iload 3) 1, mi (.ifCond .le 68) 3, mz, mz, mi (.aload 0) 1, mj (.getfield 13) 3 3 0 2, mz],
  [mz, mi (.iload 3) 1, mi (.iconst 1) 1, mi .isub 1, mi .aaload 1, mi (.astore 4) 2, mz, mi (.aload 0) 1, mj (.getfield 13) 3 3 0 2, mz, mz, mi (.iload 3) 1, mi .aaload 1, mi (.astore 5) 2, mz, mi (.aload 4) 2],
  [mz, mi (.ifnull 39) 3, mz, mz, mi (.aload 5) 2, mz, mi (.ifnull 34) 3, mz, mz, mi (.aload 4) 2, mz, mj (.getfield 83) 3 4 0 21, mz, mz, mi (.aload 5) 2, mz],
  [mj (.getfield 83) 3 4 0 21, mz, mz, mi (.if_icmp .le 21) 3, mz, mz, mi (.aload 0) 1, mj (.getfield 13) 3 3 0 2, mz, mz, mi (.iload 3) 1, mi (.iconst 1) 1, mi .isub 1, mi (.aload 5) 2, mz, mi .aastore 1],
  [mi (.aload 0) 1, mj (.getfield 13) 3 3 0 2, mz, mz, mi (.iload 3) 1, mi (.aload 4) 2, mz, mi .aastore 1, mi (.iinc 3 (-1)) 3, mz, mz, mi (.goto (-66)) 3, mz, mz, mi (.iinc 2 1) 3, mz],
  [mz, mi (.goto (-79)) 3, mz, mz, mi .return_ 1]]
def kX3_rowMiles : List (List (Option mR)) := [[mi (.iload 2) 1, mi (.istore 4) 2, mz, mi (.iconst 0) 1, mi (.istore 5) 2, mz, mi (.iconst 0) 1, mi (.istore 6) 2, mz, mi (.iload 6) 2, mz, mi (.iload 3) 1, mi (.if_icmp .gt 60) 3, mz, mz, mi (.iload 6) 2],
  [mz, mi (.iload 3) 1, mi (.if_icmp .ge 17) 3, mz, mz, mi (.aload 0) 1, mi (.aload 0) 1, mj (.getfield 20) 3 3 4 4, mz, mz, mi (.iload 6) 2, mz, mi .iaload 1, mj (.invokevirtual 86) 3 31 1 22, mz, mz],
  [mi (.goto 4) 3, mz, mz, mi (.iload 2) 1, mi (.istore 7) 2, mz, mi (.aload 1) 1, mi (.iload 4) 2, mz, mi (.iload 7) 2, mz, mj (.invokevirtual 89) 3 89 2 23, mz, mz, mi (.istore 8) 2, mz],
  [mi (.iload 8) 2, mz, mi (.ifCond .ge 5) 3, mz, mz, mi (.iconst (-1)) 1, mi .ireturn 1, mi (.iload 5) 2, mz, mi (.iload 8) 2, mz, mi .iadd 1, mi (.istore 5) 2, mz, mi (.iload 7) 2, mz],
  [mi (.istore 4) 2, mz, mi (.iinc 6 1) 3, mz, mz, mi (.goto (-60)) 3, mz, mz, mi (.iload 5) 2, mz, mi .ireturn 1]]
def kX3_customerTown : List (List (Option mR)) := [[mi (.iload 1) 1, mi (.ifCond .lt 21) 3, mz, mz, mi (.iload 1) 1, mi (.aload 0) 1, mj (.getfield 13) 3 3 0 2, mz, mz, mi .arraylength 1, mi (.if_icmp .ge 12) 3, mz, mz, mi (.aload 0) 1, mj (.getfield 13) 3 3 0 2, mz],
  [mz, mi (.iload 1) 1, mi .aaload 1, mi (.goto 4) 3, mz, mz, mi .aconst_null 1, mi (.astore 2) 1, mi (.aload 2) 1, mi (.ifnull 10) 3, mz, mz, mi (.aload 2) 1, mj (.getfield 24) 3 4 9 5, mz, mz],
  [mi (.ifnonnull 7) 3, mz, mz, mi (.iconst (-1)) 1, mi (.goto 10) 3, mz, mz, mi (.aload 2) 1, mj (.getfield 24) 3 4 9 5, mz, mz, mj (.getfield 95) 3 7 7 24, mz, mz, mi .ireturn 1]]
def kX3_keepRow : List (List (Option mR)) := [[mi (.iconst 0) 1, mi (.istore 2) 1, mi (.iload 2) 1, mi (.iload 1) 1, mi (.if_icmp .ge 26) 3, mz, mz, mi (.aload 0) 1, mj (.getfield 17) 3 3 2 3, mz, mz, mi (.iload 2) 1, mi (.aload 0) 1, mj (.getfield 13) 3 3 0 2, mz, mz],
  [mi (.aload 0) 1, mj (.getfield 20) 3 3 4 4, mz, mz, mi (.iload 2) 1, mi .iaload 1, mi .aaload 1, mi .aastore 1, mi (.iinc 2 1) 3, mz, mz, mi (.goto (-25)) 3, mz, mz, mi (.aload 0) 1, mi (.iload 1) 1],
  [mj (.putfield 72) 3 3 3 18, mz, mz, mi .return_ 1]]
def kX3_nextTurn : List (List (Option mR)) := [[mi (.iload 1) 1, mi (.iconst 2) 1, mi .isub 1, mi (.istore 2) 1, mi (.iload 2) 1, mi (.ifCond .lt 26) 3, mz, mz, mi (.aload 0) 1, mj (.getfield 20) 3 3 4 4, mz, mz, mi (.iload 2) 1, mi .iaload 1, mi (.aload 0) 1, mj (.getfield 20) 3 3 4 4],
  [mz, mz, mi (.iload 2) 1, mi (.iconst 1) 1, mi .iadd 1, mi .iaload 1, mi (.if_icmp .le 9) 3, mz, mz, mi (.iinc 2 (-1)) 3, mz, mz, mi (.goto (-24)) 3, mz, mz, mi (.iload 2) 1],
  [mi (.ifCond .ge 5) 3, mz, mz, mi (.iconst 0) 1, mi .ireturn 1, mi (.iload 1) 1, mi (.iconst 1) 1, mi .isub 1, mi (.istore 3) 1, mi (.iload 3) 1, mi (.iload 2) 1, mi (.if_icmp .le 24) 3, mz, mz, mi (.aload 0) 1, mj (.getfield 20) 3 3 4 4],
  [mz, mz, mi (.iload 3) 1, mi .iaload 1, mi (.aload 0) 1, mj (.getfield 20) 3 3 4 4, mz, mz, mi (.iload 2) 1, mi .iaload 1, mi (.if_icmp .ge 9) 3, mz, mz, mi (.iinc 3 (-1)) 3, mz, mz],
  [mi (.goto (-23)) 3, mz, mz, mi (.aload 0) 1, mi (.iload 2) 1, mi (.iload 3) 1, mj (.invokevirtual 96) 3 34 2 25, mz, mz, mi (.iload 2) 1, mi (.iconst 1) 1, mi .iadd 1, mi (.istore 4) 2, mz, mi (.iload 1) 1, mi (.iconst 1) 1],
  [mi .isub 1, mi (.istore 5) 2, mz, mi (.iload 4) 2, mz, mi (.iload 5) 2, mz, mi (.if_icmp .ge 20) 3, mz, mz, mi (.aload 0) 1, mi (.iload 4) 2, mz, mi (.iload 5) 2, mz, mj (.invokevirtual 96) 3 34 2 25],
  [mz, mz, mi (.iinc 4 1) 3, mz, mz, mi (.iinc 5 (-1)) 3, mz, mz, mi (.goto (-21)) 3, mz, mz, mi (.iconst 1) 1, mi .ireturn 1]]
def kX3_swapTurns : List (List (Option mR)) := [[mi (.aload 0) 1, mj (.getfield 20) 3 3 4 4, mz, mz, mi (.iload 1) 1, mi .iaload 1, mi (.istore 3) 1, mi (.aload 0) 1, mj (.getfield 20) 3 3 4 4, mz, mz, mi (.iload 1) 1, mi (.aload 0) 1, mj (.getfield 20) 3 3 4 4, mz, mz],
  [mi (.iload 2) 1, mi .iaload 1, mi .iastore 1, mi (.aload 0) 1, mj (.getfield 20) 3 3 4 4, mz, mz, mi (.iload 2) 1, mi (.iload 3) 1, mi .iastore 1, mi .return_ 1]]
def kX4_init : List (List (Option mR)) := [[mi (.aload 0) 1, mi .pop2 3, mz, mz, mi (.aload 0) 1, mi (.iconst (-1)) 1, mj (.putfield 9) 3 4 6 1, mz, mz, mi (.aload 0) 1, mi (.iconst (-1)) 1, mj (.putfield 15) 3 4 11 2, mz, mz, mi (.aload 0) 1, mi (.iconst (-1)) 1],
  [mj (.putfield 18) 3 4 12 3, mz, mz, mi (.aload 0) 1, mi (.iconst 5) 1, mi (.newarray .int) 2, mz, mj (.putfield 21) 3 4 13 4, mz, mz, mi (.aload 0) 1, mi (.iconst 5) 1, mi (.newarray .int) 2, mz, mj (.putfield 25) 3 4 14 5, mz],
  [mz, mi (.aload 0) 1, mi (.iload 1) 1, mj (.putfield 28) 3 4 0 6, mz, mz, mi (.aload 0) 1, mi (.aload 2) 1, mj (.putfield 31) 3 4 1 7, mz, mz, mi (.aload 0) 1, mi (.iload 3) 1, mj (.putfield 35) 3 4 4 8, mz, mz],
  [mi (.aload 0) 1, mi (.iload 4) 2, mz, mj (.putfield 38) 3 4 7 9, mz, mz, mi (.aload 0) 1, mj (.new 41) 3 6 0 10, mz, mz, mi .dup 1, mi (.iload 4) 2, mz, mi (.iload 5) 2, mz, mj (.invokespecial 43) 3 56 2 11],
  [mz, mz, mj (.putfield 46) 3 4 2 12, mz, mz, mi .return_ 1]]
def kX4_isFree : List (List (Option mR)) := [[mi (.aload 0) 1, mj (.getfield 50) 3 4 5 13, mz, mz, mi (.ifCond .ne 21) 3, mz, mz, mi (.aload 0) 1, mj (.getfield 53) 3 4 3 14, mz, mz, mi (.ifCond .ne 14) 3, mz, mz, mi (.aload 0) 1, mj (.getfield 56) 3 4 9 15],
  [mz, mz, mi (.ifnonnull 7) 3, mz, mz, mi (.iconst 1) 1, mi (.goto 4) 3, mz, mz, mi (.iconst 0) 1, mi .ireturn 1]]
def kX4_sinceLook : List (List (Option mR)) := [[mi (.aload 0) 1, mj (.getfield 46) 3 4 2 12, mz, mz, mj (.invokevirtual 60) 3 58 0 16, mz, mz, mi (.aload 0) 1, mj (.getfield 64) 3 4 8 17, mz, mz, mi .isub 1, mi .ireturn 1]]
def kX4_hoursToLook : List (List (Option mR)) := [[mi (.aload 0) 1, mj (.getfield 31) 3 4 1 7, mz, mz, mj (.getfield 67) 3 1 2 18, mz, mz, mi (.ifCond .ne 7) 3, mz, mz, mi (.iconst (-1)) 1, mi (.goto 19) 3, mz, mz, mi (.iconst 0) 1, mi (.aload 0) 1],
  [mj (.getfield 31) 3 4 1 7, mz, mz, mj (.getfield 67) 3 1 2 18, mz, mz, mi (.aload 0) 1, mj (.invokevirtual 72) 3 37 0 19, mz, mz, mi .isub 1, mj .fadd 3 0 0 20, mz, mz, mi .ireturn 1]]
def kX4_lookDue : List (List (Option mR)) := [[mi (.aload 0) 1, mj (.getfield 31) 3 4 1 7, mz, mz, mj (.getfield 67) 3 1 2 18, mz, mz, mi (.ifCond .le 21) 3, mz, mz, mi (.aload 0) 1, mj (.invokevirtual 72) 3 37 0 19, mz, mz, mi (.aload 0) 1, mj (.getfield 31) 3 4 1 7],
  [mz, mz, mj (.getfield 67) 3 1 2 18, mz, mz, mi (.if_icmp .lt 7) 3, mz, mz, mi (.iconst 1) 1, mi (.goto 4) 3, mz, mz, mi (.iconst 0) 1, mi .ireturn 1]]
def kX4_lookLapses : List (List (Option mR)) := [[mi (.aload 0) 1, mj (.getfield 31) 3 4 1 7, mz, mz, mj (.getfield 67) 3 1 2 18, mz, mz, mi (.ifCond .le 23) 3, mz, mz, mi (.aload 0) 1, mj (.invokevirtual 72) 3 37 0 19, mz, mz, mi (.iload 1) 1, mi .iadd 1],
  [mi (.aload 0) 1, mj (.getfield 31) 3 4 1 7, mz, mz, mj (.getfield 67) 3 1 2 18, mz, mz, mi (.if_icmp .le 7) 3, mz, mz, mi (.iconst 1) 1, mi (.goto 4) 3, mz, mz, mi (.iconst 0) 1, mi .ireturn 1]]
def kX4_beginLook : List (List (Option mR)) := [[mi (.aload 0) 1, mi (.iconst 1) 1, mj (.putfield 50) 3 4 5 13, mz, mz, mi (.aload 0) 1, mi (.iload 1) 1, mj (.putfield 9) 3 4 6 1, mz, mz, mi (.aload 0) 1, mi (.aload 0) 1, mj (.getfield 46) 3 4 2 12, mz, mz, mj (.invokevirtual 60) 3 58 0 16],
  [mz, mz, mj (.putfield 64) 3 4 8 17, mz, mz, mi .return_ 1]]
def kX4_load : List (List (Option mR)) := [[mi (.aload 0) 1, mi (.iconst 1) 1, mj (.putfield 53) 3 4 3 14, mz, mz, mi (.aload 0) 1, mi (.iload 1) 1, mj (.putfield 35) 3 4 4 8, mz, mz, mi (.aload 0) 1, mi (.iload 2) 1, mj (.putfield 38) 3 4 7 9, mz, mz, mi (.aload 0) 1],
  [mi (.iload 2) 1, mi (.iload 3) 1, mi .iadd 1, mj (.putfield 9) 3 4 6 1, mz, mz, mi (.aload 0) 1, mi (.iload 2) 1, mj (.invokevirtual 81) 3 43 1 21, mz, mz, mi .return_ 1]]
def kX4_settle : List (List (Option mR)) := [[mi (.aload 0) 1, mj (.getfield 9) 3 4 6 1, mz, mz, mi (.ifCond .lt 11) 3, mz, mz, mi (.aload 0) 1, mj (.getfield 9) 3 4 6 1, mz, mz, mi (.iload 1) 1, mi (.if_icmp .le 4) 3, mz, mz, mi .return_ 1],
  [mi (.aload 0) 1, mj (.getfield 53) 3 4 3 14, mz, mz, mi (.iconst 1) 1, mi (.if_icmp .ne 30) 3, mz, mz, mi (.aload 0) 1, mi (.aload 0) 1, mj (.getfield 56) 3 4 9 15, mz, mz, mi (.ifnonnull 7) 3, mz, mz],
  [mi (.iconst 0) 1, mi (.goto 4) 3, mz, mz, mi (.iconst 2) 1, mj (.putfield 53) 3 4 3 14, mz, mz, mi (.aload 0) 1, mi (.aload 0) 1, mj (.getfield 9) 3 4 6 1, mz, mz, mj (.putfield 38) 3 4 7 9, mz, mz],
  [mi (.goto 16) 3, mz, mz, mi (.aload 0) 1, mj (.getfield 50) 3 4 5 13, mz, mz, mi (.iconst 1) 1, mi (.if_icmp .ne 8) 3, mz, mz, mi (.aload 0) 1, mi (.iconst 0) 1, mj (.putfield 50) 3 4 5 13, mz, mz],
  [mi (.aload 0) 1, mi (.iconst (-1)) 1, mj (.putfield 9) 3 4 6 1, mz, mz, mi .return_ 1]]
def kX4_leave : List (List (Option mR)) := [[mi (.aload 0) 1, mi (.aload 0) 1, mj (.getfield 35) 3 4 4 8, mz, mz, mj (.putfield 15) 3 4 11 2, mz, mz, mi (.aload 0) 1, mi (.iload 2) 1, mj (.putfield 18) 3 4 12 3, mz, mz, mi (.aload 0) 1, mi (.iload 1) 1, mj (.putfield 50) 3 4 5 13],
  [mz, mz, mi (.aload 0) 1, mi (.iconst 3) 1, mj (.putfield 53) 3 4 3 14, mz, mz, mi (.aload 0) 1, mi (.iconst (-1)) 1, mj (.putfield 35) 3 4 4 8, mz, mz, mi (.aload 0) 1, mi (.iconst (-1)) 1, mj (.putfield 9) 3 4 6 1, mz],
  [mz, mi (.aload 0) 1, mi .aconst_null 1, mj (.putfield 56) 3 4 9 15, mz, mz, mi .return_ 1]]
def kX4_addLink : List (List (Option mR)) := [[mi (.aload 0) 1, mj (.getfield 85) 3 4 15 22, mz, mz, mi (.iconst 5) 1, mi (.if_icmp .lt 6) 3, mz, mz, mi (.iconst (-3)) 2, mz, mi .ireturn 1, mi (.aload 0) 1, mj (.getfield 21) 3 4 13 4, mz, mz, mi (.aload 0) 1],
  [mj (.getfield 85) 3 4 15 22, mz, mz, mi (.iload 1) 1, mi .iastore 1, mi (.aload 0) 1, mj (.getfield 25) 3 4 14 5, mz, mz, mi (.aload 0) 1, mj (.getfield 85) 3 4 15 22, mz, mz, mi (.iload 2) 1, mi .iastore 1, mi (.aload 0) 1],
  [mi .dup 1, mj (.getfield 85) 3 4 15 22, mz, mz, mi (.iconst 1) 1, mi .iadd 1, mj (.putfield 85) 3 4 15 22, mz, mz, mi (.aload 0) 1, mj (.getfield 85) 3 4 15 22, mz, mz, mi .ireturn 1]]
def kX4_ownerOf : List (List (Option mR)) := [[mi (.iload 1) 1, mi (.ifCond .lt 20) 3, mz, mz, mi (.iload 1) 1, mi (.aload 0) 1, mj (.getfield 85) 3 4 15 22, mz, mz, mi (.if_icmp .ge 12) 3, mz, mz, mi (.aload 0) 1, mj (.getfield 21) 3 4 13 4, mz, mz],
  [mi (.iload 1) 1, mi .iaload 1, mi (.goto 4) 3, mz, mz, mi (.iconst (-1)) 1, mi .ireturn 1]]
def kX4_rateOf : List (List (Option mR)) := [[mi (.iload 1) 1, mi (.ifCond .lt 20) 3, mz, mz, mi (.iload 1) 1, mi (.aload 0) 1, mj (.getfield 85) 3 4 15 22, mz, mz, mi (.if_icmp .ge 12) 3, mz, mz, mi (.aload 0) 1, mj (.getfield 25) 3 4 14 5, mz, mz],
  [mi (.iload 1) 1, mi .iaload 1, mi (.goto 4) 3, mz, mz, mi (.iconst 0) 1, mi .ireturn 1]]
def kX5_init : List (List (Option mR)) := [[mi (.aload 0) 1, mi .pop2 3, mz, mz, mi (.aload 0) 1, mi (.iconst 6) 2, mz, mj (.anewarray 11) 3 5 7 1, mz, mz, mj (.putfield 13) 3 5 0 2, mz, mz, mi (.aload 0) 1, mi (.iconst (-1)) 1, mj (.putfield 17) 3 5 2 3],
  [mz, mz, mi (.aload 0) 1, mi (.iconst 64) 2, mz, mi (.newarray .long) 2, mz, mj (.putfield 21) 3 5 3 4, mz, mz, mi (.aload 0) 1, mi (.iconst 6) 2, mz, mi (.newarray .long) 2, mz, mj (.putfield 25) 3 5 4 5],
  [mz, mz, mi .return_ 1]]
def kX5_isListed : List (List (Option mR)) := [[mi (.iconst 0) 1, mi (.istore 2) 1, mi (.iload 2) 1, mi (.aload 0) 1, mj (.getfield 28) 3 5 1 6, mz, mz, mi (.if_icmp .ge 21) 3, mz, mz, mi (.aload 0) 1, mj (.getfield 13) 3 5 0 2, mz, mz, mi (.iload 2) 1, mi .aaload 1],
  [mi (.aload 1) 1, mi (.if_acmp .ne 5) 3, mz, mz, mi (.iconst 1) 1, mi .ireturn 1, mi (.iinc 2 1) 3, mz, mz, mi (.goto (-23)) 3, mz, mz, mi (.iconst 0) 1, mi .ireturn 1]]
def kX5_add : List (List (Option mR)) := [[mi (.aload 1) 1, mj (.getfield 31) 3 7 9 7, mz, mz, mi (.ifCond .ne 11) 3, mz, mz, mi (.aload 0) 1, mi (.aload 1) 1, mj (.invokevirtual 34) 3 49 1 8, mz, mz, mi (.ifCond .eq 6) 3, mz, mz, mi (.iconst (-2)) 2],
  [mz, mi .ireturn 1, mi (.aload 0) 1, mj (.getfield 28) 3 5 1 6, mz, mz, mi (.iconst 6) 2, mz, mi (.if_icmp .lt 6) 3, mz, mz, mi (.iconst (-3)) 2, mz, mi .ireturn 1, mi (.aload 0) 1, mj (.getfield 13) 3 5 0 2],
  [mz, mz, mi (.aload 0) 1, mj (.getfield 28) 3 5 1 6, mz, mz, mi (.aload 1) 1, mi .aastore 1, mi (.aload 0) 1, mi .dup 1, mj (.getfield 28) 3 5 1 6, mz, mz, mi (.iconst 1) 1, mi .iadd 1, mj (.putfield 28) 3 5 1 6],
  [mz, mz, mi (.aload 0) 1, mj (.getfield 28) 3 5 1 6, mz, mz, mi .ireturn 1]]
def kX5_begin : List (List (Option mR)) := [[mi (.aload 0) 1, mj (.getfield 21) 3 5 3 4, mz, mz, mj (.jsr_w 4000000000000000000) 3 0 0 9, mz, mz, mj (.invokestatic 40) 3 290 2 10, mz, mz, mi (.aload 0) 1, mj (.getfield 21) 3 5 3 4, mz, mz, mi (.iconst 0) 1, mi (.jsr_w 0) 1],
  [mi .lastore 1, mi .return_ 1]]
def kX5_offer : List (List (Option mR)) := [[mi (.iconst 0) 1, mi (.istore 4) 2, mz, mi (.iconst 0) 1, mi (.istore 5) 2, mz, mi (.iload 5) 2, mz, mi (.aload 0) 1, mj (.getfield 28) 3 5 1 6, mz, mz, mi (.if_icmp .ge 57) 3, mz, mz, mi (.aload 0) 1],
  [mj (.getfield 25) 3 5 4 5, mz, mz, mi (.iload 5) 2, mz, mi (.aload 0) 1, mj (.getfield 13) 3 5 0 2, mz, mz, mi (.iload 5) 2, mz, mi .aaload 1, mi (.iload 5) 2, mz, mi (.aload 1) 1, mi (.iload 2) 1],
  [mi (.aload 3) 1, mj (.invokestatic 46) 3 53 5 11, mz, mz, mi .lastore 1, mi (.iload 4) 2, mz, mi (.ifCond .ne 17) 3, mz, mz, mi (.aload 0) 1, mj (.getfield 25) 3 5 4 5, mz, mz, mi (.iload 5) 2, mz],
  [mi .laload 1, mj (.jsr_w 4000000000000000000) 3 0 0 9, mz, mz, mi .lcmp 1, mi (.ifCond .ge 7) 3, mz, mz, mi (.iconst 1) 1, mi (.goto 4) 3, mz, mz, mi (.iconst 0) 1, mi (.istore 4) 2, mz, mi (.iinc 5 1) 3],
  [mz, mz, mi (.goto (-60)) 3, mz, mz, mi (.iconst 1) 1, mi (.aload 0) 1, mj (.getfield 28) 3 5 1 6, mz, mz, mi .ishl 1, mi (.iconst 1) 1, mi .isub 1, mi (.istore 5) 2, mz, mi (.iload 4) 2],
  [mz, mi (.ifCond .eq 110) 3, mz, mz, mi (.iload 5) 2, mz, mi (.ifCond .le 105) 3, mz, mz, mi (.iconst 0) 1, mi (.istore 6) 2, mz, mi (.iload 6) 2, mz, mi (.aload 0) 1, mj (.getfield 28) 3 5 1 6],
  [mz, mz, mi (.if_icmp .ge 87) 3, mz, mz, mi (.iload 5) 2, mz, mi (.iconst 1) 1, mi (.iload 6) 2, mz, mi .ishl 1, mi (.iconst (-1)) 1, mi .ixor 1, mi .iand 1, mi (.istore 7) 2, mz],
  [mi (.iload 7) 2, mz, mi (.iload 5) 2, mz, mi (.if_icmp .eq 63) 3, mz, mz, mi (.aload 0) 1, mj (.getfield 25) 3 5 4 5, mz, mz, mi (.iload 6) 2, mz, mi .laload 1, mj (.jsr_w 4000000000000000000) 3 0 0 9, mz],
  [mz, mi .lcmp 1, mi (.ifCond .ge 49) 3, mz, mz, mi (.aload 0) 1, mj (.getfield 21) 3 5 3 4, mz, mz, mi (.iload 7) 2, mz, mi .laload 1, mj (.jsr_w 4000000000000000000) 3 0 0 9, mz, mz, mi .lcmp 1],
  [mi (.ifCond .ge 35) 3, mz, mz, mi (.aload 0) 1, mj (.getfield 21) 3 5 3 4, mz, mz, mi (.iload 5) 2, mz, mi (.aload 0) 1, mj (.getfield 21) 3 5 3 4, mz, mz, mi (.iload 5) 2, mz, mi .laload 1],
  [mi (.aload 0) 1, mj (.getfield 21) 3 5 3 4, mz, mz, mi (.iload 7) 2, mz, mi .laload 1, mi (.aload 0) 1, mj (.getfield 25) 3 5 4 5, mz, mz, mi (.iload 6) 2, mz, mi .laload 1, mi .ladd 1, mj .dsub 3 0 0 12],
  [mz, mz, mi .lastore 1, mi (.iinc 6 1) 3, mz, mz, mi (.goto (-90)) 3, mz, mz, mi (.iinc 5 (-1)) 3, mz, mz, mi (.goto (-109)) 3, mz, mz, mi .return_ 1]]
def kX5_costOf : List (List (Option mR)) := [[mi (.aload 0) 1, mi (.ifnull 21) 3, mz, mz, mi (.aload 0) 1, mj (.getfield 31) 3 7 9 7, mz, mz, mi (.ifCond .ne 14) 3, mz, mz, mi (.aload 0) 1, mi (.aload 2) 1, mi (.iload 3) 1, mi (.aload 4) 2, mz],
  [mj (.invokevirtual 56) 3 67 3 13, mz, mz, mi (.ifCond .eq 7) 3, mz, mz, mj (.jsr_w 4000000000000000000) 3 0 0 9, mz, mz, mi .lreturn 1, mj (.jsr_w 4542954016328) 3 0 0 14, mz, mz, mi (.aload 4) 2, mz, mi (.aload 2) 1],
  [mj (.getfield 62) 3 4 4 15, mz, mz, mi (.aload 0) 1, mj (.getfield 67) 3 7 7 16, mz, mz, mj (.invokevirtual 68) 3 89 2 17, mz, mz, mi .i2l 1, mi .lmul 1, mj (.getstatic 74) 3 0 0 18, mz, mz, mi (.iload 1) 1],
  [mi .laload 1, mi (.aload 2) 1, mj (.getfield 77) 3 4 0 19, mz, mz, mi .i2l 1, mi .lmul 1, mi .ladd 1, mi (.lstore 5) 2, mz, mi (.aload 2) 1, mj (.getfield 80) 3 4 1 20, mz, mz, mi (.aload 0) 1, mj (.getfield 84) 3 7 5 21],
  [mz, mz, mi (.if_acmp .ne 8) 3, mz, mz, mi (.lload 5) 2, mz, mi (.goto 9) 3, mz, mz, mi (.lload 5) 2, mz, mj (.jsr_w 567869252041) 3 0 0 22, mz, mz, mi .ladd 1],
  [mi .lreturn 1]]
def kX5_leastCost : List (List (Option mR)) := [[mj (.jsr_w 4000000000000000000) 3 0 0 9, mz, mz, mi (.lstore 1) 1, mi (.iconst 0) 1, mi (.istore 3) 1, mi (.iload 3) 1, mi (.iconst 1) 1, mi (.aload 0) 1, mj (.getfield 28) 3 5 1 6, mz, mz, mi .ishl 1, mi (.if_icmp .ge 79) 3, mz, mz],
  [mi (.aload 0) 1, mj (.getfield 21) 3 5 3 4, mz, mz, mi (.iload 3) 1, mi .laload 1, mi (.lstore 4) 2, mz, mi (.iconst 0) 1, mi (.istore 6) 2, mz, mi (.iload 6) 2, mz, mi (.aload 0) 1, mj (.getfield 28) 3 5 1 6, mz],
  [mz, mi (.if_icmp .ge 46) 3, mz, mz, mi (.lload 4) 2, mz, mj (.jsr_w 4000000000000000000) 3 0 0 9, mz, mz, mi .lcmp 1, mi (.ifCond .ge 37) 3, mz, mz, mi (.iload 3) 1, mi (.iload 6) 2, mz],
  [mi .ishr 1, mi (.iconst 1) 1, mi .iand 1, mi (.ifCond .ne 22) 3, mz, mz, mi (.lload 4) 2, mz, mj (.jsr_w 148863517207035904) 3 0 0 23, mz, mz, mj (.getstatic 74) 3 0 0 18, mz, mz, mi (.iload 6) 2, mz],
  [mi .laload 1, mj (.jsr_w 90) 3 0 0 24, mz, mz, mi .lmul 1, mi .ladd 1, mi .ladd 1, mi (.lstore 4) 2, mz, mi (.iinc 6 1) 3, mz, mz, mi (.goto (-49)) 3, mz, mz, mi (.lload 1) 1],
  [mi (.lload 4) 2, mz, mj .dsub 3 0 0 12, mz, mz, mi (.lstore 1) 1, mi (.iinc 3 1) 3, mz, mz, mi (.goto (-83)) 3, mz, mz, mi (.lload 1) 1, mi .lreturn 1]]
def kX5_promise : List (List (Option mR)) := [[mi (.aload 0) 1, mj (.invokevirtual 91) 3 54 0 25, mz, mz, mj (.jsr_w 567869252041) 3 0 0 22, mz, mz, mi .lrem 1, mi (.lstore 3) 1, mi (.iconst 0) 1, mi (.istore 5) 2, mz, mi (.aload 0) 1, mi (.iconst 0) 1, mj (.putfield 17) 3 5 2 3, mz],
  [mz, mi (.iconst 0) 1, mi (.istore 6) 2, mz, mi (.iload 6) 2, mz, mi (.aload 0) 1, mj (.getfield 28) 3 5 1 6, mz, mz, mi (.if_icmp .ge 102) 3, mz, mz, mi (.aload 0) 1, mj (.getfield 13) 3 5 0 2, mz],
  [mz, mi (.iload 6) 2, mz, mi .aaload 1, mi (.astore 7) 2, mz, mi (.lload 3) 1, mj (.getstatic 74) 3 0 0 18, mz, mz, mi (.iload 6) 2, mz, mi .laload 1, mi .ldiv 1, mj (.jsr_w 91) 3 0 0 26, mz],
  [mz, mi .lrem 1, mi .l2i 1, mi (.istore 8) 2, mz, mi (.aload 7) 2, mz, mi (.ifnull 59) 3, mz, mz, mi (.iload 8) 2, mz, mi (.ifCond .lt 54) 3, mz, mz, mi (.iload 8) 2],
  [mz, mi (.aload 1) 1, mi .arraylength 1, mi (.if_icmp .ge 47) 3, mz, mz, mi (.aload 1) 1, mi (.iload 8) 2, mz, mi .aaload 1, mi (.ifnull 40) 3, mz, mz, mi (.aload 7) 2, mz, mi (.aload 1) 1],
  [mi (.iload 8) 2, mz, mi .aaload 1, mj (.invokevirtual 97) 3 70 1 27, mz, mz, mi (.aload 0) 1, mi .dup 1, mj (.getfield 17) 3 5 2 3, mz, mz, mi (.aload 2) 1, mi (.aload 1) 1, mi (.iload 8) 2, mz, mi .aaload 1],
  [mj (.getfield 62) 3 4 4 15, mz, mz, mi (.aload 7) 2, mz, mj (.getfield 67) 3 7 7 16, mz, mz, mj (.invokevirtual 68) 3 89 2 17, mz, mz, mi .iadd 1, mj (.putfield 17) 3 5 2 3, mz, mz, mi (.iinc 5 1) 3],
  [mz, mz, mi (.aload 0) 1, mj (.getfield 13) 3 5 0 2, mz, mz, mi (.iload 6) 2, mz, mi .aconst_null 1, mi .aastore 1, mi (.iinc 6 1) 3, mz, mz, mi (.goto (-105)) 3, mz, mz],
  [mi (.aload 0) 1, mi (.iconst 0) 1, mj (.putfield 28) 3 5 1 6, mz, mz, mi (.iload 5) 2, mz, mi .ireturn 1]]
def kX6_init : List (List (Option mR)) := [[mi (.aload 0) 1, mi .pop2 3, mz, mz, mi (.aload 0) 1, mi (.iconst 4) 1, mi (.newarray .int) 2, mz, mj (.putfield 7) 3 6 0 1, mz, mz, mi (.aload 0) 1, mi (.iconst 4) 1, mi (.newarray .int) 2, mz, mj (.putfield 13) 3 6 1 2],
  [mz, mz, mi (.aload 0) 1, mj (.getfield 7) 3 6 0 1, mz, mz, mi (.iconst 0) 1, mi (.iload 1) 1, mi .iastore 1, mi (.aload 0) 1, mj (.getfield 13) 3 6 1 2, mz, mz, mi (.iconst 0) 1, mi (.iload 2) 1, mi .iastore 1],
  [mi (.aload 0) 1, mi (.iconst 1) 1, mj (.putfield 16) 3 6 2 3, mz, mz, mi (.aload 0) 1, mi (.iconst 1) 1, mj (.putfield 20) 3 6 3 4, mz, mz, mi .return_ 1]]
def kX6_size : List (List (Option mR)) := [[mi (.aload 0) 1, mj (.getfield 16) 3 6 2 3, mz, mz, mi .ireturn 1]]
def kX6_last : List (List (Option mR)) := [[mi (.aload 0) 1, mi (.aload 0) 1, mj (.getfield 16) 3 6 2 3, mz, mz, mi (.iconst 1) 1, mi .isub 1, mj (.invokevirtual 24) 3 59 1 5, mz, mz, mi .ireturn 1]]
def kX6_valueAt : List (List (Option mR)) := [[mi (.iload 1) 1, mi (.ifCond .lt 20) 3, mz, mz, mi (.iload 1) 1, mi (.aload 0) 1, mj (.getfield 16) 3 6 2 3, mz, mz, mi (.if_icmp .ge 12) 3, mz, mz, mi (.aload 0) 1, mj (.getfield 13) 3 6 1 2, mz, mz],
  [mi (.iload 1) 1, mi .iaload 1, mi (.goto 4) 3, mz, mz, mi (.iconst 0) 1, mi .ireturn 1]]
def kX6_toldAt : List (List (Option mR)) := [[mi (.aload 0) 1, mj (.getfield 16) 3 6 2 3, mz, mz, mi (.ifCond .le 22) 3, mz, mz, mi (.aload 0) 1, mj (.getfield 7) 3 6 0 1, mz, mz, mi (.aload 0) 1, mj (.getfield 16) 3 6 2 3, mz, mz, mi (.iconst 1) 1],
  [mi .isub 1, mi .iaload 1, mi (.iload 1) 1, mi (.if_icmp .ne 7) 3, mz, mz, mi (.iconst 1) 1, mi (.goto 4) 3, mz, mz, mi (.iconst 0) 1, mi .ireturn 1]]
def kX6_isAnother : List (List (Option mR)) := [[mi (.aload 0) 1, mi (.iload 1) 1, mj (.invokevirtual 28) 3 60 1 6, mz, mz, mi (.ifCond .eq 18) 3, mz, mz, mi (.aload 0) 1, mj (.getfield 16) 3 6 2 3, mz, mz, mi (.iconst 1) 1, mi (.if_icmp .ne 14) 3, mz, mz],
  [mi (.aload 0) 1, mj (.getfield 20) 3 6 3 4, mz, mz, mi (.ifCond .eq 7) 3, mz, mz, mi (.iconst 1) 1, mi (.goto 4) 3, mz, mz, mi (.iconst 0) 1, mi .ireturn 1]]
def kX6_tell : List (List (Option mR)) := [[mi (.aload 0) 1, mi (.iload 1) 1, mj (.invokevirtual 28) 3 60 1 6, mz, mz, mi (.ifCond .ne 30) 3, mz, mz, mi (.aload 0) 1, mj (.invokevirtual 32) 3 63 0 7, mz, mz, mi (.aload 0) 1, mj (.getfield 7) 3 6 0 1, mz, mz],
  [mi (.aload 0) 1, mj (.getfield 16) 3 6 2 3, mz, mz, mi (.iload 1) 1, mi .iastore 1, mi (.aload 0) 1, mi .dup 1, mj (.getfield 16) 3 6 2 3, mz, mz, mi (.iconst 1) 1, mi .iadd 1, mj (.putfield 16) 3 6 2 3, mz, mz],
  [mi (.goto 16) 3, mz, mz, mi (.aload 0) 1, mj (.getfield 16) 3 6 2 3, mz, mz, mi (.iconst 1) 1, mi (.if_icmp .ne 8) 3, mz, mz, mi (.aload 0) 1, mi (.iconst 0) 1, mj (.putfield 20) 3 6 3 4, mz, mz],
  [mi (.aload 0) 1, mj (.getfield 13) 3 6 1 2, mz, mz, mi (.aload 0) 1, mj (.getfield 16) 3 6 2 3, mz, mz, mi (.iconst 1) 1, mi .isub 1, mi (.iload 2) 1, mi .iastore 1, mi .return_ 1]]
def kX6_grow : List (List (Option mR)) := [[mi (.aload 0) 1, mj (.getfield 16) 3 6 2 3, mz, mz, mi (.aload 0) 1, mj (.getfield 7) 3 6 0 1, mz, mz, mi .arraylength 1, mi (.if_icmp .ne 37) 3, mz, mz, mi (.aload 0) 1, mi (.aload 0) 1, mj (.getfield 7) 3 6 0 1, mz],
  [mz, mi (.iconst 2) 1, mi (.aload 0) 1, mj (.getfield 16) 3 6 2 3, mz, mz, mi .imul 1, mj (.invokestatic 35) 3 291 2 8, mz, mz, mj (.putfield 7) 3 6 0 1, mz, mz, mi (.aload 0) 1, mi (.aload 0) 1, mj (.getfield 13) 3 6 1 2],
  [mz, mz, mi (.iconst 2) 1, mi (.aload 0) 1, mj (.getfield 16) 3 6 2 3, mz, mz, mi .imul 1, mj (.invokestatic 35) 3 291 2 8, mz, mz, mj (.putfield 13) 3 6 1 2, mz, mz, mi .return_ 1]]
def kX6_latestUpTo : List (List (Option mR)) := [[mi (.iconst 0) 1, mi (.istore 2) 1, mi (.aload 0) 1, mj (.getfield 16) 3 6 2 3, mz, mz, mi (.istore 3) 1, mi (.iconst 0) 1, mi (.istore 4) 2, mz, mi (.iload 4) 2, mz, mi (.iconst 32) 2, mz, mi (.if_icmp .ge 43) 3, mz],
  [mz, mi (.iload 2) 1, mi (.iload 3) 1, mi (.if_icmp .ge 38) 3, mz, mz, mi (.iload 2) 1, mi (.iload 3) 1, mi .iadd 1, mi (.iconst 1) 1, mi .iushr 1, mi (.istore 5) 2, mz, mi (.aload 0) 1, mj (.getfield 7) 3 6 0 1, mz],
  [mz, mi (.iload 5) 2, mz, mi .iaload 1, mi (.iload 1) 1, mi (.if_icmp .gt 11) 3, mz, mz, mi (.iload 5) 2, mz, mi (.iconst 1) 1, mi .iadd 1, mi (.istore 2) 1, mi (.goto 6) 3, mz, mz],
  [mi (.iload 5) 2, mz, mi (.istore 3) 1, mi (.iinc 4 1) 3, mz, mz, mi (.goto (-44)) 3, mz, mz, mi (.iload 2) 1, mi (.iconst 1) 1, mi .isub 1, mi .ireturn 1]]
def kX6_earliestFrom : List (List (Option mR)) := [[mi (.aload 0) 1, mi (.iload 1) 1, mi (.iconst 1) 1, mi .isub 1, mj (.invokevirtual 41) 3 64 1 9, mz, mz, mi (.iconst 1) 1, mi .iadd 1, mi .ireturn 1]]
def kX7_init : List (List (Option mR)) := [[mi (.aload 0) 1, mi .pop2 3, mz, mz, mi (.aload 0) 1, mi (.iconst (-1)) 1, mj (.putfield 9) 3 7 11 1, mz, mz, mi (.aload 0) 1, mi (.iconst (-1)) 1, mj (.putfield 15) 3 7 12 2, mz, mz, mi (.aload 0) 1, mi (.iconst 60) 2],
  [mz, mi (.newarray .boolean) 2, mz, mj (.putfield 18) 3 7 13 3, mz, mz, mi (.aload 0) 1, mi (.iconst 2) 1, mi (.newarray .int) 2, mz, mi .dup 1, mi (.iconst 0) 1, mi (.iconst (-1)) 1, mi .iastore 1, mi .dup 1, mi (.iconst 1) 1],
  [mi (.iconst (-1)) 1, mi .iastore 1, mj (.putfield 22) 3 7 14 4, mz, mz, mi (.aload 0) 1, mi (.iconst 2) 1, mi (.newarray .int) 2, mz, mi .dup 1, mi (.iconst 0) 1, mi (.iconst (-1)) 1, mi .iastore 1, mi .dup 1, mi (.iconst 1) 1, mi (.iconst (-1)) 1],
  [mi .iastore 1, mj (.putfield 26) 3 7 15 5, mz, mz, mi (.aload 0) 1, mi (.iload 1) 1, mj (.putfield 29) 3 7 0 6, mz, mz, mi (.aload 0) 1, mi (.aload 2) 1, mj (.putfield 32) 3 7 5 7, mz, mz, mi (.aload 0) 1, mi (.iload 3) 1],
  [mj (.putfield 36) 3 7 1 8, mz, mz, mi (.aload 0) 1, mi (.iload 4) 2, mz, mj (.putfield 39) 3 7 2 9, mz, mz, mi (.aload 0) 1, mi (.iload 5) 2, mz, mj (.putfield 42) 3 7 3 10, mz, mz, mi (.aload 0) 1],
  [mi (.iload 6) 2, mz, mj (.putfield 45) 3 7 4 11, mz, mz, mi .return_ 1]]
def kX7_objection : List (List (Option mR)) := [[mi (.aload 1) 1, mj (.getfield 48) 3 4 5 12, mz, mz, mi (.ifCond .ne 10) 3, mz, mz, mi (.aload 1) 1, mj (.getfield 53) 3 4 3 13, mz, mz, mi (.ifCond .eq 5) 3, mz, mz, mi (.iconst 1) 1, mi .ireturn 1],
  [mi (.aload 1) 1, mj (.getfield 56) 3 4 1 14, mz, mz, mi (.aload 0) 1, mj (.getfield 32) 3 7 5 7, mz, mz, mj (.invokevirtual 57) 3 11 1 15, mz, mz, mi (.ifCond .ne 5) 3, mz, mz, mi (.iconst 2) 1, mi .ireturn 1],
  [mi (.aload 0) 1, mj (.getfield 63) 3 7 8 16, mz, mz, mi (.aload 1) 1, mj (.getfield 56) 3 4 1 14, mz, mz, mj (.getfield 66) 3 1 4 17, mz, mz, mi .ishr 1, mi (.iconst 1) 1, mi .iand 1, mi (.ifCond .ne 5) 3, mz],
  [mz, mi (.iconst 3) 1, mi .ireturn 1, mi (.aload 1) 1, mj (.invokevirtual 69) 3 39 0 18, mz, mz, mi (.ifCond .ne 19) 3, mz, mz, mi (.aload 1) 1, mi (.aload 0) 1, mj (.getfield 39) 3 7 2 9, mz, mz, mi (.aload 0) 1],
  [mj (.getfield 42) 3 7 3 10, mz, mz, mi .imul 1, mj (.invokevirtual 73) 3 40 1 19, mz, mz, mi (.ifCond .eq 5) 3, mz, mz, mi (.iconst 4) 1, mi .ireturn 1, mi (.aload 3) 1, mi (.aload 1) 1, mj (.getfield 77) 3 4 4 20, mz],
  [mz, mi (.aload 0) 1, mj (.getfield 80) 3 7 7 21, mz, mz, mj (.invokevirtual 81) 3 90 2 22, mz, mz, mi (.istore 4) 2, mz, mi (.iload 4) 2, mz, mi (.ifCond .lt 14) 3, mz, mz, mi (.iload 2) 1],
  [mi (.iload 4) 2, mz, mi .iadd 1, mi (.aload 0) 1, mj (.getfield 36) 3 7 1 8, mz, mz, mi (.if_icmp .le 5) 3, mz, mz, mi (.iconst 5) 1, mi .ireturn 1, mi (.aload 1) 1, mj (.getfield 87) 3 4 9 23, mz, mz],
  [mi (.ifnull 11) 3, mz, mz, mi (.aload 1) 1, mj (.getfield 87) 3 4 9 23, mz, mz, mi (.aload 0) 1, mi (.if_acmp .ne 7) 3, mz, mz, mi (.iconst 0) 1, mi (.goto 5) 3, mz, mz, mi (.iconst 6) 2],
  [mz, mi .ireturn 1]]
def kX7_begun : List (List (Option mR)) := [[mi (.aload 0) 1, mj (.getfield 91) 3 7 10 24, mz, mz, mi (.ifnull 31) 3, mz, mz, mi (.aload 0) 1, mj (.getfield 95) 3 7 9 25, mz, mz, mi (.iconst 3) 1, mi (.if_icmp .eq 19) 3, mz, mz, mi (.aload 0) 1],
  [mj (.getfield 95) 3 7 9 25, mz, mz, mi (.iconst 2) 1, mi (.if_icmp .ne 15) 3, mz, mz, mi (.iload 1) 1, mi (.aload 0) 1, mj (.getfield 9) 3 7 11 1, mz, mz, mi (.if_icmp .lt 7) 3, mz, mz, mi (.iconst 1) 1],
  [mi (.goto 4) 3, mz, mz, mi (.iconst 0) 1, mi .ireturn 1]]
def kX7_isSubstitute : List (List (Option mR)) := [[mi (.aload 0) 1, mj (.getfield 91) 3 7 10 24, mz, mz, mi (.ifnull 21) 3, mz, mz, mi (.aload 0) 1, mj (.getfield 91) 3 7 10 24, mz, mz, mj (.getfield 56) 3 4 1 14, mz, mz, mi (.aload 0) 1, mj (.getfield 32) 3 7 5 7],
  [mz, mz, mi (.if_acmp .eq 7) 3, mz, mz, mi (.iconst 1) 1, mi (.goto 4) 3, mz, mz, mi (.iconst 0) 1, mi .ireturn 1]]
def kX7_promise : List (List (Option mR)) := [[mi (.aload 0) 1, mi (.iconst 1) 1, mj (.putfield 95) 3 7 9 25, mz, mz, mi (.aload 0) 1, mi (.aload 1) 1, mj (.putfield 91) 3 7 10 24, mz, mz, mi (.aload 1) 1, mi (.aload 0) 1, mj (.putfield 87) 3 4 9 23, mz, mz, mi .return_ 1]]
def kX7_finish : List (List (Option mR)) := [[mi (.aload 0) 1, mi (.iconst 3) 1, mj (.putfield 95) 3 7 9 25, mz, mz, mi (.aload 0) 1, mi (.iload 1) 1, mj (.putfield 15) 3 7 12 2, mz, mz, mi .return_ 1]]
def kX7_loseMachine : List (List (Option mR)) := [[mi (.aload 0) 1, mi (.iload 1) 1, mj (.invokevirtual 96) 3 68 1 26, mz, mz, mi (.ifCond .eq 9) 3, mz, mz, mi (.aload 0) 1, mi (.iload 1) 1, mj (.invokevirtual 99) 3 71 1 27, mz, mz, mi .return_ 1, mi (.aload 0) 1, mi (.iconst 0) 1],
  [mj (.putfield 95) 3 7 9 25, mz, mz, mi (.aload 0) 1, mi .aconst_null 1, mj (.putfield 91) 3 7 10 24, mz, mz, mi (.aload 0) 1, mi (.iconst (-1)) 1, mj (.putfield 9) 3 7 11 1, mz, mz, mi .return_ 1]]
def kX7_endBy : List (List (Option mR)) := [[mi (.aload 0) 1, mj (.getfield 15) 3 7 12 2, mz, mz, mi (.ifCond .ge 7) 3, mz, mz, mi (.iload 1) 1, mi (.goto 7) 3, mz, mz, mi (.aload 0) 1, mj (.getfield 15) 3 7 12 2, mz, mz, mi .ireturn 1]]
def kX7_dayCount : List (List (Option mR)) := [[mi (.aload 0) 1, mi (.iload 1) 1, mj (.invokevirtual 103) 3 73 1 28, mz, mz, mi (.aload 0) 1, mj (.getfield 9) 3 7 11 1, mz, mz, mi .isub 1, mi (.iconst 24) 2, mz, mi .iadd 1, mi (.iconst 1) 1, mi .isub 1, mi (.iconst 24) 2],
  [mz, mi .idiv 1, mi .ireturn 1]]
def kX7_knownOfDay : List (List (Option mR)) := [[mi (.aload 0) 1, mj (.getfield 91) 3 7 10 24, mz, mz, mi (.ifnonnull 5) 3, mz, mz, mi (.iconst 3) 1, mi .ireturn 1, mi (.aload 0) 1, mj (.getfield 91) 3 7 10 24, mz, mz, mj (.getfield 107) 3 4 2 29, mz, mz],
  [mi (.astore 3) 1, mi (.aload 0) 1, mj (.getfield 9) 3 7 11 1, mz, mz, mi (.iconst 24) 2, mz, mi (.iload 1) 1, mi .imul 1, mi .iadd 1, mi (.istore 4) 2, mz, mi (.iload 4) 2, mz, mi (.iconst 24) 2, mz],
  [mi .iadd 1, mi (.aload 0) 1, mi (.iload 2) 1, mj (.invokevirtual 103) 3 73 1 28, mz, mz, mj .fsub 3 0 0 30, mz, mz, mi (.istore 5) 2, mz, mi (.aload 3) 1, mi (.iload 4) 2, mz, mj (.invokevirtual 116) 3 65 1 31, mz],
  [mz, mi (.istore 6) 2, mz, mi (.aload 3) 1, mi (.iload 5) 2, mz, mj (.invokevirtual 121) 3 64 1 32, mz, mz, mi (.istore 7) 2, mz, mi (.iload 6) 2, mz, mi (.iload 7) 2, mz, mi (.if_icmp .ge 20) 3],
  [mz, mz, mi (.aload 3) 1, mi (.iload 6) 2, mz, mj (.invokevirtual 124) 3 59 1 33, mz, mz, mi (.aload 3) 1, mi (.iload 7) 2, mz, mj (.invokevirtual 124) 3 59 1 33, mz, mz, mi (.if_icmp .eq 5) 3, mz],
  [mz, mi (.iconst 1) 1, mi .ireturn 1, mi (.aload 3) 1, mi (.iload 4) 2, mz, mj (.invokevirtual 121) 3 64 1 32, mz, mz, mi (.istore 8) 2, mz, mi (.aload 3) 1, mi (.iload 5) 2, mz, mj (.invokevirtual 116) 3 65 1 31, mz],
  [mz, mi (.istore 9) 2, mz, mi (.iload 8) 2, mz, mi (.ifCond .lt 16) 3, mz, mz, mi (.iload 9) 2, mz, mi (.aload 3) 1, mj (.invokevirtual 127) 3 57 0 34, mz, mz, mi (.if_icmp .ge 7) 3, mz],
  [mz, mi (.iconst 1) 1, mi (.goto 4) 3, mz, mz, mi (.iconst 0) 1, mi (.istore 10) 2, mz, mi (.iload 10) 2, mz, mi (.ifCond .eq 20) 3, mz, mz, mi (.aload 3) 1, mi (.iload 8) 2, mz],
  [mj (.invokevirtual 124) 3 59 1 33, mz, mz, mi (.aload 3) 1, mi (.iload 9) 2, mz, mj (.invokevirtual 124) 3 59 1 33, mz, mz, mi (.if_icmp .ne 5) 3, mz, mz, mi (.iconst 0) 1, mi .ireturn 1, mi (.iload 1) 1, mi (.ifCond .lt 22) 3],
  [mz, mz, mi (.iload 1) 1, mi (.iconst 60) 2, mz, mi (.if_icmp .ge 16) 3, mz, mz, mi (.aload 0) 1, mj (.getfield 18) 3 7 13 3, mz, mz, mi (.iload 1) 1, mi .baload 1, mi (.ifCond .eq 7) 3, mz],
  [mz, mi (.iconst 3) 1, mi (.goto 4) 3, mz, mz, mi (.iconst 2) 1, mi .ireturn 1]]
def kX7_daysWorked : List (List (Option mR)) := [[mi (.aload 0) 1, mi (.iload 2) 1, mj (.invokevirtual 131) 3 74 1 35, mz, mz, mi (.istore 3) 1, mi (.iconst 0) 1, mi (.istore 4) 2, mz, mi (.iconst 0) 1, mi (.istore 5) 2, mz, mi (.iload 5) 2, mz, mi (.iload 3) 1, mi (.if_icmp .ge 61) 3],
  [mz, mz, mi (.aload 0) 1, mi (.iload 5) 2, mz, mi (.iload 2) 1, mj (.invokevirtual 134) 3 75 2 36, mz, mz, mi (.istore 6) 2, mz, mi (.iload 6) 2, mz, mi (.iconst 1) 1, mi (.if_icmp .eq 25) 3, mz],
  [mz, mi (.iload 6) 2, mz, mi (.iconst 2) 1, mi (.if_icmp .ne 8) 3, mz, mz, mi (.iload 1) 1, mi (.iconst 1) 1, mi (.if_icmp .ne 14) 3, mz, mz, mi (.iload 6) 2, mz, mi (.iconst 3) 1, mi (.if_icmp .ne 12) 3],
  [mz, mz, mi (.iload 1) 1, mi (.iconst 2) 1, mi (.if_icmp .ne 7) 3, mz, mz, mi (.iconst 1) 1, mi (.goto 4) 3, mz, mz, mi (.iconst 0) 1, mi (.istore 7) 2, mz, mi (.iload 7) 2, mz],
  [mi (.ifCond .eq 6) 3, mz, mz, mi (.iinc 4 1) 3, mz, mz, mi (.iinc 5 1) 3, mz, mz, mi (.goto (-61)) 3, mz, mz, mi (.iload 4) 2, mz, mi .ireturn 1]]
def kX7_hoursWorked : List (List (Option mR)) := [[mi (.aload 0) 1, mj (.getfield 91) 3 7 10 24, mz, mz, mi (.ifnonnull 5) 3, mz, mz, mi (.iconst 0) 1, mi .ireturn 1, mi (.aload 0) 1, mj (.getfield 91) 3 7 10 24, mz, mz, mj (.getfield 107) 3 4 2 29, mz, mz],
  [mi (.astore 2) 1, mi (.aload 2) 1, mi (.aload 2) 1, mi (.aload 0) 1, mi (.iload 1) 1, mj (.invokevirtual 103) 3 73 1 28, mz, mz, mj (.invokevirtual 121) 3 64 1 32, mz, mz, mj (.invokevirtual 124) 3 59 1 33, mz, mz, mi (.istore 3) 1, mi (.iload 3) 1],
  [mi (.aload 2) 1, mi (.aload 2) 1, mi (.aload 0) 1, mj (.getfield 9) 3 7 11 1, mz, mz, mj (.invokevirtual 121) 3 64 1 32, mz, mz, mj (.invokevirtual 124) 3 59 1 33, mz, mz, mi .isub 1, mi .ireturn 1]]
def kX7_mayTell : List (List (Option mR)) := [[mi (.iload 1) 1, mi (.ifCond .ne 25) 3, mz, mz, mi (.aload 0) 1, mj (.getfield 95) 3 7 9 25, mz, mz, mi (.iconst 1) 1, mi (.if_icmp .eq 11) 3, mz, mz, mi (.aload 0) 1, mj (.getfield 95) 3 7 9 25, mz, mz],
  [mi (.iconst 2) 1, mi (.if_icmp .ne 7) 3, mz, mz, mi (.iconst 1) 1, mi (.goto 4) 3, mz, mz, mi (.iconst 0) 1, mi .ireturn 1, mi (.aload 0) 1, mj (.getfield 95) 3 7 9 25, mz, mz, mi (.iconst 3) 1, mi (.if_icmp .ne 25) 3],
  [mz, mz, mi (.aload 0) 1, mj (.getfield 91) 3 7 10 24, mz, mz, mi (.ifnull 18) 3, mz, mz, mi (.aload 0) 1, mj (.getfield 91) 3 7 10 24, mz, mz, mj (.getfield 137) 3 4 10 37, mz, mz],
  [mi (.aload 0) 1, mi (.if_acmp .ne 7) 3, mz, mz, mi (.iconst 1) 1, mi (.goto 4) 3, mz, mz, mi (.iconst 0) 1, mi .ireturn 1]]
def kX7_tell : List (List (Option mR)) := [[mi (.iload 2) 1, mi (.ifCond .lt 23) 3, mz, mz, mi (.iload 2) 1, mi (.aload 1) 1, mi .arraylength 1, mi (.if_icmp .ge 17) 3, mz, mz, mi (.aload 1) 1, mi (.iload 2) 1, mi .iaload 1, mi (.ifCond .ge 11) 3, mz, mz],
  [mi (.aload 0) 1, mi (.iload 2) 1, mj (.invokevirtual 140) 3 78 1 38, mz, mz, mi (.ifCond .ne 6) 3, mz, mz, mi (.iconst (-2)) 2, mz, mi .ireturn 1, mi (.aload 1) 1, mi (.iload 2) 1, mi (.iload 3) 1, mi .iastore 1, mi (.iconst 1) 1],
  [mi .ireturn 1]]
def kX7_newMarks : List (List (Option mR)) := [[mi (.aload 0) 1, mj (.getfield 22) 3 7 14 4, mz, mz, mi (.iconst 0) 1, mi .iaload 1, mi (.ifCond .lt 12) 3, mz, mz, mi (.aload 0) 1, mj (.getfield 22) 3 7 14 4, mz, mz, mi (.iconst 1) 1, mi .iaload 1, mi (.ifCond .ge 7) 3],
  [mz, mz, mi (.iconst 0) 1, mi (.goto 18) 3, mz, mz, mi (.aload 0) 1, mj (.getfield 22) 3 7 14 4, mz, mz, mi (.iconst 1) 1, mi .iaload 1, mi (.aload 0) 1, mj (.getfield 22) 3 7 14 4, mz, mz],
  [mi (.iconst 0) 1, mi .iaload 1, mi (.iconst (-1)) 1, mi .ixor 1, mi .iand 1, mi .ireturn 1]]
def kX7_harmCoins : List (List (Option mR)) := [[mi (.aload 0) 1, mj (.invokevirtual 143) 3 80 0 39, mz, mz, mi (.istore 1) 1, mi (.iconst 0) 1, mi (.istore 2) 1, mi (.iconst 0) 1, mi (.istore 3) 1, mi (.iload 3) 1, mi (.iconst 16) 2, mz, mi (.if_icmp .ge 40) 3, mz, mz, mi (.aload 0) 1],
  [mj (.getfield 91) 3 7 10 24, mz, mz, mi (.ifnull 33) 3, mz, mz, mi (.iload 1) 1, mi (.iload 3) 1, mi .ishr 1, mi (.iconst 1) 1, mi .iand 1, mi (.iconst 1) 1, mi (.if_icmp .ne 18) 3, mz, mz, mi (.iload 2) 1],
  [mi (.aload 0) 1, mj (.getfield 91) 3 7 10 24, mz, mz, mj (.getfield 56) 3 4 1 14, mz, mz, mj (.getfield 146) 3 1 6 40, mz, mz, mi (.iload 3) 1, mi .iaload 1, mi .iadd 1, mi (.istore 2) 1, mi (.iinc 3 1) 3, mz],
  [mz, mi (.goto (-40)) 3, mz, mz, mi (.iload 2) 1, mi .ireturn 1]]
def kX7_litresMissing : List (List (Option mR)) := [[mi (.aload 0) 1, mj (.getfield 26) 3 7 15 5, mz, mz, mi (.iconst 0) 1, mi .iaload 1, mi (.ifCond .lt 12) 3, mz, mz, mi (.aload 0) 1, mj (.getfield 26) 3 7 15 5, mz, mz, mi (.iconst 1) 1, mi .iaload 1, mi (.ifCond .ge 7) 3],
  [mz, mz, mi (.iconst 0) 1, mi (.goto 20) 3, mz, mz, mi (.iconst 0) 1, mi (.aload 0) 1, mj (.getfield 26) 3 7 15 5, mz, mz, mi (.iconst 0) 1, mi .iaload 1, mi (.aload 0) 1, mj (.getfield 26) 3 7 15 5, mz],
  [mz, mi (.iconst 1) 1, mi .iaload 1, mi .isub 1, mj .fadd 3 0 0 41, mz, mz, mi .ireturn 1]]
def kX8_init : List (List (Option mR)) := [[mi (.aload 0) 1, mi .pop2 3, mz, mz, mi (.aload 0) 1, mi (.iconst 12) 2, mz, mi (.newarray .boolean) 2, mz, mj (.putfield 9) 3 8 0 1, mz, mz, mi (.aload 0) 1, mi (.iconst 12) 2, mz, mi (.iconst 12) 2],
  [mz, mj (.multianewarray 15 2) 4 0 0 2, mz, mz, mz, mj (.putfield 17) 3 8 1 3, mz, mz, mi (.aload 0) 1, mi (.iconst 12) 2, mz, mi (.iconst 12) 2, mz, mj (.multianewarray 15 2) 4 0 0 2, mz, mz],
  [mz, mj (.putfield 20) 3 8 2 4, mz, mz, mi .return_ 1]]
def kX8_found : List (List (Option mR)) := [[mi (.aload 0) 1, mj (.getfield 23) 3 8 3 5, mz, mz, mi (.iconst 12) 2, mz, mi (.if_icmp .lt 6) 3, mz, mz, mi (.iconst (-3)) 2, mz, mi .ireturn 1, mi (.aload 0) 1, mj (.getfield 9) 3 8 0 1, mz, mz],
  [mi (.aload 0) 1, mj (.getfield 23) 3 8 3 5, mz, mz, mi (.iload 1) 1, mi (.iconst 1) 1, mi (.if_icmp .ne 7) 3, mz, mz, mi (.iconst 1) 1, mi (.goto 4) 3, mz, mz, mi (.iconst 0) 1, mi .bastore 1, mi (.iconst 0) 1],
  [mi (.istore 2) 1, mi (.iload 2) 1, mi (.aload 0) 1, mj (.getfield 23) 3 8 3 5, mz, mz, mi (.if_icmp .ge 33) 3, mz, mz, mi (.aload 0) 1, mj (.getfield 20) 3 8 2 4, mz, mz, mi (.iload 2) 1, mi .aaload 1, mi (.aload 0) 1],
  [mj (.getfield 23) 3 8 3 5, mz, mz, mi (.iconst (-1)) 1, mi .iastore 1, mi (.aload 0) 1, mj (.getfield 20) 3 8 2 4, mz, mz, mi (.aload 0) 1, mj (.getfield 23) 3 8 3 5, mz, mz, mi .aaload 1, mi (.iload 2) 1, mi (.iconst (-1)) 1],
  [mi .iastore 1, mi (.iinc 2 1) 3, mz, mz, mi (.goto (-35)) 3, mz, mz, mi (.aload 0) 1, mi .dup 1, mj (.getfield 23) 3 8 3 5, mz, mz, mi .dup_x1 1, mi (.iconst 1) 1, mi .iadd 1, mj (.putfield 23) 3 8 3 5],
  [mz, mz, mi .ireturn 1]]
def kX8_has : List (List (Option mR)) := [[mi (.iload 1) 1, mi (.ifCond .lt 15) 3, mz, mz, mi (.iload 1) 1, mi (.aload 0) 1, mj (.getfield 23) 3 8 3 5, mz, mz, mi (.if_icmp .ge 7) 3, mz, mz, mi (.iconst 1) 1, mi (.goto 4) 3, mz, mz],
  [mi (.iconst 0) 1, mi .ireturn 1]]
def kX8_hasYard : List (List (Option mR)) := [[mi (.aload 0) 1, mi (.iload 1) 1, mj (.invokevirtual 27) 3 85 1 6, mz, mz, mi (.ifCond .eq 16) 3, mz, mz, mi (.aload 0) 1, mj (.getfield 9) 3 8 0 1, mz, mz, mi (.iload 1) 1, mi .baload 1, mi (.ifCond .eq 7) 3, mz],
  [mz, mi (.iconst 1) 1, mi (.goto 4) 3, mz, mz, mi (.iconst 0) 1, mi .ireturn 1]]
def kX8_lay : List (List (Option mR)) := [[mi (.aload 0) 1, mi (.iload 1) 1, mj (.invokevirtual 27) 3 85 1 6, mz, mz, mi (.ifCond .eq 11) 3, mz, mz, mi (.aload 0) 1, mi (.iload 2) 1, mj (.invokevirtual 27) 3 85 1 6, mz, mz, mi (.ifCond .ne 5) 3, mz, mz],
  [mi (.iconst (-1)) 1, mi .ireturn 1, mi (.aload 0) 1, mj (.getfield 17) 3 8 1 3, mz, mz, mi (.iload 1) 1, mi .aaload 1, mi (.iload 2) 1, mi .iaload 1, mi (.ifCond .eq 15) 3, mz, mz, mi (.iload 3) 1, mi (.aload 0) 1, mj (.getfield 17) 3 8 1 3],
  [mz, mz, mi (.iload 1) 1, mi .aaload 1, mi (.iload 2) 1, mi .iaload 1, mi (.if_icmp .ge 111) 3, mz, mz, mi (.aload 0) 1, mj (.getfield 17) 3 8 1 3, mz, mz, mi (.iload 1) 1, mi .aaload 1, mi (.iload 2) 1],
  [mi (.iload 3) 1, mi .iastore 1, mi (.aload 0) 1, mj (.getfield 17) 3 8 1 3, mz, mz, mi (.iload 2) 1, mi .aaload 1, mi (.iload 1) 1, mi (.iload 3) 1, mi .iastore 1, mi (.iconst 0) 1, mi (.istore 4) 2, mz, mi (.iload 4) 2, mz],
  [mi (.aload 0) 1, mj (.getfield 23) 3 8 3 5, mz, mz, mi (.if_icmp .ge 81) 3, mz, mz, mi (.iconst 0) 1, mi (.istore 5) 2, mz, mi (.iload 5) 2, mz, mi (.aload 0) 1, mj (.getfield 23) 3 8 3 5, mz, mz],
  [mi (.if_icmp .ge 63) 3, mz, mz, mi (.aload 0) 1, mi (.iload 4) 2, mz, mi (.iload 5) 2, mz, mi (.aload 0) 1, mj (.getfield 20) 3 8 2 4, mz, mz, mi (.iload 4) 2, mz, mi .aaload 1, mi (.iload 1) 1],
  [mi .iaload 1, mi (.iload 3) 1, mi (.aload 0) 1, mj (.getfield 20) 3 8 2 4, mz, mz, mi (.iload 2) 1, mi .aaload 1, mi (.iload 5) 2, mz, mi .iaload 1, mj (.invokevirtual 31) 3 88 5 7, mz, mz, mi (.aload 0) 1, mi (.iload 4) 2],
  [mz, mi (.iload 5) 2, mz, mi (.aload 0) 1, mj (.getfield 20) 3 8 2 4, mz, mz, mi (.iload 4) 2, mz, mi .aaload 1, mi (.iload 2) 1, mi .iaload 1, mi (.iload 3) 1, mi (.aload 0) 1, mj (.getfield 20) 3 8 2 4, mz],
  [mz, mi (.iload 1) 1, mi .aaload 1, mi (.iload 5) 2, mz, mi .iaload 1, mj (.invokevirtual 31) 3 88 5 7, mz, mz, mi (.iinc 5 1) 3, mz, mz, mi (.goto (-66)) 3, mz, mz, mi (.iinc 4 1) 3],
  [mz, mz, mi (.goto (-84)) 3, mz, mz, mi (.aload 0) 1, mj (.getfield 17) 3 8 1 3, mz, mz, mi (.iload 1) 1, mi .aaload 1, mi (.iload 2) 1, mi .iaload 1, mi .ireturn 1]]
def kX8_shorten : List (List (Option mR)) := [[mi (.iload 3) 1, mi (.ifCond .lt 24) 3, mz, mz, mi (.iload 5) 2, mz, mi (.ifCond .lt 19) 3, mz, mz, mi (.aload 0) 1, mi (.iload 1) 1, mj (.invokevirtual 27) 3 85 1 6, mz, mz, mi (.ifCond .eq 11) 3, mz],
  [mz, mi (.aload 0) 1, mi (.iload 2) 1, mj (.invokevirtual 27) 3 85 1 6, mz, mz, mi (.ifCond .ne 4) 3, mz, mz, mi .return_ 1, mi (.iload 3) 1, mi (.iload 4) 2, mz, mi .iadd 1, mi (.iload 5) 2, mz],
  [mi .iadd 1, mi (.istore 6) 2, mz, mi (.aload 0) 1, mj (.getfield 20) 3 8 2 4, mz, mz, mi (.iload 1) 1, mi .aaload 1, mi (.iload 2) 1, mi .iaload 1, mi (.ifCond .lt 16) 3, mz, mz, mi (.iload 6) 2, mz],
  [mi (.aload 0) 1, mj (.getfield 20) 3 8 2 4, mz, mz, mi (.iload 1) 1, mi .aaload 1, mi (.iload 2) 1, mi .iaload 1, mi (.if_icmp .ge 13) 3, mz, mz, mi (.aload 0) 1, mj (.getfield 20) 3 8 2 4, mz, mz, mi (.iload 1) 1],
  [mi .aaload 1, mi (.iload 2) 1, mi (.iload 6) 2, mz, mi .iastore 1, mi .return_ 1]]
def kX8_way : List (List (Option mR)) := [[mi (.aload 0) 1, mi (.iload 1) 1, mj (.invokevirtual 27) 3 85 1 6, mz, mz, mi (.ifCond .eq 22) 3, mz, mz, mi (.aload 0) 1, mi (.iload 2) 1, mj (.invokevirtual 27) 3 85 1 6, mz, mz, mi (.ifCond .eq 14) 3, mz, mz],
  [mi (.aload 0) 1, mj (.getfield 20) 3 8 2 4, mz, mz, mi (.iload 1) 1, mi .aaload 1, mi (.iload 2) 1, mi .iaload 1, mi (.goto 4) 3, mz, mz, mi (.iconst (-1)) 1, mi .ireturn 1]]
def kX8_rideHours : List (List (Option mR)) := [[mi (.aload 0) 1, mi (.iload 1) 1, mi (.iload 2) 1, mj (.invokevirtual 35) 3 89 2 8, mz, mz, mi (.istore 3) 1, mi (.iload 3) 1, mi (.ifCond .ge 7) 3, mz, mz, mi (.iconst (-1)) 1, mi (.goto 12) 3, mz, mz, mi (.iload 3) 1],
  [mi (.iconst 30) 2, mz, mi .iadd 1, mi (.iconst 1) 1, mi .isub 1, mi (.iconst 30) 2, mz, mi .idiv 1, mi .ireturn 1]]
def kX9_init : List (List (Option mR)) := [[mi (.aload 0) 1, mi .pop2 3, mz, mz, mi (.aload 0) 1, mi (.iconst 200) 3, mz, mz, mi (.newarray .int) 2, mz, mj (.putfield 9) 3 9 0 1, mz, mz, mi (.aload 0) 1, mi (.iconst 201) 3, mz],
  [mz, mi (.newarray .int) 2, mz, mj (.putfield 13) 3 9 2 2, mz, mz, mi (.aload 0) 1, mi (.iconst 201) 3, mz, mz, mi (.newarray .int) 2, mz, mj (.putfield 16) 3 9 3 3, mz, mz, mi (.aload 0) 1],
  [mi (.iconst 201) 3, mz, mz, mi (.newarray .int) 2, mz, mj (.putfield 19) 3 9 4 4, mz, mz, mi (.aload 0) 1, mi (.iconst 800) 3, mz, mz, mi (.newarray .int) 2, mz, mj (.putfield 22) 3 9 8 5, mz],
  [mz, mi .return_ 1]]
def kX9_hasRoom : List (List (Option mR)) := [[mi (.aload 0) 1, mj (.getfield 25) 3 9 1 6, mz, mz, mi (.iconst 20) 2, mz, mi .iadd 1, mi (.iconst 200) 3, mz, mz, mi (.if_icmp .gt 7) 3, mz, mz, mi (.iconst 1) 1, mi (.goto 4) 3, mz],
  [mz, mi (.iconst 0) 1, mi .ireturn 1]]
def kX9_append : List (List (Option mR)) := [[mi (.iconst 24) 2, mz, mi (.istore 2) 1, mi (.iload 2) 1, mi (.ifCond .lt 45) 3, mz, mz, mi (.aload 0) 1, mj (.getfield 25) 3 9 1 6, mz, mz, mi (.iconst 200) 3, mz, mz, mi (.if_icmp .ge 35) 3, mz],
  [mz, mi (.aload 0) 1, mj (.getfield 9) 3 9 0 1, mz, mz, mi (.aload 0) 1, mj (.getfield 25) 3 9 1 6, mz, mz, mi (.iload 1) 1, mi (.iload 2) 1, mi .iushr 1, mi (.iconst 255) 3, mz, mz, mi .iand 1],
  [mi .iastore 1, mi (.aload 0) 1, mi .dup 1, mj (.getfield 25) 3 9 1 6, mz, mz, mi (.iconst 1) 1, mi .iadd 1, mj (.putfield 25) 3 9 1 6, mz, mz, mi (.iinc 2 (-8)) 3, mz, mz, mi (.goto (-43)) 3, mz],
  [mz, mi .return_ 1]]
def kX9_compile : List (List (Option mR)) := [[mi (.aload 0) 1, mj (.invokevirtual 29) 3 96 0 7, mz, mz, mi (.aload 0) 1, mi (.iconst 0) 1, mj (.putfield 32) 3 9 6 8, mz, mz, mi (.aload 0) 1, mi (.iconst (-1)) 1, mj (.putfield 35) 3 9 7 9, mz, mz, mi (.aload 0) 1, mi (.iconst 0) 1],
  [mj (.putfield 38) 3 9 9 10, mz, mz, mi (.iconst 1) 1, mi (.istore 1) 1, mi (.iconst 0) 1, mi (.istore 2) 1, mi (.iload 1) 1, mi (.ifCond .eq 28) 3, mz, mz, mi (.iload 2) 1, mi (.iconst 200) 3, mz, mz, mi (.if_icmp .gt 21) 3],
  [mz, mz, mi (.aload 0) 1, mj (.invokevirtual 41) 3 108 0 11, mz, mz, mi (.aload 0) 1, mi (.iconst 1059) 3, mz, mz, mj (.invokevirtual 44) 3 103 1 12, mz, mz, mi (.istore 1) 1, mi (.iinc 2 1) 3, mz],
  [mz, mi (.goto (-26)) 3, mz, mz, mi (.aload 0) 1, mj (.invokevirtual 48) 3 102 0 13, mz, mz, mi (.iconst 101) 2, mz, mi (.if_icmp .eq 7) 3, mz, mz, mi (.aload 0) 1, mj (.invokevirtual 52) 3 105 0 14, mz],
  [mz, mi (.aload 0) 1, mj (.getfield 35) 3 9 7 9, mz, mz, mi .ireturn 1]]
def kX9_copyOfCode : List (List (Option mR)) := [[mi (.aload 0) 1, mj (.getfield 22) 3 9 8 5, mz, mz, mi (.aload 0) 1, mj (.getfield 38) 3 9 9 10, mz, mz, mj (.invokestatic 55) 3 291 2 15, mz, mz, mi .areturn 1]]
def kX9_cut : List (List (Option mR)) := [[mi (.aload 0) 1, mi (.iconst 0) 1, mj (.putfield 61) 3 9 5 16, mz, mz, mi (.iconst 0) 1, mi (.istore 1) 1, mi (.iconst 0) 1, mi (.istore 2) 1, mi (.iload 2) 1, mi (.iconst 200) 3, mz, mz, mi (.if_icmp .ge 154) 3, mz, mz],
  [mi (.iload 1) 1, mi (.aload 0) 1, mj (.getfield 25) 3 9 1 6, mz, mz, mi (.if_icmp .ge 146) 3, mz, mz, mi (.iload 1) 1, mi (.iconst 1) 1, mi .iadd 1, mi (.istore 3) 1, mi (.aload 0) 1, mi (.iload 1) 1, mj (.invokevirtual 64) 3 97 1 17, mz],
  [mz, mi (.ifCond .eq 40) 3, mz, mz, mi (.iload 3) 1, mi (.aload 0) 1, mj (.getfield 25) 3 9 1 6, mz, mz, mi (.if_icmp .ge 17) 3, mz, mz, mi (.aload 0) 1, mi (.iload 3) 1, mj (.invokevirtual 64) 3 97 1 17, mz],
  [mz, mi (.ifCond .eq 9) 3, mz, mz, mi (.iinc 3 1) 3, mz, mz, mi (.goto (-19)) 3, mz, mz, mi (.aload 0) 1, mi (.aload 0) 1, mi (.iload 1) 1, mi (.iload 3) 1, mj (.invokevirtual 67) 3 101 2 18, mz],
  [mz, mi (.iconst 0) 1, mi (.iload 1) 1, mj (.invokevirtual 71) 3 99 3 19, mz, mz, mi (.goto 89) 3, mz, mz, mi (.aload 0) 1, mi (.iload 1) 1, mj (.invokevirtual 75) 3 98 1 20, mz, mz, mi (.ifCond .eq 54) 3, mz],
  [mz, mi (.iload 3) 1, mi (.aload 0) 1, mj (.getfield 25) 3 9 1 6, mz, mz, mi (.if_icmp .ge 17) 3, mz, mz, mi (.aload 0) 1, mi (.iload 3) 1, mj (.invokevirtual 75) 3 98 1 20, mz, mz, mi (.ifCond .eq 9) 3, mz],
  [mz, mi (.iinc 3 1) 3, mz, mz, mi (.goto (-19)) 3, mz, mz, mi (.aload 0) 1, mi (.iload 3) 1, mi (.iload 1) 1, mi .isub 1, mi (.iconst 6) 2, mz, mi (.if_icmp .le 8) 3, mz, mz],
  [mi (.iconst 102) 2, mz, mi (.goto 5) 3, mz, mz, mi (.iconst 100) 2, mz, mi (.aload 0) 1, mi (.iload 1) 1, mi (.iload 3) 1, mj (.invokevirtual 78) 3 100 2 21, mz, mz, mi (.iload 1) 1, mj (.invokevirtual 71) 3 99 3 19, mz],
  [mz, mi (.goto 30) 3, mz, mz, mi (.aload 0) 1, mj (.getfield 9) 3 9 0 1, mz, mz, mi (.iload 1) 1, mi .iaload 1, mi (.iconst 32) 2, mz, mi (.if_icmp .eq 19) 3, mz, mz, mi (.aload 0) 1],
  [mi (.iconst 1000) 3, mz, mz, mi (.aload 0) 1, mj (.getfield 9) 3 9 0 1, mz, mz, mi (.iload 1) 1, mi .iaload 1, mi .iadd 1, mi (.iconst 0) 1, mi (.iload 1) 1, mj (.invokevirtual 71) 3 99 3 19, mz, mz, mi (.iload 3) 1],
  [mi (.istore 1) 1, mi (.iinc 2 1) 3, mz, mz, mi (.goto (-155)) 3, mz, mz, mi (.aload 0) 1, mi (.iconst 101) 2, mz, mi (.iconst 0) 1, mi (.aload 0) 1, mj (.getfield 25) 3 9 1 6, mz, mz, mj (.invokevirtual 71) 3 99 3 19],
  [mz, mz, mi .return_ 1]]
def kX9_isLetter : List (List (Option mR)) := [[mi (.iload 1) 1, mi (.ifCond .lt 44) 3, mz, mz, mi (.iload 1) 1, mi (.aload 0) 1, mj (.getfield 25) 3 9 1 6, mz, mz, mi (.if_icmp .ge 36) 3, mz, mz, mi (.iload 1) 1, mi (.iconst 200) 3, mz, mz],
  [mi (.if_icmp .ge 29) 3, mz, mz, mi (.aload 0) 1, mj (.getfield 9) 3 9 0 1, mz, mz, mi (.iload 1) 1, mi .iaload 1, mi (.iconst 97) 2, mz, mi (.if_icmp .lt 18) 3, mz, mz, mi (.aload 0) 1, mj (.getfield 9) 3 9 0 1],
  [mz, mz, mi (.iload 1) 1, mi .iaload 1, mi (.iconst 122) 2, mz, mi (.if_icmp .gt 7) 3, mz, mz, mi (.iconst 1) 1, mi (.goto 4) 3, mz, mz, mi (.iconst 0) 1, mi .ireturn 1]]
def kX9_isDigit : List (List (Option mR)) := [[mi (.iload 1) 1, mi (.ifCond .lt 44) 3, mz, mz, mi (.iload 1) 1, mi (.aload 0) 1, mj (.getfield 25) 3 9 1 6, mz, mz, mi (.if_icmp .ge 36) 3, mz, mz, mi (.iload 1) 1, mi (.iconst 200) 3, mz, mz],
  [mi (.if_icmp .ge 29) 3, mz, mz, mi (.aload 0) 1, mj (.getfield 9) 3 9 0 1, mz, mz, mi (.iload 1) 1, mi .iaload 1, mi (.iconst 48) 2, mz, mi (.if_icmp .lt 18) 3, mz, mz, mi (.aload 0) 1, mj (.getfield 9) 3 9 0 1],
  [mz, mz, mi (.iload 1) 1, mi .iaload 1, mi (.iconst 57) 2, mz, mi (.if_icmp .gt 7) 3, mz, mz, mi (.iconst 1) 1, mi (.goto 4) 3, mz, mz, mi (.iconst 0) 1, mi .ireturn 1]]
def kX9_addToken : List (List (Option mR)) := [[mi (.aload 0) 1, mj (.getfield 61) 3 9 5 16, mz, mz, mi (.aload 0) 1, mj (.getfield 13) 3 9 2 2, mz, mz, mi .arraylength 1, mi (.if_icmp .ge 43) 3, mz, mz, mi (.aload 0) 1, mj (.getfield 13) 3 9 2 2, mz, mz],
  [mi (.aload 0) 1, mj (.getfield 61) 3 9 5 16, mz, mz, mi (.iload 1) 1, mi .iastore 1, mi (.aload 0) 1, mj (.getfield 16) 3 9 3 3, mz, mz, mi (.aload 0) 1, mj (.getfield 61) 3 9 5 16, mz, mz, mi (.iload 2) 1, mi .iastore 1],
  [mi (.aload 0) 1, mj (.getfield 19) 3 9 4 4, mz, mz, mi (.aload 0) 1, mj (.getfield 61) 3 9 5 16, mz, mz, mi (.iload 3) 1, mi .iastore 1, mi (.aload 0) 1, mi .dup 1, mj (.getfield 61) 3 9 5 16, mz, mz, mi (.iconst 1) 1],
  [mi .iadd 1, mj (.putfield 61) 3 9 5 16, mz, mz, mi .return_ 1]]
def kX9_numberOf : List (List (Option mR)) := [[mi (.iconst 0) 1, mi (.istore 3) 1, mi (.iload 1) 1, mi (.istore 4) 2, mz, mi (.iload 4) 2, mz, mi (.iload 2) 1, mi (.if_icmp .ge 34) 3, mz, mz, mi (.aload 0) 1, mi (.iload 4) 2, mz, mj (.invokevirtual 75) 3 98 1 20, mz],
  [mz, mi (.ifCond .eq 25) 3, mz, mz, mi (.iconst 10) 2, mz, mi (.iload 3) 1, mi .imul 1, mi (.aload 0) 1, mj (.getfield 9) 3 9 0 1, mz, mz, mi (.iload 4) 2, mz, mi .iaload 1, mi .iadd 1],
  [mi (.iconst 48) 2, mz, mi .isub 1, mi (.istore 3) 1, mi (.iinc 4 1) 3, mz, mz, mi (.goto (-34)) 3, mz, mz, mi (.iload 3) 1, mi .ireturn 1]]
def kX9_wordSort : List (List (Option mR)) := [[mi (.iconst 0) 1, mi (.istore 3) 1, mi (.iload 1) 1, mi (.istore 4) 2, mz, mi (.iconst 1) 1, mi (.istore 5) 2, mz, mi (.iconst 0) 1, mi (.istore 6) 2, mz, mi (.iload 6) 2, mz, mj .dadd 2 0 0 22, mz, mj .dmul 3 0 0 23],
  [mz, mz, mi (.if_icmp .ge 91) 3, mz, mz, mj .dadd 2 0 0 22, mz, mi (.iload 6) 2, mz, mj .ddiv 3 0 0 24, mz, mz, mi (.istore 7) 2, mz, mi (.iload 7) 2, mz],
  [mi (.iconst 32) 2, mz, mi (.if_icmp .ne 28) 3, mz, mz, mi (.iload 5) 2, mz, mi (.ifCond .eq 11) 3, mz, mz, mi (.iload 4) 2, mz, mi (.iload 2) 1, mi (.if_icmp .ne 5) 3, mz, mz],
  [mi (.iload 3) 1, mi .ireturn 1, mi (.iinc 3 1) 3, mz, mz, mi (.iload 1) 1, mi (.istore 4) 2, mz, mi (.iconst 1) 1, mi (.istore 5) 2, mz, mi (.goto 44) 3, mz, mz, mi (.iload 5) 2, mz],
  [mi (.ifCond .eq 36) 3, mz, mz, mi (.iload 4) 2, mz, mi (.iload 2) 1, mi (.if_icmp .ge 30) 3, mz, mz, mi (.aload 0) 1, mi (.iload 4) 2, mz, mj (.invokevirtual 64) 3 97 1 17, mz, mz, mi (.ifCond .eq 21) 3],
  [mz, mz, mi (.aload 0) 1, mj (.getfield 9) 3 9 0 1, mz, mz, mi (.iload 4) 2, mz, mi .iaload 1, mi (.iload 7) 2, mz, mi (.if_icmp .ne 9) 3, mz, mz, mi (.iinc 4 1) 3, mz],
  [mz, mi (.goto 6) 3, mz, mz, mi (.iconst 0) 1, mi (.istore 5) 2, mz, mi (.iinc 6 1) 3, mz, mz, mi (.goto (-95)) 3, mz, mz, mi (.iconst 102) 2, mz, mi .ireturn 1]]
def kX9_sort : List (List (Option mR)) := [[mi (.aload 0) 1, mj (.getfield 32) 3 9 6 8, mz, mz, mi (.ifCond .lt 26) 3, mz, mz, mi (.aload 0) 1, mj (.getfield 32) 3 9 6 8, mz, mz, mi (.aload 0) 1, mj (.getfield 61) 3 9 5 16, mz, mz, mi (.if_icmp .ge 15) 3],
  [mz, mz, mi (.aload 0) 1, mj (.getfield 13) 3 9 2 2, mz, mz, mi (.aload 0) 1, mj (.getfield 32) 3 9 6 8, mz, mz, mi .iaload 1, mi (.goto 5) 3, mz, mz, mi (.iconst 101) 2, mz],
  [mi .ireturn 1]]
def kX9_take : List (List (Option mR)) := [[mi (.aload 0) 1, mj (.getfield 35) 3 9 7 9, mz, mz, mi (.ifCond .ge 11) 3, mz, mz, mi (.aload 0) 1, mj (.invokevirtual 48) 3 102 0 13, mz, mz, mi (.iload 1) 1, mi (.if_icmp .eq 5) 3, mz, mz, mi (.iconst 0) 1],
  [mi .ireturn 1, mi (.aload 0) 1, mi .dup 1, mj (.getfield 32) 3 9 6 8, mz, mz, mi (.iconst 1) 1, mi .iadd 1, mj (.putfield 32) 3 9 6 8, mz, mz, mi (.iconst 1) 1, mi .ireturn 1]]
def kX9_need : List (List (Option mR)) := [[mi (.aload 0) 1, mj (.invokevirtual 48) 3 102 0 13, mz, mz, mi (.iload 1) 1, mi (.if_icmp .ne 16) 3, mz, mz, mi (.aload 0) 1, mi .dup 1, mj (.getfield 32) 3 9 6 8, mz, mz, mi (.iconst 1) 1, mi .iadd 1, mj (.putfield 32) 3 9 6 8],
  [mz, mz, mi (.goto 7) 3, mz, mz, mi (.aload 0) 1, mj (.invokevirtual 52) 3 105 0 14, mz, mz, mi .return_ 1]]
def kX9_fail : List (List (Option mR)) := [[mi (.aload 0) 1, mj (.getfield 35) 3 9 7 9, mz, mz, mi (.ifCond .ge 41) 3, mz, mz, mi (.aload 0) 1, mi (.aload 0) 1, mj (.getfield 32) 3 9 6 8, mz, mz, mi (.ifCond .lt 26) 3, mz, mz, mi (.aload 0) 1],
  [mj (.getfield 32) 3 9 6 8, mz, mz, mi (.aload 0) 1, mj (.getfield 61) 3 9 5 16, mz, mz, mi (.if_icmp .ge 15) 3, mz, mz, mi (.aload 0) 1, mj (.getfield 19) 3 9 4 4, mz, mz, mi (.aload 0) 1, mj (.getfield 32) 3 9 6 8],
  [mz, mz, mi .iaload 1, mi (.goto 7) 3, mz, mz, mi (.aload 0) 1, mj (.getfield 25) 3 9 1 6, mz, mz, mj (.putfield 35) 3 9 7 9, mz, mz, mi .return_ 1]]
def kX9_number : List (List (Option mR)) := [[mi (.aload 0) 1, mj (.invokevirtual 48) 3 102 0 13, mz, mz, mi (.iconst 100) 2, mz, mi (.if_icmp .ne 15) 3, mz, mz, mi (.aload 0) 1, mj (.getfield 32) 3 9 6 8, mz, mz, mi (.aload 0) 1, mj (.getfield 16) 3 9 3 3, mz],
  [mz, mi .arraylength 1, mi (.if_icmp .lt 9) 3, mz, mz, mi (.aload 0) 1, mj (.invokevirtual 52) 3 105 0 14, mz, mz, mi (.iconst 0) 1, mi .ireturn 1, mi (.aload 0) 1, mi .dup 1, mj (.getfield 32) 3 9 6 8, mz, mz],
  [mi (.iconst 1) 1, mi .iadd 1, mj (.putfield 32) 3 9 6 8, mz, mz, mi (.aload 0) 1, mj (.getfield 16) 3 9 3 3, mz, mz, mi (.aload 0) 1, mj (.getfield 32) 3 9 6 8, mz, mz, mi (.iconst 1) 1, mi .isub 1, mi .iaload 1],
  [mi .ireturn 1]]
def kX9_emit : List (List (Option mR)) := [[mi (.aload 0) 1, mj (.getfield 38) 3 9 9 10, mz, mz, mi (.aload 0) 1, mj (.getfield 22) 3 9 8 5, mz, mz, mi .arraylength 1, mi (.if_icmp .ge 23) 3, mz, mz, mi (.aload 0) 1, mj (.getfield 22) 3 9 8 5, mz, mz],
  [mi (.aload 0) 1, mj (.getfield 38) 3 9 9 10, mz, mz, mi (.iload 1) 1, mi .iastore 1, mi (.aload 0) 1, mi .dup 1, mj (.getfield 38) 3 9 9 10, mz, mz, mi (.iconst 1) 1, mi .iadd 1, mj (.putfield 38) 3 9 9 10, mz, mz],
  [mi .return_ 1]]
def kX9_step : List (List (Option mR)) := [[mi (.iconst 0) 1, mi (.istore 1) 1, mj (.iconst 999999) 2 0 0 25, mz, mi (.istore 2) 1, mi (.aload 0) 1, mi (.iconst 14) 2, mz, mj (.invokevirtual 44) 3 103 1 12, mz, mz, mi (.ifCond .eq 31) 3, mz, mz, mi (.aload 0) 1, mj (.invokevirtual 92) 3 106 0 26],
  [mz, mz, mi (.istore 1) 1, mi (.aload 0) 1, mi (.iconst 16) 2, mz, mj (.invokevirtual 44) 3 103 1 12, mz, mz, mi (.ifCond .eq 11) 3, mz, mz, mi (.aload 0) 1, mj (.invokevirtual 92) 3 106 0 26, mz, mz],
  [mi (.istore 2) 1, mi (.goto 9) 3, mz, mz, mi (.aload 0) 1, mi (.iconst 15) 2, mz, mj (.invokevirtual 95) 3 104 1 27, mz, mz, mi (.aload 0) 1, mi (.iload 1) 1, mj (.invokevirtual 99) 3 107 1 28, mz, mz, mi (.aload 0) 1],
  [mi (.iload 2) 1, mj (.invokevirtual 99) 3 107 1 28, mz, mz, mi (.aload 0) 1, mj (.getfield 38) 3 9 9 10, mz, mz, mi (.istore 3) 1, mi (.aload 0) 1, mi (.iconst 0) 1, mj (.invokevirtual 99) 3 107 1 28, mz, mz, mi (.aload 0) 1, mi (.iconst 0) 1],
  [mj (.invokevirtual 102) 3 109 1 29, mz, mz, mi (.iload 3) 1, mi (.aload 0) 1, mj (.getfield 22) 3 9 8 5, mz, mz, mi .arraylength 1, mi (.if_icmp .ge 13) 3, mz, mz, mi (.aload 0) 1, mj (.getfield 22) 3 9 8 5, mz, mz],
  [mi (.iload 3) 1, mi (.aload 0) 1, mj (.getfield 38) 3 9 9 10, mz, mz, mi .iastore 1, mi .return_ 1]]
def kX9_sum : List (List (Option mR)) := [[mi (.aload 0) 1, mi (.iload 1) 1, mj (.invokevirtual 105) 3 110 1 30, mz, mz, mi (.aload 0) 1, mj (.getfield 61) 3 9 5 16, mz, mz, mi (.istore 2) 1, mi (.iload 2) 1, mi (.ifCond .le 57) 3, mz, mz, mi (.aload 0) 1, mj (.getfield 35) 3 9 7 9],
  [mz, mz, mi (.ifCond .ge 50) 3, mz, mz, mi (.aload 0) 1, mj (.invokevirtual 48) 3 102 0 13, mz, mz, mi (.istore 3) 1, mi (.iload 3) 1, mi (.iconst 1043) 3, mz, mz, mi (.if_icmp .eq 11) 3, mz],
  [mz, mi (.iload 3) 1, mi (.iconst 1045) 3, mz, mz, mi (.if_icmp .eq 4) 3, mz, mz, mi .return_ 1, mi (.aload 0) 1, mi .dup 1, mj (.getfield 32) 3 9 6 8, mz, mz, mi (.iconst 1) 1, mi .iadd 1],
  [mj (.putfield 32) 3 9 6 8, mz, mz, mi (.aload 0) 1, mi (.iload 1) 1, mj (.invokevirtual 105) 3 110 1 30, mz, mz, mi (.aload 0) 1, mi (.iload 3) 1, mi .ineg 1, mj (.invokevirtual 99) 3 107 1 28, mz, mz, mi (.iinc 2 (-1)) 3, mz],
  [mz, mi (.goto (-55)) 3, mz, mz, mi .return_ 1]]
def kX9_product : List (List (Option mR)) := [[mi (.aload 0) 1, mi (.iload 1) 1, mj (.invokevirtual 108) 3 111 1 31, mz, mz, mi (.aload 0) 1, mj (.getfield 61) 3 9 5 16, mz, mz, mi (.istore 2) 1, mi (.iload 2) 1, mi (.ifCond .le 57) 3, mz, mz, mi (.aload 0) 1, mj (.getfield 35) 3 9 7 9],
  [mz, mz, mi (.ifCond .ge 50) 3, mz, mz, mi (.aload 0) 1, mj (.invokevirtual 48) 3 102 0 13, mz, mz, mi (.istore 3) 1, mi (.iload 3) 1, mi (.iconst 1042) 3, mz, mz, mi (.if_icmp .eq 11) 3, mz],
  [mz, mi (.iload 3) 1, mi (.iconst 1047) 3, mz, mz, mi (.if_icmp .eq 4) 3, mz, mz, mi .return_ 1, mi (.aload 0) 1, mi .dup 1, mj (.getfield 32) 3 9 6 8, mz, mz, mi (.iconst 1) 1, mi .iadd 1],
  [mj (.putfield 32) 3 9 6 8, mz, mz, mi (.aload 0) 1, mi (.iload 1) 1, mj (.invokevirtual 108) 3 111 1 31, mz, mz, mi (.aload 0) 1, mi (.iload 3) 1, mi .ineg 1, mj (.invokevirtual 99) 3 107 1 28, mz, mz, mi (.iinc 2 (-1)) 3, mz],
  [mz, mi (.goto (-55)) 3, mz, mz, mi .return_ 1]]
def kX9_operand : List (List (Option mR)) := [[mi (.aload 0) 1, mj (.invokevirtual 48) 3 102 0 13, mz, mz, mi (.istore 2) 1, mi (.iload 2) 1, mi (.iconst 17) 2, mz, mi (.if_icmp .eq 9) 3, mz, mz, mi (.iload 2) 1, mi (.iconst 18) 2, mz, mi (.if_icmp .ne 7) 3, mz],
  [mz, mi (.iconst 1) 1, mi (.goto 4) 3, mz, mz, mi (.iconst 0) 1, mi (.istore 3) 1, mi (.iload 2) 1, mi (.iconst 100) 2, mz, mi (.if_icmp .ne 12) 3, mz, mz, mi (.aload 0) 1, mi (.aload 0) 1, mj (.invokevirtual 92) 3 106 0 26],
  [mz, mz, mj (.invokevirtual 99) 3 107 1 28, mz, mz, mi .return_ 1, mi (.iload 2) 1, mi (.ifCond .lt 27) 3, mz, mz, mi (.iload 2) 1, mi (.iconst 14) 2, mz, mi (.if_icmp .ge 21) 3, mz, mz],
  [mi (.aload 0) 1, mi .dup 1, mj (.getfield 32) 3 9 6 8, mz, mz, mi (.iconst 1) 1, mi .iadd 1, mj (.putfield 32) 3 9 6 8, mz, mz, mi (.aload 0) 1, mi (.iconst (-1)) 1, mi (.iload 2) 1, mi .isub 1, mj (.invokevirtual 99) 3 107 1 28, mz],
  [mz, mi .return_ 1, mi (.iload 3) 1, mi (.ifCond .eq 13) 3, mz, mz, mi (.aload 0) 1, mi .dup 1, mj (.getfield 32) 3 9 6 8, mz, mz, mi (.iconst 1) 1, mi .iadd 1, mj (.putfield 32) 3 9 6 8, mz, mz],
  [mi (.iload 1) 1, mi (.iconst 8) 2, mz, mi (.if_icmp .ge 13) 3, mz, mz, mi (.aload 0) 1, mi (.iconst 1040) 3, mz, mz, mj (.invokevirtual 44) 3 103 1 12, mz, mz, mi (.ifCond .ne 8) 3, mz, mz],
  [mi (.aload 0) 1, mj (.invokevirtual 52) 3 105 0 14, mz, mz, mi .return_ 1, mi (.aload 0) 1, mi (.iload 1) 1, mi (.iconst 1) 1, mi .iadd 1, mj (.invokevirtual 102) 3 109 1 29, mz, mz, mi (.iload 3) 1, mi (.ifCond .eq 23) 3, mz, mz],
  [mi (.aload 0) 1, mi (.iconst 1044) 3, mz, mz, mj (.invokevirtual 95) 3 104 1 27, mz, mz, mi (.aload 0) 1, mi (.iload 1) 1, mi (.iconst 1) 1, mi .iadd 1, mj (.invokevirtual 102) 3 109 1 29, mz, mz, mi (.aload 0) 1, mi (.iload 2) 1],
  [mi .ineg 1, mj (.invokevirtual 99) 3 107 1 28, mz, mz, mi (.aload 0) 1, mi (.iconst 1041) 3, mz, mz, mj (.invokevirtual 95) 3 104 1 27, mz, mz, mi .return_ 1]]
def kX10_init : List (List (Option mR)) := [[mi (.aload 0) 1, mi .pop2 3, mz, mz, mi (.aload 0) 1, mi (.iload 1) 1, mj (.putfield 7) 3 10 0 1, mz, mz, mi (.aload 0) 1, mi (.iload 2) 1, mj (.putfield 13) 3 10 1 2, mz, mz, mi (.aload 0) 1, mi (.iload 3) 1],
  [mj (.putfield 16) 3 10 2 3, mz, mz, mi (.aload 0) 1, mi (.aload 4) 2, mz, mj (.putfield 19) 3 10 3 4, mz, mz, mi .return_ 1]]
def kX10_inForce : List (List (Option mR)) := [[mi (.aload 0) 1, mj (.getfield 7) 3 10 0 1, mz, mz, mi (.iload 1) 1, mi (.if_icmp .ne 23) 3, mz, mz, mi (.aload 0) 1, mj (.getfield 16) 3 10 2 3, mz, mz, mi (.iload 2) 1, mi (.if_icmp .gt 15) 3, mz, mz],
  [mi (.aload 0) 1, mj (.getfield 13) 3 10 1 2, mz, mz, mi (.iload 3) 1, mi (.if_icmp .gt 7) 3, mz, mz, mi (.iconst 1) 1, mi (.goto 4) 3, mz, mz, mi (.iconst 0) 1, mi .ireturn 1]]
def kX10_give : List (List (Option mR)) := [[mi (.aload 1) 1, mi (.iconst 0) 1, mi .iaload 1, mi (.istore 3) 1, mi (.iconst 0) 1, mi (.istore 4) 2, mz, mi (.iconst 0) 1, mi (.istore 5) 2, mz, mi (.iload 5) 2, mz, mi (.aload 0) 1, mj (.getfield 19) 3 10 3 4, mz, mz],
  [mi .arraylength 1, mi (.if_icmp .ge 82) 3, mz, mz, mi (.iload 4) 2, mz, mi (.iconst 2) 1, mi .iadd 1, mi (.aload 0) 1, mj (.getfield 19) 3 10 3 4, mz, mz, mi .arraylength 1, mi (.if_icmp .ge 70) 3, mz, mz],
  [mi (.aload 0) 1, mj (.getfield 19) 3 10 3 4, mz, mz, mi (.iload 4) 2, mz, mi (.iconst 2) 1, mi .iadd 1, mi .iaload 1, mi (.istore 6) 2, mz, mi (.iload 3) 1, mi (.aload 0) 1, mj (.getfield 19) 3 10 3 4, mz, mz],
  [mi (.iload 4) 2, mz, mi .iaload 1, mi (.if_icmp .lt 38) 3, mz, mz, mi (.iload 3) 1, mi (.aload 0) 1, mj (.getfield 19) 3 10 3 4, mz, mz, mi (.iload 4) 2, mz, mi (.iconst 1) 1, mi .iadd 1, mi .iaload 1],
  [mi (.if_icmp .gt 25) 3, mz, mz, mi (.iconst 0) 1, mj (.iconst 9999999) 2 0 0 5, mz, mi (.aload 0) 1, mi (.iload 4) 2, mz, mi (.iconst 3) 1, mi .iadd 1, mi (.iload 6) 2, mz, mi (.aload 1) 1, mi (.aload 2) 1, mj (.invokevirtual 24) 3 115 4 6],
  [mz, mz, mj .fsub 3 0 0 7, mz, mz, mj .fadd 3 0 0 8, mz, mz, mi .ireturn 1, mi (.iload 6) 2, mz, mi (.istore 4) 2, mz, mi (.iinc 5 1) 3, mz, mz],
  [mi (.goto (-86)) 3, mz, mz, mi (.iconst 0) 1, mi .ireturn 1]]
def kX10_run : List (List (Option mR)) := [[mi (.iconst 0) 1, mi (.istore 5) 2, mz, mi (.iload 1) 1, mi (.istore 6) 2, mz, mi (.iload 6) 2, mz, mi (.ifCond .lt 121) 3, mz, mz, mi (.iload 6) 2, mz, mi (.iload 2) 1, mi (.if_icmp .ge 115) 3, mz],
  [mz, mi (.iload 6) 2, mz, mi (.aload 0) 1, mj (.getfield 19) 3 10 3 4, mz, mz, mi .arraylength 1, mi (.if_icmp .ge 105) 3, mz, mz, mi (.aload 0) 1, mj (.getfield 19) 3 10 3 4, mz, mz, mi (.iload 6) 2],
  [mz, mi .iaload 1, mi (.istore 7) 2, mz, mi (.iload 7) 2, mz, mi (.ifCond .ge 12) 3, mz, mz, mi (.iconst (-1)) 1, mi (.iload 7) 2, mz, mi .isub 1, mi (.aload 3) 1, mi .arraylength 1, mi (.if_icmp .ge 40) 3],
  [mz, mz, mi (.iload 5) 2, mz, mi (.aload 4) 2, mz, mi .arraylength 1, mi (.if_icmp .lt 5) 3, mz, mz, mi (.iconst 0) 1, mi .ireturn 1, mi (.aload 4) 2, mz, mi (.iload 5) 2, mz],
  [mi (.iload 7) 2, mz, mi (.ifCond .lt 8) 3, mz, mz, mi (.iload 7) 2, mz, mi (.goto 9) 3, mz, mz, mi (.aload 3) 1, mi (.iconst (-1)) 1, mi (.iload 7) 2, mz, mi .isub 1, mi .iaload 1],
  [mi .iastore 1, mi (.iinc 5 1) 3, mz, mz, mi (.goto 39) 3, mz, mz, mi (.iload 5) 2, mz, mi (.iconst 2) 1, mi (.if_icmp .ge 5) 3, mz, mz, mi (.iconst 0) 1, mi .ireturn 1, mi (.iinc 5 (-1)) 3],
  [mz, mz, mi (.aload 4) 2, mz, mi (.iload 5) 2, mz, mi (.iconst 1) 1, mi .isub 1, mi (.iload 7) 2, mz, mi .ineg 1, mi (.aload 4) 2, mz, mi (.iload 5) 2, mz, mi (.iconst 1) 1],
  [mi .isub 1, mi .iaload 1, mi (.aload 4) 2, mz, mi (.iload 5) 2, mz, mi .iaload 1, mj (.invokestatic 37) 3 116 3 9, mz, mz, mi .iastore 1, mi (.iinc 6 1) 3, mz, mz, mi (.goto (-120)) 3, mz],
  [mz, mi (.iload 5) 2, mz, mi (.ifCond .le 13) 3, mz, mz, mi (.aload 4) 2, mz, mi (.iload 5) 2, mz, mi (.iconst 1) 1, mi .isub 1, mi .iaload 1, mi (.goto 4) 3, mz, mz],
  [mi (.iconst 0) 1, mi .ireturn 1]]
def kX10_work : List (List (Option mR)) := [[mi (.iload 0) 1, mi (.lookupswitch 95 #[(17, 83), (18, 89), (1042, 67), (1043, 59), (1045, 63), (1047, 71)]) 59, mz, mz, mz, mz, mz, mz, mz, mz, mz, mz, mz, mz, mz, mz],
  [mz, mz, mz, mz, mz, mz, mz, mz, mz, mz, mz, mz, mz, mz, mz, mz],
  [mz, mz, mz, mz, mz, mz, mz, mz, mz, mz, mz, mz, mz, mz, mz, mz],
  [mz, mz, mz, mz, mz, mz, mz, mz, mz, mz, mz, mz, mi (.iload 1) 1, mi (.iload 2) 1, mi .iadd 1, mi .ireturn 1],
  [mi (.iload 1) 1, mi (.iload 2) 1, mi .isub 1, mi .ireturn 1, mi (.iload 1) 1, mi (.iload 2) 1, mi .imul 1, mi .ireturn 1, mi (.iload 2) 1, mi (.ifCond .ne 7) 3, mz, mz, mi (.iconst 0) 1, mi (.goto 6) 3, mz, mz],
  [mi (.iload 1) 1, mi (.iload 2) 1, mi .idiv 1, mi .ireturn 1, mi (.iload 1) 1, mi (.iload 2) 1, mj .fsub 3 0 0 7, mz, mz, mi .ireturn 1, mi (.iload 1) 1, mi (.iload 2) 1, mj .fadd 3 0 0 8, mz, mz, mi .ireturn 1],
  [mi (.iconst 0) 1, mi .ireturn 1]]
def kX11_init : List (List (Option mR)) := [[mi (.aload 0) 1, mi .pop2 3, mz, mz, mi (.aload 0) 1, mi (.iconst 1000) 3, mz, mz, mi (.newarray .boolean) 2, mz, mj (.putfield 9) 3 11 2 1, mz, mz, mi (.aload 0) 1, mj (.new 13) 3 8 0 2, mz],
  [mz, mi .dup 1, mj (.invokespecial 15) 3 83 0 3, mz, mz, mj (.putfield 16) 3 11 3 4, mz, mz, mi (.aload 0) 1, mi (.iconst 15) 2, mz, mj (.anewarray 20) 3 3 1 5, mz, mz, mj (.putfield 22) 3 11 4 6, mz],
  [mz, mi (.aload 0) 1, mi (.iconst 90) 2, mz, mj (.anewarray 26) 3 4 4 7, mz, mz, mj (.putfield 28) 3 11 6 8, mz, mz, mi (.aload 0) 1, mi (.iconst 30) 2, mz, mi (.newarray .int) 2, mz, mj (.putfield 32) 3 11 8 9],
  [mz, mz, mi (.aload 0) 1, mi (.iconst 30) 2, mz, mi (.newarray .int) 2, mz, mj (.putfield 36) 3 11 9 10, mz, mz, mi (.aload 0) 1, mi (.iconst 100) 2, mz, mj (.anewarray 39) 3 5 7 11, mz, mz],
  [mj (.putfield 41) 3 11 11 12, mz, mz, mi (.aload 0) 1, mj (.new 45) 3 2 0 13, mz, mz, mi .dup 1, mj (.invokespecial 47) 3 12 0 14, mz, mz, mj (.putfield 48) 3 11 13 15, mz, mz, mi (.aload 0) 1, mj (.new 52) 3 5 0 16],
  [mz, mz, mi .dup 1, mj (.invokespecial 54) 3 48 0 17, mz, mz, mj (.putfield 55) 3 11 14 18, mz, mz, mi (.aload 0) 1, mj (.new 59) 3 3 0 19, mz, mz, mi .dup 1, mj (.invokespecial 61) 3 21 0 20, mz],
  [mz, mj (.putfield 62) 3 11 15 21, mz, mz, mi (.aload 0) 1, mj (.new 66) 3 9 0 22, mz, mz, mi .dup 1, mj (.invokespecial 68) 3 91 0 23, mz, mz, mj (.putfield 69) 3 11 16 24, mz, mz, mi (.aload 0) 1],
  [mj (.new 73) 3 0 0 25, mz, mz, mi .dup 1, mj (.invokespecial 75) 3 0 0 26, mz, mz, mj (.putfield 76) 3 11 17 27, mz, mz, mi (.aload 0) 1, mi (.iconst 0) 1, mj (.putfield 80) 3 11 0 28, mz, mz, mi .return_ 1]]
def kX11_town : List (List (Option mR)) := [[mi (.iload 1) 1, mj (.invokestatic 84) 3 167 1 29, mz, mz, mi (.ifCond .eq 14) 3, mz, mz, mi (.aload 0) 1, mj (.getfield 16) 3 11 3 4, mz, mz, mi (.iload 1) 1, mj (.invokevirtual 88) 3 84 1 30, mz, mz, mi (.goto 4) 3],
  [mz, mz, mi (.iconst (-1)) 1, mi .ireturn 1]]
def kX11_road : List (List (Option mR)) := [[mi (.aload 0) 1, mj (.getfield 16) 3 11 3 4, mz, mz, mi (.iload 1) 1, mj (.invokevirtual 92) 3 85 1 31, mz, mz, mi (.ifCond .eq 30) 3, mz, mz, mi (.aload 0) 1, mj (.getfield 16) 3 11 3 4, mz, mz, mi (.iload 2) 1],
  [mj (.invokevirtual 92) 3 85 1 31, mz, mz, mi (.ifCond .eq 19) 3, mz, mz, mi (.iload 1) 1, mi (.iload 2) 1, mi (.if_icmp .eq 14) 3, mz, mz, mi (.iload 3) 1, mi (.iconst 1) 1, mi (.iconst 300) 3, mz, mz],
  [mj (.invokestatic 95) 3 166 3 32, mz, mz, mi (.ifCond .ne 5) 3, mz, mz, mi (.iconst (-1)) 1, mi .ireturn 1, mi (.aload 0) 1, mj (.getfield 16) 3 11 3 4, mz, mz, mi (.iload 1) 1, mi (.iload 2) 1, mi (.iload 3) 1, mj (.invokevirtual 99) 3 87 3 33],
  [mz, mz, mi .ireturn 1]]
def kX11_far : List (List (Option mR)) := [[mi (.aload 0) 1, mj (.getfield 16) 3 11 3 4, mz, mz, mi (.iload 1) 1, mj (.invokevirtual 92) 3 85 1 31, mz, mz, mi (.ifCond .eq 14) 3, mz, mz, mi (.aload 0) 1, mj (.getfield 16) 3 11 3 4, mz, mz, mi (.iload 2) 1],
  [mj (.invokevirtual 92) 3 85 1 31, mz, mz, mi (.ifCond .ne 5) 3, mz, mz, mi (.iconst (-1)) 1, mi .ireturn 1, mi (.aload 0) 1, mj (.getfield 16) 3 11 3 4, mz, mz, mi (.iload 1) 1, mi (.iload 2) 1, mj (.invokevirtual 103) 3 89 2 34, mz],
  [mz, mi (.istore 3) 1, mi (.iload 3) 1, mi (.ifCond .ge 8) 3, mz, mz, mi (.iconst (-2)) 2, mz, mi (.goto 4) 3, mz, mz, mi (.iload 3) 1, mi .ireturn 1]]
def kX11_hours : List (List (Option mR)) := [[mi (.iload 1) 1, mi (.iconst 1) 1, mi (.iconst 240) 3, mz, mz, mj (.invokestatic 95) 3 166 3 32, mz, mz, mi (.ifCond .eq 15) 3, mz, mz, mi (.aload 0) 1, mj (.getfield 80) 3 11 0 28, mz, mz, mi (.iload 1) 1],
  [mi .iadd 1, mi (.iconst 23999) 3, mz, mz, mi (.if_icmp .le 5) 3, mz, mz, mi (.iconst (-1)) 1, mi .ireturn 1, mi (.aload 0) 1, mi .dup 1, mj (.getfield 80) 3 11 0 28, mz, mz, mi (.iload 1) 1, mi .iadd 1],
  [mj (.putfield 80) 3 11 0 28, mz, mz, mi (.iconst 0) 1, mi (.istore 2) 1, mi (.iload 2) 1, mi (.iconst 90) 2, mz, mi (.if_icmp .ge 27) 3, mz, mz, mi (.aload 0) 1, mi (.iload 2) 1, mj (.invokevirtual 107) 3 169 1 35, mz, mz],
  [mi (.astore 3) 1, mi (.aload 3) 1, mi (.ifnull 11) 3, mz, mz, mi (.aload 3) 1, mi (.aload 0) 1, mj (.getfield 80) 3 11 0 28, mz, mz, mj (.invokevirtual 111) 3 43 1 36, mz, mz, mi (.iinc 2 1) 3, mz, mz],
  [mi (.goto (-27)) 3, mz, mz, mi (.aload 0) 1, mj (.getfield 80) 3 11 0 28, mz, mz, mi .ireturn 1]]
def kX11_rain : List (List (Option mR)) := [[mi (.iload 1) 1, mi (.iconst 0) 1, mi (.iconst 999) 3, mz, mz, mj (.invokestatic 95) 3 166 3 32, mz, mz, mi (.ifCond .eq 10) 3, mz, mz, mi (.iload 2) 1, mj (.invokestatic 84) 3 167 1 29, mz, mz, mi (.ifCond .ne 5) 3],
  [mz, mz, mi (.iconst (-1)) 1, mi .ireturn 1, mi (.aload 0) 1, mj (.getfield 9) 3 11 2 1, mz, mz, mi (.iload 1) 1, mi .baload 1, mi (.ifCond .eq 7) 3, mz, mz, mi (.iconst 1) 1, mi (.goto 4) 3, mz],
  [mz, mi (.iconst 0) 1, mi (.istore 3) 1, mi (.aload 0) 1, mj (.getfield 9) 3 11 2 1, mz, mz, mi (.iload 1) 1, mi (.iload 2) 1, mi (.iconst 1) 1, mi (.if_icmp .ne 7) 3, mz, mz, mi (.iconst 1) 1, mi (.goto 4) 3, mz],
  [mz, mi (.iconst 0) 1, mi .bastore 1, mi (.iload 3) 1, mi .ireturn 1]]
def kX11_type : List (List (Option mR)) := [[mi (.iload 1) 1, mi (.iconst 1000) 3, mz, mz, mj (.iconst 99999) 2 0 0 37, mz, mj (.invokestatic 95) 3 166 3 32, mz, mz, mi (.ifCond .eq 49) 3, mz, mz, mi (.iload 2) 1, mi (.iconst 1) 1, mi (.iconst 9999) 3, mz],
  [mz, mj (.invokestatic 95) 3 166 3 32, mz, mz, mi (.ifCond .eq 38) 3, mz, mz, mi (.iload 3) 1, mi (.iconst 0) 1, mi (.iconst 997) 3, mz, mz, mj (.invokestatic 95) 3 166 3 32, mz, mz, mi (.ifCond .eq 27) 3],
  [mz, mz, mi (.iload 3) 1, mi (.iconst 10) 2, mz, mi .irem 1, mi (.iconst 7) 2, mz, mi (.if_icmp .gt 18) 3, mz, mz, mi (.iload 4) 2, mz, mi (.iconst 0) 1, mj (.iconst 99999) 2 0 0 37, mz],
  [mj (.invokestatic 95) 3 166 3 32, mz, mz, mi (.ifCond .eq 7) 3, mz, mz, mi (.iconst 1) 1, mi (.goto 4) 3, mz, mz, mi (.iconst 0) 1, mi (.istore 5) 2, mz, mi (.iload 5) 2, mz, mi (.ifCond .ne 5) 3],
  [mz, mz, mi (.iconst (-1)) 1, mi .ireturn 1, mi (.aload 0) 1, mj (.getfield 116) 3 11 5 38, mz, mz, mi (.iconst 15) 2, mz, mi (.if_icmp .lt 6) 3, mz, mz, mi (.iconst (-3)) 2, mz, mi .ireturn 1],
  [mi (.aload 0) 1, mj (.getfield 22) 3 11 4 6, mz, mz, mi (.aload 0) 1, mj (.getfield 116) 3 11 5 38, mz, mz, mj (.new 20) 3 1 0 39, mz, mz, mi .dup 1, mi (.aload 0) 1, mj (.getfield 116) 3 11 5 38, mz, mz],
  [mi (.iload 1) 1, mi (.iload 2) 1, mi (.iload 3) 1, mi (.iconst 10) 2, mz, mi .irem 1, mi (.iload 4) 2, mz, mj (.invokespecial 119) 3 10 5 40, mz, mz, mi .aastore 1, mi (.aload 0) 1, mi .dup 1, mj (.getfield 116) 3 11 5 38, mz],
  [mz, mi .dup_x1 1, mi (.iconst 1) 1, mi .iadd 1, mj (.putfield 116) 3 11 5 38, mz, mz, mi .ireturn 1]]
def kX11_instead : List (List (Option mR)) := [[mi (.aload 0) 1, mi (.iload 1) 1, mj (.invokevirtual 122) 3 168 1 41, mz, mz, mi (.astore 4) 2, mz, mi (.aload 4) 2, mz, mi (.ifnull 23) 3, mz, mz, mi (.aload 0) 1, mi (.iload 2) 1, mj (.invokevirtual 122) 3 168 1 41, mz],
  [mz, mi (.ifnull 15) 3, mz, mz, mi (.iload 1) 1, mi (.iload 2) 1, mi (.if_icmp .eq 10) 3, mz, mz, mi (.iload 3) 1, mj (.invokestatic 84) 3 167 1 29, mz, mz, mi (.ifCond .ne 5) 3, mz, mz],
  [mi (.iconst (-1)) 1, mi .ireturn 1, mi (.aload 4) 2, mz, mj (.getfield 126) 3 1 7 42, mz, mz, mi (.iload 2) 1, mi .baload 1, mi (.ifCond .eq 7) 3, mz, mz, mi (.iconst 1) 1, mi (.goto 4) 3, mz, mz],
  [mi (.iconst 0) 1, mi (.istore 5) 2, mz, mi (.aload 4) 2, mz, mj (.getfield 126) 3 1 7 42, mz, mz, mi (.iload 2) 1, mi (.iload 3) 1, mi (.iconst 1) 1, mi (.if_icmp .ne 7) 3, mz, mz, mi (.iconst 1) 1, mi (.goto 4) 3],
  [mz, mz, mi (.iconst 0) 1, mi .bastore 1, mi (.iload 5) 2, mz, mi .ireturn 1]]
def kX11_mark : List (List (Option mR)) := [[mi (.aload 0) 1, mi (.iload 1) 1, mj (.invokevirtual 122) 3 168 1 41, mz, mz, mi (.astore 4) 2, mz, mi (.aload 4) 2, mz, mi (.ifnull 24) 3, mz, mz, mi (.iload 2) 1, mi (.iconst 0) 1, mi (.iconst 15) 2, mz],
  [mj (.invokestatic 95) 3 166 3 32, mz, mz, mi (.ifCond .eq 14) 3, mz, mz, mi (.iload 3) 1, mi (.iconst 0) 1, mi (.iconst 9999) 3, mz, mz, mj (.invokestatic 95) 3 166 3 32, mz, mz, mi (.ifCond .ne 5) 3, mz],
  [mz, mi (.iconst (-1)) 1, mi .ireturn 1, mi (.aload 4) 2, mz, mj (.getfield 129) 3 1 6 43, mz, mz, mi (.iload 2) 1, mi .iaload 1, mi (.istore 5) 2, mz, mi (.aload 4) 2, mz, mj (.getfield 129) 3 1 6 43, mz],
  [mz, mi (.iload 2) 1, mi (.iload 3) 1, mi .iastore 1, mi (.iload 5) 2, mz, mi .ireturn 1]]
def kX11_machine : List (List (Option mR)) := [[mi (.aload 0) 1, mi (.iload 1) 1, mj (.invokevirtual 122) 3 168 1 41, mz, mz, mi (.astore 4) 2, mz, mi (.aload 4) 2, mz, mi (.ifnull 24) 3, mz, mz, mi (.aload 0) 1, mj (.getfield 16) 3 11 3 4, mz, mz],
  [mi (.iload 2) 1, mj (.invokevirtual 132) 3 86 1 44, mz, mz, mi (.ifCond .eq 13) 3, mz, mz, mi (.iload 3) 1, mi (.iconst 0) 1, mj (.iconst 99999) 2 0 0 37, mz, mj (.invokestatic 95) 3 166 3 32, mz, mz, mi (.ifCond .ne 5) 3, mz],
  [mz, mi (.iconst (-1)) 1, mi .ireturn 1, mi (.aload 0) 1, mj (.getfield 135) 3 11 7 45, mz, mz, mi (.iconst 90) 2, mz, mi (.if_icmp .lt 6) 3, mz, mz, mi (.iconst (-3)) 2, mz, mi .ireturn 1, mi (.aload 0) 1],
  [mj (.getfield 28) 3 11 6 8, mz, mz, mi (.aload 0) 1, mj (.getfield 135) 3 11 7 45, mz, mz, mj (.new 26) 3 4 0 46, mz, mz, mi .dup 1, mi (.aload 0) 1, mj (.getfield 135) 3 11 7 45, mz, mz, mi (.aload 4) 2],
  [mz, mi (.iload 2) 1, mi (.aload 0) 1, mj (.getfield 80) 3 11 0 28, mz, mz, mi (.iload 3) 1, mj (.invokespecial 138) 3 35 5 47, mz, mz, mi .aastore 1, mi (.aload 0) 1, mi .dup 1, mj (.getfield 135) 3 11 7 45, mz, mz],
  [mi .dup_x1 1, mi (.iconst 1) 1, mi .iadd 1, mj (.putfield 135) 3 11 7 45, mz, mz, mi .ireturn 1]]
def kX11_link : List (List (Option mR)) := [[mi (.aload 0) 1, mi (.iload 1) 1, mj (.invokevirtual 107) 3 169 1 35, mz, mz, mi (.astore 4) 2, mz, mi (.aload 4) 2, mz, mi (.ifnull 24) 3, mz, mz, mi (.iload 2) 1, mi (.iconst 0) 1, mi (.iconst 9) 2, mz],
  [mj (.invokestatic 95) 3 166 3 32, mz, mz, mi (.ifCond .eq 14) 3, mz, mz, mi (.iload 3) 1, mi (.iconst 1) 1, mi (.iconst 9999) 3, mz, mz, mj (.invokestatic 95) 3 166 3 32, mz, mz, mi (.ifCond .ne 5) 3, mz],
  [mz, mi (.iconst (-1)) 1, mi .ireturn 1, mi (.aload 4) 2, mz, mi (.iload 2) 1, mi (.iload 3) 1, mj (.invokevirtual 141) 3 45 2 48, mz, mz, mi .ireturn 1]]
def kX11_ofMachine : List (List (Option mR)) := [[mi (.aload 0) 1, mi (.iload 1) 1, mj (.invokevirtual 107) 3 169 1 35, mz, mz, mi (.astore 3) 1, mi (.aload 3) 1, mi (.ifnonnull 6) 3, mz, mz, mj (.iconst (-2000000000)) 2 0 0 49, mz, mi .ireturn 1, mi (.iload 2) 1, mi (.tableswitch 124 0 9 #[54, 62, 70, 75, 80, 85, 90, 95, 114, 119]) 54, mz],
  [mz, mz, mz, mz, mz, mz, mz, mz, mz, mz, mz, mz, mz, mz, mz, mz],
  [mz, mz, mz, mz, mz, mz, mz, mz, mz, mz, mz, mz, mz, mz, mz, mz],
  [mz, mz, mz, mz, mz, mz, mz, mz, mz, mz, mz, mz, mz, mz, mz, mz],
  [mz, mz, mz, mz, mi (.aload 3) 1, mj (.getfield 145) 3 4 1 50, mz, mz, mj (.getfield 149) 3 1 0 51, mz, mz, mi .ireturn 1, mi (.aload 3) 1, mj (.getfield 152) 3 4 2 52, mz, mz],
  [mj (.invokevirtual 156) 3 58 0 53, mz, mz, mi .ireturn 1, mi (.aload 3) 1, mj (.getfield 162) 3 4 3 54, mz, mz, mi .ireturn 1, mi (.aload 3) 1, mj (.getfield 165) 3 4 4 55, mz, mz, mi .ireturn 1, mi (.aload 3) 1, mj (.getfield 168) 3 4 5 56],
  [mz, mz, mi .ireturn 1, mi (.aload 3) 1, mj (.invokevirtual 171) 3 37 0 57, mz, mz, mi .ireturn 1, mi (.aload 3) 1, mj (.getfield 174) 3 4 6 58, mz, mz, mi .ireturn 1, mi (.aload 3) 1, mj (.getfield 177) 3 4 9 59, mz],
  [mz, mi (.ifnonnull 7) 3, mz, mz, mi (.iconst (-1)) 1, mi (.goto 10) 3, mz, mz, mi (.aload 3) 1, mj (.getfield 177) 3 4 9 59, mz, mz, mj (.getfield 181) 3 7 0 60, mz, mz, mi .ireturn 1],
  [mi (.aload 3) 1, mj (.getfield 182) 3 4 15 61, mz, mz, mi .ireturn 1, mi (.aload 3) 1, mj (.invokevirtual 185) 3 38 0 62, mz, mz, mi .ireturn 1, mj (.iconst (-2000000000)) 2 0 0 49, mz, mi .ireturn 1]]
def kX11_look : List (List (Option mR)) := [[mi (.aload 0) 1, mi (.iload 1) 1, mj (.invokevirtual 107) 3 169 1 35, mz, mz, mi (.astore 3) 1, mi (.aload 3) 1, mi (.ifnull 13) 3, mz, mz, mi (.iload 2) 1, mi (.iconst 1) 1, mi (.iconst 99) 2, mz, mj (.invokestatic 95) 3 166 3 32, mz],
  [mz, mi (.ifCond .ne 5) 3, mz, mz, mi (.iconst (-1)) 1, mi .ireturn 1, mi (.aload 3) 1, mj (.invokevirtual 188) 3 36 0 63, mz, mz, mi (.ifCond .ne 6) 3, mz, mz, mi (.iconst (-2)) 2, mz, mi .ireturn 1],
  [mi (.aload 3) 1, mi (.aload 0) 1, mj (.getfield 80) 3 11 0 28, mz, mz, mi (.iload 2) 1, mi .iadd 1, mj (.invokevirtual 192) 3 41 1 64, mz, mz, mi (.iconst 1) 1, mi .ireturn 1]]
def kX11_broken : List (List (Option mR)) := [[mi (.aload 0) 1, mi (.iload 1) 1, mj (.invokevirtual 107) 3 169 1 35, mz, mz, mi (.astore 3) 1, mi (.aload 3) 1, mi (.ifnull 10) 3, mz, mz, mi (.iload 2) 1, mj (.invokestatic 84) 3 167 1 29, mz, mz, mi (.ifCond .ne 5) 3, mz],
  [mz, mi (.iconst (-1)) 1, mi .ireturn 1, mi (.aload 3) 1, mj (.getfield 168) 3 4 5 56, mz, mz, mi (.iload 2) 1, mi (.iconst 1) 1, mi (.if_icmp .ne 7) 3, mz, mz, mi (.iconst 0) 1, mi (.goto 4) 3, mz, mz],
  [mi (.iconst 2) 1, mi (.if_icmp .eq 6) 3, mz, mz, mi (.iconst (-2)) 2, mz, mi .ireturn 1, mi (.iload 2) 1, mi (.ifCond .ne 25) 3, mz, mz, mi (.aload 3) 1, mi (.iconst 0) 1, mj (.putfield 168) 3 4 5 56, mz, mz],
  [mi (.aload 0) 1, mj (.getfield 48) 3 11 13 15, mz, mz, mi (.aload 3) 1, mj (.getfield 195) 3 4 0 65, mz, mz, mi (.aload 0) 1, mj (.getfield 80) 3 11 0 28, mz, mz, mj (.invokevirtual 196) 3 19 2 66, mz, mz, mi (.iconst 1) 1],
  [mi .ireturn 1, mi (.aload 0) 1, mj (.getfield 48) 3 11 13 15, mz, mz, mi (.aload 3) 1, mj (.getfield 195) 3 4 0 65, mz, mz, mi (.aload 0) 1, mj (.getfield 80) 3 11 0 28, mz, mz, mj (.invokevirtual 200) 3 18 2 67, mz, mz],
  [mi (.ifCond .ne 6) 3, mz, mz, mi (.iconst (-3)) 2, mz, mi .ireturn 1, mi (.aload 3) 1, mi (.iconst 2) 1, mj (.putfield 168) 3 4 5 56, mz, mz, mi (.iconst 1) 1, mi .ireturn 1]]
def kX11_gone : List (List (Option mR)) := [[mi (.aload 0) 1, mi (.iload 1) 1, mj (.invokevirtual 107) 3 169 1 35, mz, mz, mi (.astore 3) 1, mi (.aload 3) 1, mi (.ifnull 13) 3, mz, mz, mi (.iload 2) 1, mi (.iconst 3) 1, mi (.if_icmp .eq 10) 3, mz, mz, mi (.iload 2) 1],
  [mi (.iconst 4) 1, mi (.if_icmp .eq 5) 3, mz, mz, mi (.iconst (-1)) 1, mi .ireturn 1, mi (.aload 3) 1, mj (.getfield 162) 3 4 3 54, mz, mz, mi (.iconst 3) 1, mi (.if_icmp .eq 15) 3, mz, mz, mi (.iload 2) 1, mi (.iconst 3) 1],
  [mi (.if_icmp .ne 13) 3, mz, mz, mi (.aload 3) 1, mj (.invokevirtual 188) 3 36 0 63, mz, mz, mi (.ifCond .ne 6) 3, mz, mz, mi (.iconst (-2)) 2, mz, mi .ireturn 1, mi (.aload 3) 1, mj (.getfield 168) 3 4 5 56, mz],
  [mz, mi (.iconst 2) 1, mi (.if_icmp .ne 18) 3, mz, mz, mi (.aload 0) 1, mj (.getfield 48) 3 11 13 15, mz, mz, mi (.aload 3) 1, mj (.getfield 195) 3 4 0 65, mz, mz, mi (.aload 0) 1, mj (.getfield 80) 3 11 0 28, mz],
  [mz, mj (.invokevirtual 196) 3 19 2 66, mz, mz, mi (.aload 3) 1, mj (.getfield 177) 3 4 9 59, mz, mz, mi (.ifnull 14) 3, mz, mz, mi (.aload 3) 1, mj (.getfield 177) 3 4 9 59, mz, mz, mi (.aload 0) 1],
  [mj (.getfield 80) 3 11 0 28, mz, mz, mj (.invokevirtual 204) 3 72 1 68, mz, mz, mi (.aload 3) 1, mi (.iload 2) 1, mi (.aload 0) 1, mj (.getfield 80) 3 11 0 28, mz, mz, mj (.invokevirtual 207) 3 44 2 69, mz, mz, mi (.iconst 1) 1],
  [mi .ireturn 1]]
def kX11_read : List (List (Option mR)) := [[mi (.aload 0) 1, mi (.iload 1) 1, mj (.invokevirtual 107) 3 169 1 35, mz, mz, mi (.astore 3) 1, mi (.aload 3) 1, mi (.ifnull 20) 3, mz, mz, mi (.iload 2) 1, mi (.aload 3) 1, mj (.getfield 152) 3 4 2 52, mz, mz, mj (.invokevirtual 156) 3 58 0 53],
  [mz, mz, mi (.if_icmp .lt 9) 3, mz, mz, mi (.iload 2) 1, mj (.iconst 99999) 2 0 0 37, mz, mi (.if_icmp .le 5) 3, mz, mz, mi (.iconst (-1)) 1, mi .ireturn 1, mi (.aload 3) 1, mj (.getfield 162) 3 4 3 54, mz],
  [mz, mi (.iconst 3) 1, mi (.if_icmp .ne 6) 3, mz, mz, mi (.iconst (-2)) 2, mz, mi .ireturn 1, mi (.aload 3) 1, mj (.getfield 152) 3 4 2 52, mz, mz, mi (.aload 0) 1, mj (.getfield 80) 3 11 0 28, mz, mz],
  [mj (.invokevirtual 210) 3 61 1 70, mz, mz, mi (.istore 4) 2, mz, mi (.iload 4) 2, mz, mi (.ifCond .eq 16) 3, mz, mz, mi (.aload 0) 1, mj (.getfield 213) 3 11 1 71, mz, mz, mi (.iconst 400) 3, mz],
  [mz, mi (.if_icmp .lt 6) 3, mz, mz, mi (.iconst (-3)) 2, mz, mi .ireturn 1, mi (.aload 3) 1, mj (.getfield 152) 3 4 2 52, mz, mz, mi (.aload 0) 1, mj (.getfield 80) 3 11 0 28, mz, mz, mi (.iload 2) 1],
  [mj (.invokevirtual 216) 3 62 2 72, mz, mz, mi (.iload 4) 2, mz, mi (.ifCond .eq 13) 3, mz, mz, mi (.aload 0) 1, mi .dup 1, mj (.getfield 213) 3 11 1 71, mz, mz, mi (.iconst 1) 1, mi .iadd 1, mj (.putfield 213) 3 11 1 71],
  [mz, mz, mi (.iload 2) 1, mi .ireturn 1]]
def kX11_track : List (List (Option mR)) := [[mi (.aload 0) 1, mi (.iload 1) 1, mj (.invokevirtual 107) 3 169 1 35, mz, mz, mi (.ifnull 14) 3, mz, mz, mi (.aload 0) 1, mj (.getfield 16) 3 11 3 4, mz, mz, mi (.iload 2) 1, mj (.invokevirtual 92) 3 85 1 31, mz, mz],
  [mi (.ifCond .ne 5) 3, mz, mz, mi (.iconst (-1)) 1, mi .ireturn 1, mi (.aload 0) 1, mj (.getfield 48) 3 11 13 15, mz, mz, mi (.iload 1) 1, mi (.iload 2) 1, mi (.aload 0) 1, mj (.getfield 80) 3 11 0 28, mz, mz, mj (.invokevirtual 219) 3 13 3 73],
  [mz, mz, mi .ireturn 1]]
def kX11_theft : List (List (Option mR)) := [[mi (.aload 0) 1, mi (.iload 1) 1, mj (.invokevirtual 107) 3 169 1 35, mz, mz, mi (.astore 3) 1, mi (.aload 3) 1, mi (.ifnull 12) 3, mz, mz, mi (.iload 2) 1, mi (.iconst 0) 1, mi (.iconst 2) 1, mj (.invokestatic 95) 3 166 3 32, mz, mz],
  [mi (.ifCond .ne 5) 3, mz, mz, mi (.iconst (-1)) 1, mi .ireturn 1, mi (.aload 3) 1, mj (.getfield 168) 3 4 5 56, mz, mz, mi (.iconst 4) 1, mi (.if_icmp .eq 6) 3, mz, mz, mi (.iconst (-2)) 2, mz, mi .ireturn 1],
  [mi (.iload 2) 1, mi (.iconst 2) 1, mi (.if_icmp .ne 8) 3, mz, mz, mi (.aload 3) 1, mj (.getfield 222) 3 4 11 74, mz, mz, mi .ireturn 1, mi (.iload 2) 1, mi (.ifCond .ne 14) 3, mz, mz, mi (.aload 0) 1, mj (.getfield 48) 3 11 13 15],
  [mz, mz, mi (.aload 3) 1, mj (.invokevirtual 225) 3 17 1 75, mz, mz, mi (.goto 11) 3, mz, mz, mi (.aload 0) 1, mj (.getfield 48) 3 11 13 15, mz, mz, mi (.aload 3) 1, mj (.invokevirtual 229) 3 16 1 76, mz],
  [mz, mi .ireturn 1]]
def kX11_customer : List (List (Option mR)) := [[mi (.aload 0) 1, mj (.getfield 16) 3 11 3 4, mz, mz, mi (.iload 1) 1, mj (.invokevirtual 92) 3 85 1 31, mz, mz, mi (.ifCond .eq 14) 3, mz, mz, mi (.iload 2) 1, mi (.iconst 0) 1, mi (.iconst 255) 3, mz, mz],
  [mj (.invokestatic 95) 3 166 3 32, mz, mz, mi (.ifCond .ne 5) 3, mz, mz, mi (.iconst (-1)) 1, mi .ireturn 1, mi (.aload 0) 1, mj (.getfield 232) 3 11 10 77, mz, mz, mi (.iconst 30) 2, mz, mi (.if_icmp .lt 6) 3, mz],
  [mz, mi (.iconst (-3)) 2, mz, mi .ireturn 1, mi (.aload 0) 1, mj (.getfield 32) 3 11 8 9, mz, mz, mi (.aload 0) 1, mj (.getfield 232) 3 11 10 77, mz, mz, mi (.iload 1) 1, mi .iastore 1, mi (.aload 0) 1, mj (.getfield 36) 3 11 9 10],
  [mz, mz, mi (.aload 0) 1, mj (.getfield 232) 3 11 10 77, mz, mz, mi (.iload 2) 1, mi .iastore 1, mi (.aload 0) 1, mi .dup 1, mj (.getfield 232) 3 11 10 77, mz, mz, mi .dup_x1 1, mi (.iconst 1) 1, mi .iadd 1],
  [mj (.putfield 232) 3 11 10 77, mz, mz, mi .ireturn 1]]
def kX11_order : List (List (Option mR)) := [[mi (.aload 0) 1, mi (.iload 2) 1, mj (.invokevirtual 122) 3 168 1 41, mz, mz, mi (.astore 6) 2, mz, mi (.aload 6) 2, mz, mi (.ifnull 51) 3, mz, mz, mi (.aload 0) 1, mi (.iload 1) 1, mj (.invokevirtual 235) 3 171 1 78, mz],
  [mz, mi (.ifCond .eq 43) 3, mz, mz, mi (.iload 3) 1, mi (.aload 0) 1, mj (.getfield 80) 3 11 0 28, mz, mz, mi (.iconst 23999) 3, mz, mz, mj (.invokestatic 95) 3 166 3 32, mz, mz, mi (.ifCond .eq 29) 3],
  [mz, mz, mi (.iload 4) 2, mz, mi (.iconst 1) 1, mi (.iconst 60) 2, mz, mj (.invokestatic 95) 3 166 3 32, mz, mz, mi (.ifCond .eq 18) 3, mz, mz, mi (.iload 5) 2, mz, mi (.iconst 1) 1],
  [mi (.iconst 24) 2, mz, mj (.invokestatic 95) 3 166 3 32, mz, mz, mi (.ifCond .eq 7) 3, mz, mz, mi (.iconst 1) 1, mi (.goto 4) 3, mz, mz, mi (.iconst 0) 1, mi (.istore 7) 2, mz, mi (.iload 7) 2],
  [mz, mi (.ifCond .ne 5) 3, mz, mz, mi (.iconst (-1)) 1, mi .ireturn 1, mi (.aload 0) 1, mj (.getfield 238) 3 11 12 79, mz, mz, mi (.iconst 100) 2, mz, mi (.if_icmp .lt 6) 3, mz, mz, mi (.iconst (-3)) 2],
  [mz, mi .ireturn 1, mj (.new 39) 3 7 0 80, mz, mz, mi .dup 1, mi (.aload 0) 1, mj (.getfield 238) 3 11 12 79, mz, mz, mi (.aload 6) 2, mz, mi (.iload 3) 1, mi (.iload 4) 2, mz, mi (.iload 5) 2],
  [mz, mi (.aload 0) 1, mj (.getfield 80) 3 11 0 28, mz, mz, mj (.invokespecial 241) 3 66 6 81, mz, mz, mi (.astore 8) 2, mz, mi (.aload 8) 2, mz, mi (.iload 1) 1, mj (.putfield 244) 3 7 6 82, mz, mz],
  [mi (.aload 8) 2, mz, mi (.aload 0) 1, mj (.getfield 32) 3 11 8 9, mz, mz, mi (.iload 1) 1, mi .iaload 1, mj (.putfield 247) 3 7 7 83, mz, mz, mi (.aload 8) 2, mz, mi (.aload 0) 1, mj (.getfield 36) 3 11 9 10, mz],
  [mz, mi (.iload 1) 1, mi .iaload 1, mj (.putfield 248) 3 7 8 84, mz, mz, mi (.aload 0) 1, mj (.getfield 41) 3 11 11 12, mz, mz, mi (.aload 0) 1, mj (.getfield 238) 3 11 12 79, mz, mz, mi (.aload 8) 2, mz],
  [mi .aastore 1, mi (.aload 0) 1, mi .dup 1, mj (.getfield 238) 3 11 12 79, mz, mz, mi .dup_x1 1, mi (.iconst 1) 1, mi .iadd 1, mj (.putfield 238) 3 11 12 79, mz, mz, mi .ireturn 1]]
def kX11_why : List (List (Option mR)) := [[mi (.aload 0) 1, mi (.iload 1) 1, mj (.invokevirtual 107) 3 169 1 35, mz, mz, mi (.astore 3) 1, mi (.aload 0) 1, mi (.iload 2) 1, mj (.invokevirtual 251) 3 170 1 85, mz, mz, mi (.astore 4) 2, mz, mi (.aload 3) 1, mi (.ifnull 8) 3, mz],
  [mz, mi (.aload 4) 2, mz, mi (.ifnonnull 7) 3, mz, mz, mi (.iconst (-1)) 1, mi (.goto 17) 3, mz, mz, mi (.aload 4) 2, mz, mi (.aload 3) 1, mi (.aload 0) 1, mj (.getfield 80) 3 11 0 28, mz],
  [mz, mi (.aload 0) 1, mj (.getfield 16) 3 11 3 4, mz, mz, mj (.invokevirtual 255) 3 67 3 86, mz, mz, mi .ireturn 1]]
def kX11_list : List (List (Option mR)) := [[mi (.aload 0) 1, mi (.iload 1) 1, mj (.invokevirtual 251) 3 170 1 85, mz, mz, mi (.astore 2) 1, mi (.aload 2) 1, mi (.ifnonnull 7) 3, mz, mz, mi (.iconst (-1)) 1, mi (.goto 11) 3, mz, mz, mi (.aload 0) 1, mj (.getfield 55) 3 11 14 18],
  [mz, mz, mi (.aload 2) 1, mj (.invokevirtual 259) 3 50 1 87, mz, mz, mi .ireturn 1]]
def kX11_best : List (List (Option mR)) := [[mi (.aload 0) 1, mj (.getfield 55) 3 11 14 18, mz, mz, mj (.getfield 263) 3 5 1 88, mz, mz, mi (.ifCond .ne 6) 3, mz, mz, mi (.iconst (-2)) 2, mz, mi .ireturn 1, mi (.aload 0) 1, mj (.getfield 55) 3 11 14 18, mz],
  [mz, mj (.invokevirtual 266) 3 51 0 89, mz, mz, mi (.iconst 0) 1, mi (.istore 1) 1, mi (.iload 1) 1, mi (.iconst 90) 2, mz, mi (.if_icmp .ge 35) 3, mz, mz, mi (.aload 0) 1, mi (.iload 1) 1, mj (.invokevirtual 107) 3 169 1 35, mz],
  [mz, mi (.astore 2) 1, mi (.aload 2) 1, mi (.ifnull 19) 3, mz, mz, mi (.aload 0) 1, mj (.getfield 55) 3 11 14 18, mz, mz, mi (.aload 2) 1, mi (.aload 0) 1, mj (.getfield 80) 3 11 0 28, mz, mz, mi (.aload 0) 1],
  [mj (.getfield 16) 3 11 3 4, mz, mz, mj (.invokevirtual 269) 3 52 3 90, mz, mz, mi (.iinc 1 1) 3, mz, mz, mi (.goto (-35)) 3, mz, mz, mi (.aload 0) 1, mj (.getfield 55) 3 11 14 18, mz, mz],
  [mi (.aload 0) 1, mj (.getfield 28) 3 11 6 8, mz, mz, mi (.aload 0) 1, mj (.getfield 16) 3 11 3 4, mz, mz, mj (.invokevirtual 273) 3 55 2 91, mz, mz, mi .ireturn 1]]
def kX11_miles : List (List (Option mR)) := [[mi (.aload 0) 1, mj (.getfield 55) 3 11 14 18, mz, mz, mj (.getfield 277) 3 5 2 92, mz, mz, mi .ireturn 1]]
def kX11_round : List (List (Option mR)) := [[mi (.aload 0) 1, mj (.getfield 62) 3 11 15 21, mz, mz, mi (.aload 0) 1, mj (.getfield 16) 3 11 3 4, mz, mz, mj (.invokevirtual 280) 3 25 1 93, mz, mz, mi .ireturn 1]]
def kX11_stop : List (List (Option mR)) := [[mi (.aload 0) 1, mi (.iload 1) 1, mj (.invokevirtual 107) 3 169 1 35, mz, mz, mi (.astore 2) 1, mi (.aload 2) 1, mi (.ifnonnull 7) 3, mz, mz, mi (.iconst (-1)) 1, mi (.goto 11) 3, mz, mz, mi (.aload 0) 1, mj (.getfield 62) 3 11 15 21],
  [mz, mz, mi (.aload 2) 1, mj (.invokevirtual 284) 3 24 1 94, mz, mz, mi .ireturn 1]]
def kX11_stopped : List (List (Option mR)) := [[mi (.aload 0) 1, mj (.getfield 62) 3 11 15 21, mz, mz, mi (.iload 1) 1, mj (.invokevirtual 286) 3 26 1 95, mz, mz, mi (.astore 2) 1, mi (.aload 2) 1, mi (.ifnonnull 7) 3, mz, mz, mi (.iconst (-1)) 1, mi (.goto 7) 3, mz],
  [mz, mi (.aload 2) 1, mj (.getfield 195) 3 4 0 65, mz, mz, mi .ireturn 1]]
def kX11_send : List (List (Option mR)) := [[mi (.aload 0) 1, mi (.iload 1) 1, mj (.invokevirtual 251) 3 170 1 85, mz, mz, mi (.astore 2) 1, mi (.aload 2) 1, mi (.ifnonnull 5) 3, mz, mz, mi (.iconst (-1)) 1, mi .ireturn 1, mi (.aload 2) 1, mj (.getfield 289) 3 7 10 96, mz, mz],
  [mi (.astore 3) 1, mi (.aload 2) 1, mj (.getfield 293) 3 7 9 97, mz, mz, mi (.iconst 1) 1, mi (.if_icmp .ne 14) 3, mz, mz, mi (.aload 3) 1, mi (.ifnull 10) 3, mz, mz, mi (.aload 3) 1, mj (.getfield 168) 3 4 5 56, mz],
  [mz, mi (.ifCond .eq 6) 3, mz, mz, mi (.iconst (-2)) 2, mz, mi .ireturn 1, mi (.aload 0) 1, mj (.getfield 16) 3 11 3 4, mz, mz, mi (.aload 3) 1, mj (.getfield 165) 3 4 4 55, mz, mz, mi (.aload 2) 1],
  [mj (.getfield 247) 3 7 7 83, mz, mz, mj (.invokevirtual 294) 3 90 2 98, mz, mz, mi (.istore 4) 2, mz, mi (.iload 4) 2, mz, mi (.ifCond .ge 6) 3, mz, mz, mi (.iconst (-2)) 2, mz, mi .ireturn 1],
  [mi (.aload 2) 1, mi (.iconst 2) 1, mj (.putfield 293) 3 7 9 97, mz, mz, mi (.aload 2) 1, mi (.aload 0) 1, mj (.getfield 80) 3 11 0 28, mz, mz, mi (.iload 4) 2, mz, mi .iadd 1, mi (.aload 2) 1, mj (.getfield 297) 3 7 1 99, mz],
  [mz, mj .fadd 3 0 0 100, mz, mz, mj (.putfield 305) 3 7 11 101, mz, mz, mi (.aload 3) 1, mi (.aload 2) 1, mj (.putfield 307) 3 4 10 102, mz, mz, mi (.aload 3) 1, mi (.aload 2) 1, mj (.getfield 247) 3 7 7 83, mz],
  [mz, mi (.aload 0) 1, mj (.getfield 80) 3 11 0 28, mz, mz, mi (.iload 4) 2, mz, mj (.invokevirtual 310) 3 42 3 103, mz, mz, mi (.aload 0) 1, mj (.getfield 80) 3 11 0 28, mz, mz, mi (.iload 4) 2, mz],
  [mi .iadd 1, mi .ireturn 1]]
def kX11_fetch : List (List (Option mR)) := [[mi (.aload 0) 1, mi (.iload 1) 1, mj (.invokevirtual 251) 3 170 1 85, mz, mz, mi (.astore 3) 1, mi (.aload 3) 1, mi (.ifnull 14) 3, mz, mz, mi (.aload 0) 1, mj (.getfield 16) 3 11 3 4, mz, mz, mi (.iload 2) 1, mj (.invokevirtual 132) 3 86 1 44],
  [mz, mz, mi (.ifCond .ne 5) 3, mz, mz, mi (.iconst (-1)) 1, mi .ireturn 1, mi (.aload 3) 1, mj (.getfield 289) 3 7 10 96, mz, mz, mi (.astore 4) 2, mz, mi (.aload 3) 1, mj (.getfield 293) 3 7 9 97, mz],
  [mz, mi (.iconst 2) 1, mi (.if_icmp .ne 19) 3, mz, mz, mi (.aload 3) 1, mi (.aload 0) 1, mj (.getfield 80) 3 11 0 28, mz, mz, mj (.invokevirtual 314) 3 68 1 104, mz, mz, mi (.ifCond .eq 8) 3, mz, mz],
  [mi (.aload 4) 2, mz, mi (.ifnonnull 6) 3, mz, mz, mi (.iconst (-2)) 2, mz, mi .ireturn 1, mi (.aload 0) 1, mj (.getfield 16) 3 11 3 4, mz, mz, mi (.aload 4) 2, mz, mj (.getfield 165) 3 4 4 55, mz],
  [mz, mi (.iload 2) 1, mj (.invokevirtual 294) 3 90 2 98, mz, mz, mi (.istore 5) 2, mz, mi (.iload 5) 2, mz, mi (.ifCond .ge 6) 3, mz, mz, mi (.iconst (-2)) 2, mz, mi .ireturn 1, mi (.aload 3) 1],
  [mi (.aload 0) 1, mj (.getfield 80) 3 11 0 28, mz, mz, mj (.invokevirtual 317) 3 71 1 105, mz, mz, mi (.aload 4) 2, mz, mi .aconst_null 1, mj (.putfield 177) 3 4 9 59, mz, mz, mi (.aload 4) 2, mz, mi (.iload 2) 1],
  [mi (.aload 0) 1, mj (.getfield 80) 3 11 0 28, mz, mz, mi (.iload 5) 2, mz, mj (.invokevirtual 310) 3 42 3 103, mz, mz, mi (.aload 0) 1, mj (.getfield 80) 3 11 0 28, mz, mz, mi (.iload 5) 2, mz, mi .iadd 1],
  [mi .ireturn 1]]
def kX11_off : List (List (Option mR)) := [[mi (.aload 0) 1, mi (.iload 1) 1, mj (.invokevirtual 251) 3 170 1 85, mz, mz, mi (.astore 2) 1, mi (.aload 2) 1, mi (.ifnonnull 5) 3, mz, mz, mi (.iconst (-1)) 1, mi .ireturn 1, mi (.aload 2) 1, mj (.getfield 293) 3 7 9 97, mz, mz],
  [mi (.ifCond .eq 14) 3, mz, mz, mi (.aload 2) 1, mj (.getfield 293) 3 7 9 97, mz, mz, mi (.iconst 1) 1, mi (.if_icmp .eq 6) 3, mz, mz, mi (.iconst (-2)) 2, mz, mi .ireturn 1, mi (.aload 2) 1, mj (.getfield 289) 3 7 10 96],
  [mz, mz, mi (.ifnull 11) 3, mz, mz, mi (.aload 2) 1, mj (.getfield 289) 3 7 10 96, mz, mz, mi .aconst_null 1, mj (.putfield 177) 3 4 9 59, mz, mz, mi (.aload 2) 1, mi .aconst_null 1, mj (.putfield 289) 3 7 10 96],
  [mz, mz, mi (.aload 2) 1, mi (.iconst 4) 1, mj (.putfield 293) 3 7 9 97, mz, mz, mi (.iconst 1) 1, mi .ireturn 1]]
def kX11_ofOrder : List (List (Option mR)) := [[mi (.aload 0) 1, mi (.iload 1) 1, mj (.invokevirtual 251) 3 170 1 85, mz, mz, mi (.astore 3) 1, mi (.aload 3) 1, mi (.ifnonnull 6) 3, mz, mz, mj (.iconst (-2000000000)) 2 0 0 49, mz, mi .ireturn 1, mi (.iload 2) 1, mi (.tableswitch 121 0 9 #[54, 59, 67, 72, 77, 82, 87, 106, 111, 116]) 54, mz],
  [mz, mz, mz, mz, mz, mz, mz, mz, mz, mz, mz, mz, mz, mz, mz, mz],
  [mz, mz, mz, mz, mz, mz, mz, mz, mz, mz, mz, mz, mz, mz, mz, mz],
  [mz, mz, mz, mz, mz, mz, mz, mz, mz, mz, mz, mz, mz, mz, mz, mz],
  [mz, mz, mz, mz, mi (.aload 3) 1, mj (.getfield 244) 3 7 6 82, mz, mz, mi .ireturn 1, mi (.aload 3) 1, mj (.getfield 320) 3 7 5 106, mz, mz, mj (.getfield 149) 3 1 0 51, mz, mz],
  [mi .ireturn 1, mi (.aload 3) 1, mj (.getfield 297) 3 7 1 99, mz, mz, mi .ireturn 1, mi (.aload 3) 1, mj (.getfield 321) 3 7 2 107, mz, mz, mi .ireturn 1, mi (.aload 3) 1, mj (.getfield 324) 3 7 3 108, mz, mz, mi .ireturn 1],
  [mi (.aload 3) 1, mj (.getfield 293) 3 7 9 97, mz, mz, mi .ireturn 1, mi (.aload 3) 1, mj (.getfield 289) 3 7 10 96, mz, mz, mi (.ifnonnull 7) 3, mz, mz, mi (.iconst (-1)) 1, mi (.goto 10) 3, mz, mz],
  [mi (.aload 3) 1, mj (.getfield 289) 3 7 10 96, mz, mz, mj (.getfield 195) 3 4 0 65, mz, mz, mi .ireturn 1, mi (.aload 3) 1, mj (.getfield 305) 3 7 11 101, mz, mz, mi .ireturn 1, mi (.aload 3) 1, mj (.getfield 327) 3 7 12 109, mz],
  [mz, mi .ireturn 1, mi (.aload 3) 1, mj (.getfield 330) 3 7 4 110, mz, mz, mi .ireturn 1, mj (.iconst (-2000000000)) 2 0 0 49, mz, mi .ireturn 1]]
def kX11_said : List (List (Option mR)) := [[mi (.aload 0) 1, mi (.iload 1) 1, mj (.invokevirtual 251) 3 170 1 85, mz, mz, mi (.astore 4) 2, mz, mi (.aload 4) 2, mz, mi (.ifnull 20) 3, mz, mz, mi (.iload 2) 1, mi (.iconst 0) 1, mi (.iconst 59) 2, mz],
  [mj (.invokestatic 95) 3 166 3 32, mz, mz, mi (.ifCond .eq 10) 3, mz, mz, mi (.iload 3) 1, mj (.invokestatic 84) 3 167 1 29, mz, mz, mi (.ifCond .ne 5) 3, mz, mz, mi (.iconst (-1)) 1, mi .ireturn 1, mi (.aload 4) 2],
  [mz, mi (.aload 0) 1, mj (.getfield 80) 3 11 0 28, mz, mz, mj (.invokevirtual 314) 3 68 1 104, mz, mz, mi (.ifCond .ne 6) 3, mz, mz, mi (.iconst (-2)) 2, mz, mi .ireturn 1, mi (.aload 4) 2, mz],
  [mj (.getfield 333) 3 7 13 111, mz, mz, mi (.iload 2) 1, mi (.iload 3) 1, mi (.ifCond .ne 7) 3, mz, mz, mi (.iconst 1) 1, mi (.goto 4) 3, mz, mz, mi (.iconst 0) 1, mi .bastore 1, mi (.iconst 1) 1, mi .ireturn 1]]
def kX11_days : List (List (Option mR)) := [[mi (.aload 0) 1, mi (.iload 1) 1, mj (.invokevirtual 336) 3 172 1 112, mz, mz, mi (.astore 3) 1, mi (.aload 3) 1, mi (.ifnull 12) 3, mz, mz, mi (.iload 2) 1, mi (.iconst 0) 1, mi (.iconst 3) 1, mj (.invokestatic 95) 3 166 3 32, mz, mz],
  [mi (.ifCond .ne 6) 3, mz, mz, mj (.iconst (-2000000000)) 2 0 0 49, mz, mi .ireturn 1, mi (.iload 2) 1, mi (.ifCond .ne 14) 3, mz, mz, mi (.aload 3) 1, mi (.aload 0) 1, mj (.getfield 80) 3 11 0 28, mz, mz, mj (.invokevirtual 339) 3 74 1 113],
  [mz, mz, mi (.goto 12) 3, mz, mz, mi (.aload 3) 1, mi (.iload 2) 1, mi (.aload 0) 1, mj (.getfield 80) 3 11 0 28, mz, mz, mj (.invokevirtual 342) 3 76 2 114, mz, mz, mi .ireturn 1]]
def kX11_dayOf : List (List (Option mR)) := [[mi (.aload 0) 1, mi (.iload 1) 1, mj (.invokevirtual 336) 3 172 1 112, mz, mz, mi (.astore 3) 1, mi (.aload 3) 1, mi (.ifnull 19) 3, mz, mz, mi (.iload 2) 1, mi (.ifCond .lt 15) 3, mz, mz, mi (.iload 2) 1, mi (.aload 3) 1],
  [mi (.aload 0) 1, mj (.getfield 80) 3 11 0 28, mz, mz, mj (.invokevirtual 339) 3 74 1 113, mz, mz, mi (.if_icmp .lt 5) 3, mz, mz, mi (.iconst (-1)) 1, mi .ireturn 1, mi (.aload 3) 1, mi (.iload 2) 1, mi (.aload 0) 1, mj (.getfield 80) 3 11 0 28],
  [mz, mz, mj (.invokevirtual 345) 3 75 2 115, mz, mz, mi .ireturn 1]]
def kX11_feed : List (List (Option mR)) := [[mi (.aload 0) 1, mj (.getfield 69) 3 11 16 24, mz, mz, mj (.invokevirtual 348) 3 92 0 116, mz, mz, mi (.ifCond .ne 6) 3, mz, mz, mi (.iconst (-3)) 2, mz, mi .ireturn 1, mi (.aload 0) 1, mj (.getfield 69) 3 11 16 24, mz],
  [mz, mi (.iload 1) 1, mj (.invokevirtual 351) 3 93 1 117, mz, mz, mi (.aload 0) 1, mj (.getfield 69) 3 11 16 24, mz, mz, mi (.iload 2) 1, mj (.invokevirtual 351) 3 93 1 117, mz, mz, mi (.aload 0) 1, mj (.getfield 69) 3 11 16 24, mz],
  [mz, mi (.iload 3) 1, mj (.invokevirtual 351) 3 93 1 117, mz, mz, mi (.aload 0) 1, mj (.getfield 69) 3 11 16 24, mz, mz, mi (.iload 4) 2, mz, mj (.invokevirtual 351) 3 93 1 117, mz, mz, mi (.aload 0) 1, mj (.getfield 69) 3 11 16 24],
  [mz, mz, mi (.iload 5) 2, mz, mj (.invokevirtual 351) 3 93 1 117, mz, mz, mi (.aload 0) 1, mj (.getfield 69) 3 11 16 24, mz, mz, mj (.getfield 354) 3 9 1 118, mz, mz, mi .ireturn 1]]
def kX11_end : List (List (Option mR)) := [[mi (.iload 1) 1, mi (.iconst 0) 1, mi (.aload 0) 1, mj (.getfield 69) 3 11 16 24, mz, mz, mj (.getfield 354) 3 9 1 118, mz, mz, mj (.invokestatic 95) 3 166 3 32, mz, mz, mi (.ifCond .ne 5) 3, mz, mz, mi (.iconst (-1)) 1],
  [mi .ireturn 1, mi (.aload 0) 1, mj (.getfield 69) 3 11 16 24, mz, mz, mi (.iload 1) 1, mj (.putfield 354) 3 9 1 118, mz, mz, mi (.iload 1) 1, mi .ireturn 1]]
def kX11_terms : List (List (Option mR)) := [[mi (.iload 1) 1, mj (.invokestatic 84) 3 167 1 29, mz, mz, mi (.ifCond .eq 14) 3, mz, mz, mi (.iload 2) 1, mi (.iconst 0) 1, mi (.iconst 999) 3, mz, mz, mj (.invokestatic 95) 3 166 3 32, mz, mz, mi (.ifCond .ne 5) 3],
  [mz, mz, mi (.iconst (-1)) 1, mi .ireturn 1, mi (.aload 0) 1, mj (.getfield 76) 3 11 17 27, mz, mz, mj (.invokevirtual 355) 3 1 0 119, mz, mz, mi (.ifCond .eq 6) 3, mz, mz, mi (.iconst (-3)) 2, mz],
  [mi .ireturn 1, mi (.aload 0) 1, mj (.getfield 69) 3 11 16 24, mz, mz, mj (.invokevirtual 358) 3 94 0 120, mz, mz, mi (.istore 3) 1, mi (.aload 0) 1, mj (.getfield 69) 3 11 16 24, mz, mz, mi (.iconst 0) 1, mj (.putfield 354) 3 9 1 118, mz],
  [mz, mi (.iload 3) 1, mi (.ifCond .lt 8) 3, mz, mz, mi (.iconst (-100)) 2, mz, mi (.iload 3) 1, mi .isub 1, mi .ireturn 1, mi (.aload 0) 1, mj (.getfield 76) 3 11 17 27, mz, mz, mj (.new 361) 3 10 0 121, mz],
  [mz, mi .dup 1, mi (.iload 1) 1, mi (.iload 2) 1, mi (.aload 0) 1, mj (.getfield 80) 3 11 0 28, mz, mz, mi (.iconst 24) 2, mz, mi .idiv 1, mi (.aload 0) 1, mj (.getfield 69) 3 11 16 24, mz, mz, mj (.invokevirtual 363) 3 95 0 122],
  [mz, mz, mj (.invokespecial 367) 3 112 4 123, mz, mz, mj (.invokevirtual 370) 3 3 1 124, mz, mz, mi .ireturn 1]]
def kX11_gives : List (List (Option mR)) := [[mi (.aload 0) 1, mi (.iload 2) 1, mj (.invokevirtual 336) 3 172 1 112, mz, mz, mi (.astore 4) 2, mz, mi (.aload 4) 2, mz, mi (.ifnull 25) 3, mz, mz, mi (.aload 0) 1, mj (.getfield 76) 3 11 17 27, mz, mz],
  [mi (.iload 1) 1, mj (.invokevirtual 373) 3 2 1 125, mz, mz, mi (.ifCond .eq 14) 3, mz, mz, mi (.iload 3) 1, mi (.iconst 0) 1, mi (.iconst 999) 3, mz, mz, mj (.invokestatic 95) 3 166 3 32, mz, mz, mi (.ifCond .ne 6) 3],
  [mz, mz, mj (.iconst (-2000000000)) 2 0 0 49, mz, mi .ireturn 1, mi (.aload 0) 1, mi (.aload 4) 2, mz, mj (.invokevirtual 374) 3 173 1 126, mz, mz, mi (.aload 0) 1, mj (.getfield 76) 3 11 17 27, mz, mz, mi (.iload 3) 1],
  [mj (.invokevirtual 378) 3 6 1 127, mz, mz, mi (.aload 0) 1, mj (.getfield 76) 3 11 17 27, mz, mz, mi (.iload 1) 1, mj (.invokevirtual 381) 3 8 1 128, mz, mz, mi .ireturn 1]]
def kX11_bill : List (List (Option mR)) := [[mi (.aload 0) 1, mi (.iload 1) 1, mj (.invokevirtual 336) 3 172 1 112, mz, mz, mi (.astore 4) 2, mz, mi (.aload 4) 2, mz, mi (.ifnull 23) 3, mz, mz, mi (.iload 2) 1, mi (.iconst 0) 1, mi (.iconst 999) 3, mz],
  [mz, mj (.invokestatic 95) 3 166 3 32, mz, mz, mi (.ifCond .eq 12) 3, mz, mz, mi (.iload 3) 1, mi (.iconst 0) 1, mi (.iconst 5) 1, mj (.invokestatic 95) 3 166 3 32, mz, mz, mi (.ifCond .ne 6) 3, mz, mz],
  [mj (.iconst (-2000000000)) 2 0 0 49, mz, mi .ireturn 1, mi (.aload 0) 1, mi (.aload 4) 2, mz, mj (.invokevirtual 374) 3 173 1 126, mz, mz, mi (.aload 4) 2, mz, mj (.getfield 305) 3 7 11 101, mz, mz, mi (.iconst 24) 2, mz],
  [mi .idiv 1, mi (.istore 5) 2, mz, mi (.iload 3) 1, mi (.tableswitch 128 0 5 #[40, 59, 78, 128, 128, 116]) 40, mz, mz, mz, mz, mz, mz, mz, mz, mz, mz, mz],
  [mz, mz, mz, mz, mz, mz, mz, mz, mz, mz, mz, mz, mz, mz, mz, mz],
  [mz, mz, mz, mz, mz, mz, mz, mz, mz, mz, mz, mz, mi (.aload 0) 1, mj (.getfield 76) 3 11 17 27, mz, mz],
  [mi (.aload 0) 1, mj (.getfield 76) 3 11 17 27, mz, mz, mi (.iconst 0) 1, mi (.iload 2) 1, mi (.iload 5) 2, mz, mj (.invokevirtual 384) 3 9 3 129, mz, mz, mj (.invokevirtual 381) 3 8 1 128, mz, mz, mi .ireturn 1, mi (.aload 0) 1],
  [mj (.getfield 76) 3 11 17 27, mz, mz, mi (.aload 0) 1, mj (.getfield 76) 3 11 17 27, mz, mz, mi (.iconst 1) 1, mi (.iload 2) 1, mi (.iload 5) 2, mz, mj (.invokevirtual 384) 3 9 3 129, mz, mz, mj (.invokevirtual 381) 3 8 1 128, mz],
  [mz, mi .ireturn 1, mi (.aload 0) 1, mj (.getfield 76) 3 11 17 27, mz, mz, mi (.aload 0) 1, mj (.getfield 76) 3 11 17 27, mz, mz, mi (.iconst 0) 1, mi (.iload 2) 1, mi (.iload 5) 2, mz, mj (.invokevirtual 384) 3 9 3 129, mz],
  [mz, mj (.invokevirtual 381) 3 8 1 128, mz, mz, mi (.aload 0) 1, mj (.getfield 76) 3 11 17 27, mz, mz, mi (.aload 0) 1, mj (.getfield 76) 3 11 17 27, mz, mz, mi (.iconst 1) 1, mi (.iload 2) 1, mi (.iload 5) 2, mz],
  [mj (.invokevirtual 384) 3 9 3 129, mz, mz, mj (.invokevirtual 381) 3 8 1 128, mz, mz, mi .iadd 1, mi .ireturn 1, mi (.aload 0) 1, mj (.getfield 76) 3 11 17 27, mz, mz, mi (.iconst 0) 1, mi (.iload 2) 1, mi (.iload 5) 2, mz],
  [mj (.invokevirtual 384) 3 9 3 129, mz, mz, mi .ireturn 1, mi (.aload 0) 1, mj (.getfield 76) 3 11 17 27, mz, mz, mi (.aload 4) 2, mz, mi (.iload 3) 1, mi (.iconst 3) 1, mi (.if_icmp .ne 7) 3, mz, mz, mi (.iconst 1) 1],
  [mi (.goto 4) 3, mz, mz, mi (.iconst 2) 1, mi (.aload 0) 1, mj (.getfield 80) 3 11 0 28, mz, mz, mj (.invokevirtual 342) 3 76 2 114, mz, mz, mj (.invokevirtual 378) 3 6 1 127, mz, mz, mi (.aload 0) 1, mj (.getfield 76) 3 11 17 27],
  [mz, mz, mi (.aload 0) 1, mj (.getfield 76) 3 11 17 27, mz, mz, mi (.iconst 0) 1, mi (.iload 2) 1, mi (.iload 5) 2, mz, mj (.invokevirtual 384) 3 9 3 129, mz, mz, mj (.invokevirtual 381) 3 8 1 128, mz, mz],
  [mi .ireturn 1]]
def kX11_next : List (List (Option mR)) := [[mi (.aload 0) 1, mi (.iload 1) 1, mj (.invokevirtual 251) 3 170 1 85, mz, mz, mi (.astore 3) 1, mi (.aload 3) 1, mi (.ifnull 13) 3, mz, mz, mi (.iload 2) 1, mi (.iconst 1) 1, mi (.iconst 60) 2, mz, mj (.invokestatic 95) 3 166 3 32, mz],
  [mz, mi (.ifCond .ne 5) 3, mz, mz, mi (.iconst (-1)) 1, mi .ireturn 1, mi (.aload 3) 1, mi (.aload 0) 1, mj (.getfield 80) 3 11 0 28, mz, mz, mj (.invokevirtual 314) 3 68 1 104, mz, mz, mi (.ifCond .ne 6) 3, mz],
  [mz, mi (.iconst (-2)) 2, mz, mi .ireturn 1, mi (.aload 0) 1, mi (.aload 3) 1, mj (.invokevirtual 374) 3 173 1 126, mz, mz, mi (.aload 0) 1, mi (.aload 3) 1, mi (.iload 2) 1, mj (.invokevirtual 387) 3 174 2 130, mz, mz, mi (.istore 4) 2],
  [mz, mi (.iload 2) 1, mi (.iconst 1) 1, mi .iadd 1, mi (.istore 5) 2, mz, mi (.iload 5) 2, mz, mi (.iload 2) 1, mi (.iconst 6) 2, mz, mi .iadd 1, mi (.if_icmp .gt 24) 3, mz, mz, mi (.aload 0) 1],
  [mi (.aload 3) 1, mi (.iload 5) 2, mz, mj (.invokevirtual 387) 3 174 2 130, mz, mz, mi (.iload 4) 2, mz, mi (.if_icmp .ge 6) 3, mz, mz, mi (.iload 5) 2, mz, mi .ireturn 1, mi (.iinc 5 1) 3, mz],
  [mz, mi (.goto (-27)) 3, mz, mz, mi (.iconst (-2)) 2, mz, mi .ireturn 1]]
def kX11_looked : List (List (Option mR)) := [[mi (.aload 0) 1, mi (.iload 1) 1, mj (.invokevirtual 251) 3 170 1 85, mz, mz, mi (.astore 4) 2, mz, mi (.aload 4) 2, mz, mi (.ifnull 21) 3, mz, mz, mi (.iload 2) 1, mj (.invokestatic 84) 3 167 1 29, mz, mz],
  [mi (.ifCond .eq 14) 3, mz, mz, mi (.iload 3) 1, mi (.iconst 0) 1, mj (.iconst 65535) 3 0 0 131, mz, mz, mj (.invokestatic 95) 3 166 3 32, mz, mz, mi (.ifCond .ne 5) 3, mz, mz, mi (.iconst (-1)) 1, mi .ireturn 1],
  [mi (.aload 4) 2, mz, mi (.aload 4) 2, mz, mj (.getfield 392) 3 7 14 132, mz, mz, mi (.iload 2) 1, mi (.iload 3) 1, mj (.invokevirtual 395) 3 79 3 133, mz, mz, mi .ireturn 1]]
def kX11_fuel : List (List (Option mR)) := [[mi (.aload 0) 1, mi (.iload 1) 1, mj (.invokevirtual 251) 3 170 1 85, mz, mz, mi (.astore 4) 2, mz, mi (.aload 4) 2, mz, mi (.ifnull 21) 3, mz, mz, mi (.iload 2) 1, mj (.invokestatic 84) 3 167 1 29, mz, mz],
  [mi (.ifCond .eq 14) 3, mz, mz, mi (.iload 3) 1, mi (.iconst 0) 1, mi (.iconst 999) 3, mz, mz, mj (.invokestatic 95) 3 166 3 32, mz, mz, mi (.ifCond .ne 5) 3, mz, mz, mi (.iconst (-1)) 1, mi .ireturn 1],
  [mi (.aload 4) 2, mz, mi (.aload 4) 2, mz, mj (.getfield 398) 3 7 15 134, mz, mz, mi (.iload 2) 1, mi (.iload 3) 1, mj (.invokevirtual 395) 3 79 3 133, mz, mz, mi .ireturn 1]]
def kX11_harm : List (List (Option mR)) := [[mi (.aload 0) 1, mi (.iload 1) 1, mj (.invokevirtual 251) 3 170 1 85, mz, mz, mi (.astore 3) 1, mi (.aload 3) 1, mi (.ifnonnull 5) 3, mz, mz, mi (.iconst (-1)) 1, mi .ireturn 1, mi (.iload 2) 1, mi (.tableswitch 42 0 2 #[27, 32, 37]) 27, mz, mz],
  [mz, mz, mz, mz, mz, mz, mz, mz, mz, mz, mz, mz, mz, mz, mz, mz],
  [mz, mz, mz, mz, mz, mz, mz, mz, mi (.aload 3) 1, mj (.invokevirtual 401) 3 80 0 135, mz, mz, mi .ireturn 1, mi (.aload 3) 1, mj (.invokevirtual 404) 3 81 0 136, mz],
  [mz, mi .ireturn 1, mi (.aload 3) 1, mj (.invokevirtual 407) 3 82 0 137, mz, mz, mi .ireturn 1, mi (.iconst (-1)) 1, mi .ireturn 1]]
def kX11_share : List (List (Option mR)) := [[mi (.aload 0) 1, mi (.iload 1) 1, mj (.invokevirtual 336) 3 172 1 112, mz, mz, mi (.astore 3) 1, mi (.aload 3) 1, mi (.ifnull 25) 3, mz, mz, mi (.aload 3) 1, mj (.getfield 289) 3 7 10 96, mz, mz, mi (.ifnull 18) 3, mz],
  [mz, mi (.iload 2) 1, mi (.ifCond .lt 14) 3, mz, mz, mi (.iload 2) 1, mi (.aload 3) 1, mj (.getfield 289) 3 7 10 96, mz, mz, mj (.getfield 182) 3 4 15 61, mz, mz, mi (.if_icmp .lt 6) 3, mz, mz],
  [mj (.iconst (-2000000000)) 2 0 0 49, mz, mi .ireturn 1, mi (.aload 3) 1, mj (.getfield 289) 3 7 10 96, mz, mz, mi (.astore 4) 2, mz, mi (.aload 4) 2, mz, mi (.iload 2) 1, mj (.invokevirtual 410) 3 47 1 138, mz, mz, mi (.aload 4) 2],
  [mz, mi (.iload 2) 1, mi (.iconst 1) 1, mi .iadd 1, mj (.invokevirtual 410) 3 47 1 138, mz, mz, mi .isub 1, mi (.aload 3) 1, mi (.iconst 3) 1, mi (.aload 0) 1, mj (.getfield 80) 3 11 0 28, mz, mz, mj (.invokevirtual 342) 3 76 2 114, mz],
  [mz, mi .imul 1, mi .ireturn 1]]
def kX11_chain : List (List (Option mR)) := [[mi (.aload 0) 1, mi (.iload 1) 1, mj (.invokevirtual 107) 3 169 1 35, mz, mz, mi (.astore 4) 2, mz, mi (.aload 4) 2, mz, mi (.ifnull 23) 3, mz, mz, mi (.iload 2) 1, mi (.ifCond .lt 19) 3, mz, mz],
  [mi (.iload 2) 1, mi (.aload 4) 2, mz, mj (.getfield 182) 3 4 15 61, mz, mz, mi (.if_icmp .ge 10) 3, mz, mz, mi (.iload 3) 1, mj (.invokestatic 84) 3 167 1 29, mz, mz, mi (.ifCond .ne 5) 3, mz, mz],
  [mi (.iconst (-1)) 1, mi .ireturn 1, mi (.iload 3) 1, mi (.ifCond .ne 10) 3, mz, mz, mi (.aload 4) 2, mz, mi (.iload 2) 1, mj (.invokevirtual 413) 3 46 1 139, mz, mz, mi .ireturn 1, mi (.aload 4) 2, mz, mi (.iload 2) 1],
  [mj (.invokevirtual 410) 3 47 1 138, mz, mz, mi (.aload 4) 2, mz, mi (.iload 2) 1, mi (.iconst 1) 1, mi .iadd 1, mj (.invokevirtual 410) 3 47 1 138, mz, mz, mi (.if_icmp .ge 7) 3, mz, mz, mi (.iconst 1) 1, mi (.goto 4) 3],
  [mz, mz, mi (.iconst 0) 1, mi .ireturn 1]]
def kX11_rank : List (List (Option mR)) := [[mi (.aload 0) 1, mi (.iload 1) 1, mj (.invokevirtual 107) 3 169 1 35, mz, mz, mi (.astore 3) 1, mi (.aload 3) 1, mi (.ifnull 15) 3, mz, mz, mi (.iload 2) 1, mi (.ifCond .lt 11) 3, mz, mz, mi (.iload 2) 1, mi (.aload 3) 1],
  [mj (.getfield 182) 3 4 15 61, mz, mz, mi (.if_icmp .lt 5) 3, mz, mz, mi (.iconst (-1)) 1, mi .ireturn 1, mi (.aload 3) 1, mi (.aload 3) 1, mj (.getfield 182) 3 4 15 61, mz, mz, mi (.iconst 1) 1, mi .isub 1, mi (.iload 2) 1],
  [mi .isub 1, mj (.invokevirtual 413) 3 46 1 139, mz, mz, mi .ireturn 1]]
def kX11_idle : List (List (Option mR)) := [[mi (.aload 0) 1, mi (.iload 1) 1, mj (.invokevirtual 122) 3 168 1 41, mz, mz, mi (.astore 4) 2, mz, mi (.aload 4) 2, mz, mi (.ifnull 21) 3, mz, mz, mi (.aload 0) 1, mj (.getfield 16) 3 11 3 4, mz, mz],
  [mi (.iload 2) 1, mj (.invokevirtual 92) 3 85 1 31, mz, mz, mi (.ifCond .eq 10) 3, mz, mz, mi (.iload 3) 1, mj (.invokestatic 84) 3 167 1 29, mz, mz, mi (.ifCond .ne 5) 3, mz, mz, mi (.iconst (-1)) 1, mi .ireturn 1],
  [mi (.iload 3) 1, mi (.ifCond .ne 13) 3, mz, mz, mi (.aload 0) 1, mi (.aload 4) 2, mz, mi (.iload 2) 1, mj (.invokevirtual 416) 3 175 2 140, mz, mz, mi (.goto 10) 3, mz, mz, mi (.aload 0) 1, mi (.aload 4) 2],
  [mz, mi (.iload 2) 1, mj (.invokevirtual 420) 3 176 2 141, mz, mz, mi .ireturn 1]]
def kX11_move : List (List (Option mR)) := [[mi (.aload 0) 1, mi (.iload 1) 1, mj (.invokevirtual 122) 3 168 1 41, mz, mz, mi (.astore 2) 1, mi (.aload 2) 1, mi (.ifnonnull 5) 3, mz, mz, mi (.iconst (-1)) 1, mi .ireturn 1, mi (.iconst (-1)) 1, mi (.istore 3) 1, mi (.iconst (-1)) 1, mi (.istore 4) 2],
  [mz, mi (.iconst 0) 1, mi (.istore 5) 2, mz, mi (.iconst 0) 1, mi (.istore 6) 2, mz, mi (.iconst 0) 1, mi (.istore 7) 2, mz, mi (.iload 7) 2, mz, mi (.iconst 12) 2, mz, mi (.if_icmp .ge 69) 3, mz],
  [mz, mi (.aload 0) 1, mj (.getfield 16) 3 11 3 4, mz, mz, mi (.iload 7) 2, mz, mj (.invokevirtual 132) 3 86 1 44, mz, mz, mi (.ifCond .eq 51) 3, mz, mz, mi (.aload 0) 1, mi (.aload 2) 1, mi (.iload 7) 2],
  [mz, mj (.invokevirtual 416) 3 175 2 140, mz, mz, mi (.aload 0) 1, mi (.aload 2) 1, mi (.iload 7) 2, mz, mj (.invokevirtual 420) 3 176 2 141, mz, mz, mi .isub 1, mi (.istore 8) 2, mz, mi (.iload 8) 2, mz],
  [mi (.iload 5) 2, mz, mi (.if_icmp .le 10) 3, mz, mz, mi (.iload 8) 2, mz, mi (.istore 5) 2, mz, mi (.iload 7) 2, mz, mi (.istore 3) 1, mi (.iload 8) 2, mz, mi .ineg 1, mi (.iload 6) 2],
  [mz, mi (.if_icmp .le 12) 3, mz, mz, mi (.iload 8) 2, mz, mi .ineg 1, mi (.istore 6) 2, mz, mi (.iload 7) 2, mz, mi (.istore 4) 2, mz, mi (.iinc 7 1) 3, mz, mz],
  [mi (.goto (-70)) 3, mz, mz, mi (.iload 3) 1, mi (.ifCond .lt 8) 3, mz, mz, mi (.iload 4) 2, mz, mi (.ifCond .ge 8) 3, mz, mz, mi (.iconst (-2)) 2, mz, mi (.goto 10) 3, mz],
  [mz, mi (.iconst 100) 2, mz, mi (.iload 3) 1, mi .imul 1, mi (.iload 4) 2, mz, mi .iadd 1, mi .ireturn 1]]
def kX11_count : List (List (Option mR)) := [[mi (.iload 1) 1, mi (.tableswitch 157 0 13 #[71, 79, 84, 89, 94, 99, 104, 112, 117, 125, 131, 137, 145, 151]) 71, mz, mz, mz, mz, mz, mz, mz, mz, mz, mz, mz, mz, mz, mz],
  [mz, mz, mz, mz, mz, mz, mz, mz, mz, mz, mz, mz, mz, mz, mz, mz],
  [mz, mz, mz, mz, mz, mz, mz, mz, mz, mz, mz, mz, mz, mz, mz, mz],
  [mz, mz, mz, mz, mz, mz, mz, mz, mz, mz, mz, mz, mz, mz, mz, mz],
  [mz, mz, mz, mz, mz, mz, mz, mz, mi (.aload 0) 1, mj (.getfield 16) 3 11 3 4, mz, mz, mj (.getfield 423) 3 8 3 142, mz, mz, mi .ireturn 1],
  [mi (.aload 0) 1, mj (.getfield 116) 3 11 5 38, mz, mz, mi .ireturn 1, mi (.aload 0) 1, mj (.getfield 135) 3 11 7 45, mz, mz, mi .ireturn 1, mi (.aload 0) 1, mj (.getfield 232) 3 11 10 77, mz, mz, mi .ireturn 1, mi (.aload 0) 1],
  [mj (.getfield 238) 3 11 12 79, mz, mz, mi .ireturn 1, mi (.aload 0) 1, mj (.getfield 80) 3 11 0 28, mz, mz, mi .ireturn 1, mi (.aload 0) 1, mj (.getfield 76) 3 11 17 27, mz, mz, mj (.getfield 426) 3 0 1 143, mz, mz],
  [mi .ireturn 1, mi (.aload 0) 1, mj (.getfield 213) 3 11 1 71, mz, mz, mi .ireturn 1, mi (.aload 0) 1, mj (.getfield 48) 3 11 13 15, mz, mz, mj (.getfield 429) 3 2 3 144, mz, mz, mi .ireturn 1, mi (.aload 0) 1, mi (.iconst 2) 1],
  [mj (.invokevirtual 432) 3 177 1 145, mz, mz, mi .ireturn 1, mi (.aload 0) 1, mi (.iconst 1) 1, mj (.invokevirtual 432) 3 177 1 145, mz, mz, mi .ireturn 1, mi (.aload 0) 1, mj (.getfield 69) 3 11 16 24, mz, mz, mj (.getfield 354) 3 9 1 118, mz],
  [mz, mi .ireturn 1, mi (.aload 0) 1, mi (.iconst 0) 1, mj (.invokevirtual 435) 3 178 1 146, mz, mz, mi .ireturn 1, mi (.aload 0) 1, mi (.iconst 3) 1, mj (.invokevirtual 435) 3 178 1 146, mz, mz, mi .ireturn 1, mi (.iconst (-1)) 1, mi .ireturn 1]]
def kX11_within : List (List (Option mR)) := [[mi (.iload 0) 1, mi (.iload 1) 1, mi (.if_icmp .lt 12) 3, mz, mz, mi (.iload 0) 1, mi (.iload 2) 1, mi (.if_icmp .gt 7) 3, mz, mz, mi (.iconst 1) 1, mi (.goto 4) 3, mz, mz, mi (.iconst 0) 1, mi .ireturn 1]]
def kX11_isFlag : List (List (Option mR)) := [[mi (.iload 0) 1, mi (.ifCond .eq 8) 3, mz, mz, mi (.iload 0) 1, mi (.iconst 1) 1, mi (.if_icmp .ne 7) 3, mz, mz, mi (.iconst 1) 1, mi (.goto 4) 3, mz, mz, mi (.iconst 0) 1, mi .ireturn 1]]
def kX11_kindOf : List (List (Option mR)) := [[mi (.iload 1) 1, mi (.ifCond .lt 21) 3, mz, mz, mi (.iload 1) 1, mi (.aload 0) 1, mj (.getfield 22) 3 11 4 6, mz, mz, mi .arraylength 1, mi (.if_icmp .ge 12) 3, mz, mz, mi (.aload 0) 1, mj (.getfield 22) 3 11 4 6, mz],
  [mz, mi (.iload 1) 1, mi .aaload 1, mi (.goto 4) 3, mz, mz, mi .aconst_null 1, mi .areturn 1]]
def kX11_machineOf : List (List (Option mR)) := [[mi (.iload 1) 1, mi (.ifCond .lt 21) 3, mz, mz, mi (.iload 1) 1, mi (.aload 0) 1, mj (.getfield 28) 3 11 6 8, mz, mz, mi .arraylength 1, mi (.if_icmp .ge 12) 3, mz, mz, mi (.aload 0) 1, mj (.getfield 28) 3 11 6 8, mz],
  [mz, mi (.iload 1) 1, mi .aaload 1, mi (.goto 4) 3, mz, mz, mi .aconst_null 1, mi .areturn 1]]
def kX11_orderOf : List (List (Option mR)) := [[mi (.iload 1) 1, mi (.ifCond .lt 21) 3, mz, mz, mi (.iload 1) 1, mi (.aload 0) 1, mj (.getfield 41) 3 11 11 12, mz, mz, mi .arraylength 1, mi (.if_icmp .ge 12) 3, mz, mz, mi (.aload 0) 1, mj (.getfield 41) 3 11 11 12, mz],
  [mz, mi (.iload 1) 1, mi .aaload 1, mi (.goto 4) 3, mz, mz, mi .aconst_null 1, mi .areturn 1]]
def kX11_isCustomer : List (List (Option mR)) := [[mi (.iload 1) 1, mi (.ifCond .lt 15) 3, mz, mz, mi (.iload 1) 1, mi (.aload 0) 1, mj (.getfield 232) 3 11 10 77, mz, mz, mi (.if_icmp .ge 7) 3, mz, mz, mi (.iconst 1) 1, mi (.goto 4) 3, mz, mz],
  [mi (.iconst 0) 1, mi .ireturn 1]]
def kX11_begunOrder : List (List (Option mR)) := [[mi (.aload 0) 1, mi (.iload 1) 1, mj (.invokevirtual 251) 3 170 1 85, mz, mz, mi (.astore 2) 1, mi (.aload 2) 1, mi (.ifnull 18) 3, mz, mz, mi (.aload 2) 1, mi (.aload 0) 1, mj (.getfield 80) 3 11 0 28, mz, mz, mj (.invokevirtual 314) 3 68 1 104],
  [mz, mz, mi (.ifCond .eq 7) 3, mz, mz, mi (.aload 2) 1, mi (.goto 4) 3, mz, mz, mi .aconst_null 1, mi .areturn 1]]
def kX11_learn : List (List (Option mR)) := [[mi (.aload 0) 1, mj (.getfield 76) 3 11 17 27, mz, mz, mi (.aload 1) 1, mi (.aload 0) 1, mj (.getfield 80) 3 11 0 28, mz, mz, mj (.invokevirtual 438) 3 4 2 147, mz, mz, mi (.aload 0) 1, mj (.getfield 76) 3 11 17 27, mz, mz],
  [mi (.aload 1) 1, mi (.aload 0) 1, mj (.getfield 80) 3 11 0 28, mz, mz, mi (.aload 0) 1, mj (.getfield 9) 3 11 2 1, mz, mz, mi (.aload 0) 1, mj (.getfield 48) 3 11 13 15, mz, mz, mj (.invokevirtual 441) 3 5 4 148, mz, mz],
  [mi .return_ 1]]
def kX11_priceOf : List (List (Option mR)) := [[mi (.aload 0) 1, mj (.getfield 76) 3 11 17 27, mz, mz, mi (.aload 1) 1, mi (.iload 2) 1, mj (.invokevirtual 445) 3 7 2 149, mz, mz, mi (.aload 0) 1, mj (.getfield 76) 3 11 17 27, mz, mz, mi (.aload 0) 1, mj (.getfield 76) 3 11 17 27, mz],
  [mz, mi (.iconst 0) 1, mi (.aload 0) 1, mj (.getfield 80) 3 11 0 28, mz, mz, mi (.iconst 24) 2, mz, mi .idiv 1, mi (.aload 1) 1, mj (.getfield 305) 3 7 11 101, mz, mz, mi (.iconst 24) 2, mz, mi .idiv 1],
  [mj (.invokevirtual 384) 3 9 3 129, mz, mz, mj (.invokevirtual 381) 3 8 1 128, mz, mz, mi .ireturn 1]]
def kX11_idleIn : List (List (Option mR)) := [[mi (.iconst 0) 1, mi (.istore 3) 1, mi (.iconst 0) 1, mi (.istore 4) 2, mz, mi (.iload 4) 2, mz, mi (.iconst 90) 2, mz, mi (.if_icmp .ge 51) 3, mz, mz, mi (.aload 0) 1, mi (.iload 4) 2, mz, mj (.invokevirtual 107) 3 169 1 35],
  [mz, mz, mi (.astore 5) 2, mz, mi (.aload 5) 2, mz, mi (.ifnull 32) 3, mz, mz, mi (.aload 5) 2, mz, mj (.getfield 145) 3 4 1 50, mz, mz, mi (.aload 1) 1, mi (.if_acmp .ne 23) 3],
  [mz, mz, mi (.aload 5) 2, mz, mj (.getfield 165) 3 4 4 55, mz, mz, mi (.iload 2) 1, mi (.if_icmp .ne 14) 3, mz, mz, mi (.aload 5) 2, mz, mj (.invokevirtual 188) 3 36 0 63, mz, mz],
  [mi (.ifCond .eq 6) 3, mz, mz, mi (.iinc 3 1) 3, mz, mz, mi (.iinc 4 1) 3, mz, mz, mi (.goto (-52)) 3, mz, mz, mi (.iload 3) 1, mi .ireturn 1]]
def kX11_wantedIn : List (List (Option mR)) := [[mi (.iconst 0) 1, mi (.istore 3) 1, mi (.iconst 0) 1, mi (.istore 4) 2, mz, mi (.iload 4) 2, mz, mi (.iconst 100) 2, mz, mi (.if_icmp .ge 59) 3, mz, mz, mi (.aload 0) 1, mi (.iload 4) 2, mz, mj (.invokevirtual 251) 3 170 1 85],
  [mz, mz, mi (.astore 5) 2, mz, mi (.aload 5) 2, mz, mi (.ifnull 40) 3, mz, mz, mi (.aload 5) 2, mz, mj (.getfield 320) 3 7 5 106, mz, mz, mi (.aload 1) 1, mi (.if_acmp .ne 31) 3],
  [mz, mz, mi (.aload 5) 2, mz, mj (.getfield 247) 3 7 7 83, mz, mz, mi (.iload 2) 1, mi (.if_icmp .ne 22) 3, mz, mz, mi (.aload 0) 1, mj (.getfield 80) 3 11 0 28, mz, mz, mi (.aload 5) 2],
  [mz, mj (.getfield 330) 3 7 4 110, mz, mz, mi .isub 1, mi (.iconst 720) 3, mz, mz, mi (.if_icmp .ge 6) 3, mz, mz, mi (.iinc 3 1) 3, mz, mz, mi (.iinc 4 1) 3, mz],
  [mz, mi (.goto (-60)) 3, mz, mz, mi (.iload 3) 1, mi .ireturn 1]]
def kX11_machinesThatAre : List (List (Option mR)) := [[mi (.iconst 0) 1, mi (.istore 2) 1, mi (.iconst 0) 1, mi (.istore 3) 1, mi (.iload 3) 1, mi (.iconst 90) 2, mz, mi (.if_icmp .ge 33) 3, mz, mz, mi (.aload 0) 1, mi (.iload 3) 1, mj (.invokevirtual 107) 3 169 1 35, mz, mz, mi (.astore 4) 2],
  [mz, mi (.aload 4) 2, mz, mi (.ifnull 15) 3, mz, mz, mi (.aload 4) 2, mz, mj (.getfield 162) 3 4 3 54, mz, mz, mi (.iload 1) 1, mi (.if_icmp .ne 6) 3, mz, mz, mi (.iinc 2 1) 3],
  [mz, mz, mi (.iinc 3 1) 3, mz, mz, mi (.goto (-33)) 3, mz, mz, mi (.iload 2) 1, mi .ireturn 1]]
def kX11_ordersThatAre : List (List (Option mR)) := [[mi (.iconst 0) 1, mi (.istore 2) 1, mi (.iconst 0) 1, mi (.istore 3) 1, mi (.iload 3) 1, mi (.iconst 100) 2, mz, mi (.if_icmp .ge 33) 3, mz, mz, mi (.aload 0) 1, mi (.iload 3) 1, mj (.invokevirtual 251) 3 170 1 85, mz, mz, mi (.astore 4) 2],
  [mz, mi (.aload 4) 2, mz, mi (.ifnull 15) 3, mz, mz, mi (.aload 4) 2, mz, mj (.getfield 293) 3 7 9 97, mz, mz, mi (.iload 1) 1, mi (.if_icmp .ne 6) 3, mz, mz, mi (.iinc 2 1) 3],
  [mz, mz, mi (.iinc 3 1) 3, mz, mz, mi (.goto (-33)) 3, mz, mz, mi (.iload 2) 1, mi .ireturn 1]]
def kX12_init : List (List (Option mR)) := [[mi (.aload 0) 1, mi .pop2 3, mz, mz, mi (.aload 0) 1, mi (.iconst 12) 2, mz, mi (.newarray .boolean) 2, mz, mj (.putfield 7) 3 12 3 1, mz, mz, mi (.aload 0) 1, mi (.iconst 144) 3, mz, mz],
  [mi (.newarray .int) 2, mz, mj (.putfield 13) 3 12 4 2, mz, mz, mi (.aload 0) 1, mi (.iconst 144) 3, mz, mz, mi (.newarray .int) 2, mz, mj (.putfield 17) 3 12 5 3, mz, mz, mi (.aload 0) 1, mi (.iconst 1000) 3],
  [mz, mz, mi (.newarray .boolean) 2, mz, mj (.putfield 20) 3 12 6 4, mz, mz, mi (.aload 0) 1, mi (.iconst 15) 2, mz, mi (.newarray .int) 2, mz, mj (.putfield 23) 3 12 8 5, mz, mz, mi (.aload 0) 1],
  [mi (.iconst 15) 2, mz, mi (.newarray .int) 2, mz, mj (.putfield 26) 3 12 9 6, mz, mz, mi (.aload 0) 1, mi (.iconst 15) 2, mz, mi (.newarray .int) 2, mz, mj (.putfield 29) 3 12 10 7, mz, mz, mi (.aload 0) 1],
  [mi (.iconst 15) 2, mz, mi (.newarray .int) 2, mz, mj (.putfield 32) 3 12 11 8, mz, mz, mi (.aload 0) 1, mi (.iconst 15) 2, mz, mi (.newarray .int) 2, mz, mj (.putfield 35) 3 12 12 9, mz, mz, mi (.aload 0) 1],
  [mi (.iconst 225) 3, mz, mz, mi (.newarray .boolean) 2, mz, mj (.putfield 38) 3 12 13 10, mz, mz, mi (.aload 0) 1, mi (.iconst 240) 3, mz, mz, mi (.newarray .int) 2, mz, mj (.putfield 41) 3 12 14 11, mz],
  [mz, mi (.aload 0) 1, mi (.iconst 90) 2, mz, mi (.newarray .int) 2, mz, mj (.putfield 44) 3 12 16 12, mz, mz, mi (.aload 0) 1, mi (.iconst 90) 2, mz, mi (.newarray .int) 2, mz, mj (.putfield 47) 3 12 17 13, mz],
  [mz, mi (.aload 0) 1, mi (.iconst 90) 2, mz, mi (.newarray .int) 2, mz, mj (.putfield 50) 3 12 18 14, mz, mz, mi (.aload 0) 1, mi (.iconst 90) 2, mz, mi (.newarray .int) 2, mz, mj (.putfield 53) 3 12 19 15, mz],
  [mz, mi (.aload 0) 1, mi (.iconst 90) 2, mz, mi (.newarray .int) 2, mz, mj (.putfield 56) 3 12 20 16, mz, mz, mi (.aload 0) 1, mi (.iconst 90) 2, mz, mi (.newarray .boolean) 2, mz, mj (.putfield 59) 3 12 21 17, mz],
  [mz, mi (.aload 0) 1, mi (.iconst 90) 2, mz, mi (.newarray .int) 2, mz, mj (.putfield 62) 3 12 22 18, mz, mz, mi (.aload 0) 1, mi (.iconst 90) 2, mz, mi (.newarray .int) 2, mz, mj (.putfield 65) 3 12 23 19, mz],
  [mz, mi (.aload 0) 1, mi (.iconst 90) 2, mz, mi (.newarray .int) 2, mz, mj (.putfield 68) 3 12 24 20, mz, mz, mi (.aload 0) 1, mi (.iconst 90) 2, mz, mi (.newarray .int) 2, mz, mj (.putfield 71) 3 12 25 21, mz],
  [mz, mi (.aload 0) 1, mi (.iconst 90) 2, mz, mi (.newarray .int) 2, mz, mj (.putfield 74) 3 12 26 22, mz, mz, mi (.aload 0) 1, mi (.iconst 90) 2, mz, mi (.newarray .int) 2, mz, mj (.putfield 77) 3 12 27 23, mz],
  [mz, mi (.aload 0) 1, mi (.iconst 90) 2, mz, mi (.newarray .int) 2, mz, mj (.putfield 80) 3 12 28 24, mz, mz, mi (.aload 0) 1, mi (.iconst 90) 2, mz, mi (.newarray .int) 2, mz, mj (.putfield 83) 3 12 29 25, mz],
  [mz, mi (.aload 0) 1, mi (.iconst 450) 3, mz, mz, mi (.newarray .int) 2, mz, mj (.putfield 86) 3 12 30 26, mz, mz, mi (.aload 0) 1, mi (.iconst 450) 3, mz, mz, mi (.newarray .int) 2, mz],
  [mj (.putfield 89) 3 12 31 27, mz, mz, mi (.aload 0) 1, mi (.iconst 490) 3, mz, mz, mi (.newarray .int) 2, mz, mj (.putfield 92) 3 12 34 28, mz, mz, mi (.aload 0) 1, mi (.iconst 490) 3, mz, mz],
  [mi (.newarray .int) 2, mz, mj (.putfield 95) 3 12 35 29, mz, mz, mi (.aload 0) 1, mi (.iconst 490) 3, mz, mz, mi (.newarray .int) 2, mz, mj (.putfield 98) 3 12 36 30, mz, mz, mi (.aload 0) 1, mi (.iconst 200) 3],
  [mz, mz, mi (.newarray .int) 2, mz, mj (.putfield 101) 3 12 38 31, mz, mz, mi (.aload 0) 1, mi (.iconst 200) 3, mz, mz, mi (.newarray .int) 2, mz, mj (.putfield 104) 3 12 39 32, mz, mz],
  [mi (.aload 0) 1, mi (.iconst 200) 3, mz, mz, mi (.newarray .int) 2, mz, mj (.putfield 107) 3 12 40 33, mz, mz, mi (.aload 0) 1, mi (.iconst 300) 3, mz, mz, mi (.newarray .int) 2, mz, mj (.putfield 110) 3 12 42 34],
  [mz, mz, mi (.aload 0) 1, mi (.iconst 300) 3, mz, mz, mi (.newarray .int) 2, mz, mj (.putfield 113) 3 12 43 35, mz, mz, mi (.aload 0) 1, mi (.iconst 300) 3, mz, mz, mi (.newarray .int) 2],
  [mz, mj (.putfield 116) 3 12 44 36, mz, mz, mi (.aload 0) 1, mi (.iconst 30) 2, mz, mi (.newarray .int) 2, mz, mj (.putfield 119) 3 12 46 37, mz, mz, mi (.aload 0) 1, mi (.iconst 30) 2, mz, mi (.newarray .int) 2],
  [mz, mj (.putfield 122) 3 12 47 38, mz, mz, mi (.aload 0) 1, mi (.iconst 100) 2, mz, mi (.newarray .int) 2, mz, mj (.putfield 125) 3 12 49 39, mz, mz, mi (.aload 0) 1, mi (.iconst 100) 2, mz, mi (.newarray .int) 2],
  [mz, mj (.putfield 128) 3 12 50 40, mz, mz, mi (.aload 0) 1, mi (.iconst 100) 2, mz, mi (.newarray .int) 2, mz, mj (.putfield 131) 3 12 51 41, mz, mz, mi (.aload 0) 1, mi (.iconst 100) 2, mz, mi (.newarray .int) 2],
  [mz, mj (.putfield 134) 3 12 52 42, mz, mz, mi (.aload 0) 1, mi (.iconst 100) 2, mz, mi (.newarray .int) 2, mz, mj (.putfield 137) 3 12 53 43, mz, mz, mi (.aload 0) 1, mi (.iconst 100) 2, mz, mi (.newarray .int) 2],
  [mz, mj (.putfield 140) 3 12 54 44, mz, mz, mi (.aload 0) 1, mi (.iconst 100) 2, mz, mi (.newarray .int) 2, mz, mj (.putfield 143) 3 12 55 45, mz, mz, mi (.aload 0) 1, mi (.iconst 100) 2, mz, mi (.newarray .int) 2],
  [mz, mj (.putfield 146) 3 12 56 46, mz, mz, mi (.aload 0) 1, mi (.iconst 100) 2, mz, mi (.newarray .int) 2, mz, mj (.putfield 149) 3 12 57 47, mz, mz, mi (.aload 0) 1, mi (.iconst 100) 2, mz, mi (.newarray .int) 2],
  [mz, mj (.putfield 152) 3 12 58 48, mz, mz, mi (.aload 0) 1, mi (.iconst 6000) 3, mz, mz, mi (.newarray .int) 2, mz, mj (.putfield 155) 3 12 59 49, mz, mz, mi (.aload 0) 1, mi (.iconst 200) 3, mz],
  [mz, mi (.newarray .int) 2, mz, mj (.putfield 158) 3 12 60 50, mz, mz, mi (.aload 0) 1, mi (.iconst 200) 3, mz, mz, mi (.newarray .int) 2, mz, mj (.putfield 161) 3 12 61 51, mz, mz, mi (.aload 0) 1],
  [mi (.iconst 6) 2, mz, mi (.newarray .int) 2, mz, mj (.putfield 164) 3 12 63 52, mz, mz, mi (.aload 0) 1, mi (.iconst 90) 2, mz, mi (.newarray .boolean) 2, mz, mj (.putfield 167) 3 12 66 53, mz, mz, mi (.aload 0) 1],
  [mi (.iconst 6) 2, mz, mi (.newarray .int) 2, mz, mj (.putfield 170) 3 12 67 54, mz, mz, mi (.aload 0) 1, mi (.iconst 64) 2, mz, mi (.newarray .long) 2, mz, mj (.putfield 173) 3 12 68 55, mz, mz, mi (.aload 0) 1],
  [mi (.iconst 540) 3, mz, mz, mi (.newarray .long) 2, mz, mj (.putfield 177) 3 12 69 56, mz, mz, mi (.aload 0) 1, mi (.iconst 5) 1, mi (.newarray .int) 2, mz, mj (.putfield 180) 3 12 71 57, mz, mz, mi (.aload 0) 1],
  [mi (.iconst 5) 1, mi (.newarray .int) 2, mz, mj (.putfield 183) 3 12 72 58, mz, mz, mi (.aload 0) 1, mi (.iconst 5) 1, mi (.newarray .int) 2, mz, mj (.putfield 186) 3 12 75 59, mz, mz, mi (.aload 0) 1, mi (.iconst 200) 3, mz],
  [mz, mi (.newarray .byte) 2, mz, mj (.putfield 189) 3 12 76 60, mz, mz, mi (.aload 0) 1, mi (.iconst 16) 2, mz, mi (.newarray .int) 2, mz, mj (.putfield 193) 3 12 79 61, mz, mz, mi (.aload 0) 1, mi (.iconst 16) 2],
  [mz, mi (.newarray .int) 2, mz, mj (.putfield 196) 3 12 80 62, mz, mz, mi (.aload 0) 1, mi (.iconst 16) 2, mz, mi (.newarray .int) 2, mz, mj (.putfield 199) 3 12 81 63, mz, mz, mi (.aload 0) 1, mi (.iconst 17) 2],
  [mz, mi (.newarray .int) 2, mz, mj (.putfield 202) 3 12 82 64, mz, mz, mi (.aload 0) 1, mi (.iconst 3740) 3, mz, mz, mi (.newarray .int) 2, mz, mj (.putfield 205) 3 12 83 65, mz, mz, mi (.aload 0) 1],
  [mi (.iconst 3740) 3, mz, mz, mi (.newarray .int) 2, mz, mj (.putfield 208) 3 12 84 66, mz, mz, mi (.aload 0) 1, mi (.iconst 3740) 3, mz, mz, mi (.newarray .int) 2, mz, mj (.putfield 211) 3 12 85 67, mz],
  [mz, mi (.aload 0) 1, mi (.iconst 14) 2, mz, mi (.newarray .int) 2, mz, mj (.putfield 214) 3 12 94 68, mz, mz, mi (.aload 0) 1, mi (.iconst 220) 3, mz, mz, mi (.newarray .int) 2, mz, mj (.putfield 217) 3 12 95 69],
  [mz, mz, mi .return_ 1]]
def kX12_in : List (List (Option mR)) := [[mi (.iload 0) 1, mi (.iload 1) 1, mi (.if_icmp .lt 12) 3, mz, mz, mi (.iload 0) 1, mi (.iload 2) 1, mi (.if_icmp .gt 7) 3, mz, mz, mi (.iconst 1) 1, mi (.goto 4) 3, mz, mz, mi (.iconst 0) 1, mi .ireturn 1]]
def kX12_isDay : List (List (Option mR)) := [[mi (.iload 0) 1, mi (.iconst 0) 1, mi (.iconst 999) 3, mz, mz, mj (.invokestatic 224) 3 180 3 70, mz, mz, mi .ireturn 1]]
def kX12_today : List (List (Option mR)) := [[mi (.aload 0) 1, mj (.getfield 228) 3 12 1 71, mz, mz, mi (.iconst 24) 2, mz, mi .idiv 1, mi .ireturn 1]]
def kX12_isTown : List (List (Option mR)) := [[mi (.iload 1) 1, mi (.iconst 0) 1, mi (.aload 0) 1, mj (.getfield 231) 3 12 2 72, mz, mz, mi (.iconst 1) 1, mi .isub 1, mj (.invokestatic 224) 3 180 3 70, mz, mz, mi .ireturn 1]]
def kX12_farOf : List (List (Option mR)) := [[mi (.aload 0) 1, mj (.getfield 17) 3 12 5 3, mz, mz, mi (.iconst 12) 2, mz, mi (.iload 1) 1, mi .imul 1, mi (.iload 2) 1, mi .iadd 1, mi .iaload 1, mi .ireturn 1]]
def kX12_findFars : List (List (Option mR)) := [[mi (.iconst 0) 1, mi (.istore 1) 1, mi (.iload 1) 1, mi (.aload 0) 1, mj (.getfield 231) 3 12 2 72, mz, mz, mi (.if_icmp .ge 75) 3, mz, mz, mi (.iconst 0) 1, mi (.istore 2) 1, mi (.iload 2) 1, mi (.aload 0) 1, mj (.getfield 231) 3 12 2 72, mz],
  [mz, mi (.if_icmp .ge 59) 3, mz, mz, mi (.aload 0) 1, mj (.getfield 17) 3 12 5 3, mz, mz, mi (.iconst 12) 2, mz, mi (.iload 1) 1, mi .imul 1, mi (.iload 2) 1, mi .iadd 1, mi (.iload 1) 1, mi (.iload 2) 1],
  [mi (.if_icmp .ne 7) 3, mz, mz, mi (.iconst 0) 1, mi (.goto 33) 3, mz, mz, mi (.aload 0) 1, mj (.getfield 13) 3 12 4 2, mz, mz, mi (.iconst 12) 2, mz, mi (.iload 1) 1, mi .imul 1, mi (.iload 2) 1],
  [mi .iadd 1, mi .iaload 1, mi (.ifCond .ne 8) 3, mz, mz, mj (.iconst 1000000) 2 0 0 73, mz, mi (.goto 14) 3, mz, mz, mi (.aload 0) 1, mj (.getfield 13) 3 12 4 2, mz, mz, mi (.iconst 12) 2, mz],
  [mi (.iload 1) 1, mi .imul 1, mi (.iload 2) 1, mi .iadd 1, mi .iaload 1, mi .iastore 1, mi (.iinc 2 1) 3, mz, mz, mi (.goto (-61)) 3, mz, mz, mi (.iinc 1 1) 3, mz, mz, mi (.goto (-77)) 3],
  [mz, mz, mi (.iconst 0) 1, mi (.istore 1) 1, mi (.iload 1) 1, mi (.aload 0) 1, mj (.getfield 231) 3 12 2 72, mz, mz, mi (.if_icmp .ge 80) 3, mz, mz, mi (.iconst 0) 1, mi (.istore 2) 1, mi (.iload 2) 1, mi (.aload 0) 1],
  [mj (.getfield 231) 3 12 2 72, mz, mz, mi (.if_icmp .ge 64) 3, mz, mz, mi (.iconst 0) 1, mi (.istore 3) 1, mi (.iload 3) 1, mi (.aload 0) 1, mj (.getfield 231) 3 12 2 72, mz, mz, mi (.if_icmp .ge 48) 3, mz, mz],
  [mi (.aload 0) 1, mi (.iload 2) 1, mi (.iload 1) 1, mj (.invokevirtual 235) 3 184 2 74, mz, mz, mi (.aload 0) 1, mi (.iload 1) 1, mi (.iload 3) 1, mj (.invokevirtual 235) 3 184 2 74, mz, mz, mi .iadd 1, mi (.istore 4) 2, mz, mi (.iload 4) 2],
  [mz, mi (.aload 0) 1, mi (.iload 2) 1, mi (.iload 3) 1, mj (.invokevirtual 235) 3 184 2 74, mz, mz, mi (.if_icmp .ge 16) 3, mz, mz, mi (.aload 0) 1, mj (.getfield 17) 3 12 5 3, mz, mz, mi (.iconst 12) 2, mz],
  [mi (.iload 2) 1, mi .imul 1, mi (.iload 3) 1, mi .iadd 1, mi (.iload 4) 2, mz, mi .iastore 1, mi (.iinc 3 1) 3, mz, mz, mi (.goto (-50)) 3, mz, mz, mi (.iinc 2 1) 3, mz, mz],
  [mi (.goto (-66)) 3, mz, mz, mi (.iinc 1 1) 3, mz, mz, mi (.goto (-82)) 3, mz, mz, mi .return_ 1]]
def kX12_town : List (List (Option mR)) := [[mi (.iload 1) 1, mi (.iconst 0) 1, mi (.iconst 1) 1, mj (.invokestatic 224) 3 180 3 70, mz, mz, mi (.ifCond .ne 5) 3, mz, mz, mi (.iconst (-1)) 1, mi .ireturn 1, mi (.aload 0) 1, mj (.getfield 231) 3 12 2 72, mz, mz, mi (.iconst 12) 2],
  [mz, mi (.if_icmp .ne 6) 3, mz, mz, mi (.iconst (-3)) 2, mz, mi .ireturn 1, mi (.aload 0) 1, mj (.getfield 7) 3 12 3 1, mz, mz, mi (.aload 0) 1, mj (.getfield 231) 3 12 2 72, mz, mz, mi (.iload 1) 1],
  [mi (.iconst 1) 1, mi (.if_icmp .ne 7) 3, mz, mz, mi (.iconst 1) 1, mi (.goto 4) 3, mz, mz, mi (.iconst 0) 1, mi .bastore 1, mi (.aload 0) 1, mi .dup 1, mj (.getfield 231) 3 12 2 72, mz, mz, mi (.iconst 1) 1],
  [mi .iadd 1, mj (.putfield 231) 3 12 2 72, mz, mz, mi (.aload 0) 1, mj (.invokevirtual 239) 3 185 0 75, mz, mz, mi (.aload 0) 1, mj (.getfield 231) 3 12 2 72, mz, mz, mi (.iconst 1) 1, mi .isub 1, mi .ireturn 1]]
def kX12_road : List (List (Option mR)) := [[mi (.aload 0) 1, mi (.iload 1) 1, mj (.invokevirtual 242) 3 183 1 76, mz, mz, mi (.ifCond .eq 27) 3, mz, mz, mi (.aload 0) 1, mi (.iload 2) 1, mj (.invokevirtual 242) 3 183 1 76, mz, mz, mi (.ifCond .eq 19) 3, mz, mz],
  [mi (.iload 1) 1, mi (.iload 2) 1, mi (.if_icmp .eq 14) 3, mz, mz, mi (.iload 3) 1, mi (.iconst 1) 1, mi (.iconst 300) 3, mz, mz, mj (.invokestatic 224) 3 180 3 70, mz, mz, mi (.ifCond .ne 5) 3, mz, mz],
  [mi (.iconst (-1)) 1, mi .ireturn 1, mi (.aload 0) 1, mj (.getfield 13) 3 12 4 2, mz, mz, mi (.iconst 12) 2, mz, mi (.iload 1) 1, mi .imul 1, mi (.iload 2) 1, mi .iadd 1, mi .iaload 1, mi (.istore 4) 2, mz, mi (.iload 4) 2],
  [mz, mi (.ifCond .eq 9) 3, mz, mz, mi (.iload 3) 1, mi (.iload 4) 2, mz, mi (.if_icmp .ge 7) 3, mz, mz, mi (.iload 3) 1, mi (.goto 5) 3, mz, mz, mi (.iload 4) 2, mz],
  [mi (.istore 5) 2, mz, mi (.aload 0) 1, mj (.getfield 13) 3 12 4 2, mz, mz, mi (.iconst 12) 2, mz, mi (.iload 1) 1, mi .imul 1, mi (.iload 2) 1, mi .iadd 1, mi (.iload 5) 2, mz, mi .iastore 1, mi (.aload 0) 1],
  [mj (.getfield 13) 3 12 4 2, mz, mz, mi (.iconst 12) 2, mz, mi (.iload 2) 1, mi .imul 1, mi (.iload 1) 1, mi .iadd 1, mi (.iload 5) 2, mz, mi .iastore 1, mi (.aload 0) 1, mj (.invokevirtual 239) 3 185 0 75, mz, mz],
  [mi (.iload 5) 2, mz, mi .ireturn 1]]
def kX12_far : List (List (Option mR)) := [[mi (.aload 0) 1, mi (.iload 1) 1, mj (.invokevirtual 242) 3 183 1 76, mz, mz, mi (.ifCond .eq 11) 3, mz, mz, mi (.aload 0) 1, mi (.iload 2) 1, mj (.invokevirtual 242) 3 183 1 76, mz, mz, mi (.ifCond .ne 7) 3, mz, mz],
  [mi (.iconst (-1)) 1, mi (.goto 25) 3, mz, mz, mi (.aload 0) 1, mi (.iload 1) 1, mi (.iload 2) 1, mj (.invokevirtual 235) 3 184 2 74, mz, mz, mj (.iconst 1000000) 2 0 0 73, mz, mi (.if_icmp .lt 8) 3, mz, mz, mi (.iconst (-2)) 2],
  [mz, mi (.goto 9) 3, mz, mz, mi (.aload 0) 1, mi (.iload 1) 1, mi (.iload 2) 1, mj (.invokevirtual 235) 3 184 2 74, mz, mz, mi .ireturn 1]]
def kX12_rain : List (List (Option mR)) := [[mi (.iload 1) 1, mj (.invokestatic 246) 3 181 1 77, mz, mz, mi (.ifCond .eq 12) 3, mz, mz, mi (.iload 2) 1, mi (.iconst 0) 1, mi (.iconst 1) 1, mj (.invokestatic 224) 3 180 3 70, mz, mz, mi (.ifCond .ne 5) 3, mz, mz],
  [mi (.iconst (-1)) 1, mi .ireturn 1, mi (.aload 0) 1, mj (.getfield 20) 3 12 6 4, mz, mz, mi (.iload 1) 1, mi .baload 1, mi (.ifCond .eq 7) 3, mz, mz, mi (.iconst 1) 1, mi (.goto 4) 3, mz, mz, mi (.iconst 0) 1],
  [mi (.istore 3) 1, mi (.aload 0) 1, mj (.getfield 20) 3 12 6 4, mz, mz, mi (.iload 1) 1, mi (.iload 2) 1, mi (.iconst 1) 1, mi (.if_icmp .ne 7) 3, mz, mz, mi (.iconst 1) 1, mi (.goto 4) 3, mz, mz, mi (.iconst 0) 1],
  [mi .bastore 1, mi (.iload 3) 1, mi .ireturn 1]]
def kX12_isType : List (List (Option mR)) := [[mi (.iload 1) 1, mi (.iconst 0) 1, mi (.aload 0) 1, mj (.getfield 249) 3 12 7 78, mz, mz, mi (.iconst 1) 1, mi .isub 1, mj (.invokestatic 224) 3 180 3 70, mz, mz, mi .ireturn 1]]
def kX12_isMachine : List (List (Option mR)) := [[mi (.iload 1) 1, mi (.iconst 0) 1, mi (.aload 0) 1, mj (.getfield 252) 3 12 15 79, mz, mz, mi (.iconst 1) 1, mi .isub 1, mj (.invokestatic 224) 3 180 3 70, mz, mz, mi .ireturn 1]]
def kX12_type : List (List (Option mR)) := [[mi (.iload 1) 1, mi (.iconst 1000) 3, mz, mz, mj (.iconst 99999) 2 0 0 80, mz, mj (.invokestatic 224) 3 180 3 70, mz, mz, mi (.ifCond .eq 45) 3, mz, mz, mi (.iload 2) 1, mi (.iconst 1) 1, mi (.iconst 9999) 3, mz],
  [mz, mj (.invokestatic 224) 3 180 3 70, mz, mz, mi (.ifCond .eq 34) 3, mz, mz, mi (.iload 3) 1, mi (.iconst 0) 1, mi (.iconst 997) 3, mz, mz, mj (.invokestatic 224) 3 180 3 70, mz, mz, mi (.ifCond .eq 23) 3],
  [mz, mz, mi (.iload 3) 1, mi (.iconst 10) 2, mz, mi .irem 1, mi (.iconst 7) 2, mz, mi (.if_icmp .gt 14) 3, mz, mz, mi (.iload 4) 2, mz, mi (.iconst 0) 1, mj (.iconst 99999) 2 0 0 80, mz],
  [mj (.invokestatic 224) 3 180 3 70, mz, mz, mi (.ifCond .ne 5) 3, mz, mz, mi (.iconst (-1)) 1, mi .ireturn 1, mi (.aload 0) 1, mj (.getfield 249) 3 12 7 78, mz, mz, mi (.iconst 15) 2, mz, mi (.if_icmp .ne 6) 3, mz],
  [mz, mi (.iconst (-3)) 2, mz, mi .ireturn 1, mi (.aload 0) 1, mj (.getfield 23) 3 12 8 5, mz, mz, mi (.aload 0) 1, mj (.getfield 249) 3 12 7 78, mz, mz, mi (.iload 1) 1, mi (.iconst 1000) 3, mz, mz],
  [mi .idiv 1, mi .iastore 1, mi (.aload 0) 1, mj (.getfield 26) 3 12 9 6, mz, mz, mi (.aload 0) 1, mj (.getfield 249) 3 12 7 78, mz, mz, mi (.iload 1) 1, mi (.iconst 1000) 3, mz, mz, mi .irem 1, mi .iastore 1],
  [mi (.aload 0) 1, mj (.getfield 29) 3 12 10 7, mz, mz, mi (.aload 0) 1, mj (.getfield 249) 3 12 7 78, mz, mz, mi (.iload 2) 1, mi .iastore 1, mi (.aload 0) 1, mj (.getfield 32) 3 12 11 8, mz, mz, mi (.aload 0) 1, mj (.getfield 249) 3 12 7 78],
  [mz, mz, mi (.iload 3) 1, mi (.iconst 10) 2, mz, mi .irem 1, mi .iastore 1, mi (.aload 0) 1, mj (.getfield 35) 3 12 12 9, mz, mz, mi (.aload 0) 1, mj (.getfield 249) 3 12 7 78, mz, mz, mi (.iload 4) 2],
  [mz, mi .iastore 1, mi (.aload 0) 1, mi .dup 1, mj (.getfield 249) 3 12 7 78, mz, mz, mi (.iconst 1) 1, mi .iadd 1, mj (.putfield 249) 3 12 7 78, mz, mz, mi (.aload 0) 1, mj (.getfield 249) 3 12 7 78, mz, mz],
  [mi (.iconst 1) 1, mi .isub 1, mi .ireturn 1]]
def kX12_instead : List (List (Option mR)) := [[mi (.aload 0) 1, mi (.iload 1) 1, mj (.invokevirtual 256) 3 190 1 81, mz, mz, mi (.ifCond .eq 25) 3, mz, mz, mi (.aload 0) 1, mi (.iload 2) 1, mj (.invokevirtual 256) 3 190 1 81, mz, mz, mi (.ifCond .eq 17) 3, mz, mz],
  [mi (.iload 1) 1, mi (.iload 2) 1, mi (.if_icmp .eq 12) 3, mz, mz, mi (.iload 3) 1, mi (.iconst 0) 1, mi (.iconst 1) 1, mj (.invokestatic 224) 3 180 3 70, mz, mz, mi (.ifCond .ne 5) 3, mz, mz, mi (.iconst (-1)) 1, mi .ireturn 1],
  [mi (.aload 0) 1, mj (.getfield 38) 3 12 13 10, mz, mz, mi (.iconst 15) 2, mz, mi (.iload 1) 1, mi .imul 1, mi (.iload 2) 1, mi .iadd 1, mi .baload 1, mi (.ifCond .eq 7) 3, mz, mz, mi (.iconst 1) 1, mi (.goto 4) 3],
  [mz, mz, mi (.iconst 0) 1, mi (.istore 4) 2, mz, mi (.aload 0) 1, mj (.getfield 38) 3 12 13 10, mz, mz, mi (.iconst 15) 2, mz, mi (.iload 1) 1, mi .imul 1, mi (.iload 2) 1, mi .iadd 1, mi (.iload 3) 1],
  [mi (.iconst 1) 1, mi (.if_icmp .ne 7) 3, mz, mz, mi (.iconst 1) 1, mi (.goto 4) 3, mz, mz, mi (.iconst 0) 1, mi .bastore 1, mi (.iload 4) 2, mz, mi .ireturn 1]]
def kX12_mark : List (List (Option mR)) := [[mi (.aload 0) 1, mi (.iload 1) 1, mj (.invokevirtual 256) 3 190 1 81, mz, mz, mi (.ifCond .eq 24) 3, mz, mz, mi (.iload 2) 1, mi (.iconst 0) 1, mi (.iconst 15) 2, mz, mj (.invokestatic 224) 3 180 3 70, mz, mz, mi (.ifCond .eq 14) 3],
  [mz, mz, mi (.iload 3) 1, mi (.iconst 0) 1, mi (.iconst 9999) 3, mz, mz, mj (.invokestatic 224) 3 180 3 70, mz, mz, mi (.ifCond .ne 5) 3, mz, mz, mi (.iconst (-1)) 1, mi .ireturn 1, mi (.aload 0) 1],
  [mj (.getfield 41) 3 12 14 11, mz, mz, mi (.iconst 16) 2, mz, mi (.iload 1) 1, mi .imul 1, mi (.iload 2) 1, mi .iadd 1, mi .iaload 1, mi (.istore 4) 2, mz, mi (.aload 0) 1, mj (.getfield 41) 3 12 14 11, mz, mz],
  [mi (.iconst 16) 2, mz, mi (.iload 1) 1, mi .imul 1, mi (.iload 2) 1, mi .iadd 1, mi (.iload 3) 1, mi .iastore 1, mi (.iload 4) 2, mz, mi .ireturn 1]]
def kX12_addReading : List (List (Option mR)) := [[mi (.aload 0) 1, mj (.getfield 92) 3 12 34 28, mz, mz, mi (.aload 0) 1, mj (.getfield 259) 3 12 32 82, mz, mz, mi (.iload 1) 1, mi .iastore 1, mi (.aload 0) 1, mj (.getfield 95) 3 12 35 29, mz, mz, mi (.aload 0) 1, mj (.getfield 259) 3 12 32 82],
  [mz, mz, mi (.aload 0) 1, mj (.getfield 228) 3 12 1 71, mz, mz, mi .iastore 1, mi (.aload 0) 1, mj (.getfield 98) 3 12 36 30, mz, mz, mi (.aload 0) 1, mj (.getfield 259) 3 12 32 82, mz, mz, mi (.iload 2) 1],
  [mi .iastore 1, mi (.aload 0) 1, mi .dup 1, mj (.getfield 259) 3 12 32 82, mz, mz, mi (.iconst 1) 1, mi .iadd 1, mj (.putfield 259) 3 12 32 82, mz, mz, mi .return_ 1]]
def kX12_readBy : List (List (Option mR)) := [[mi (.aload 0) 1, mj (.getfield 259) 3 12 32 82, mz, mz, mi (.iconst 1) 1, mi .isub 1, mi (.istore 3) 1, mi (.iload 3) 1, mi (.ifCond .lt 31) 3, mz, mz, mi (.aload 0) 1, mj (.getfield 92) 3 12 34 28, mz, mz, mi (.iload 3) 1],
  [mi .iaload 1, mi (.iload 1) 1, mi (.if_icmp .ne 15) 3, mz, mz, mi (.aload 0) 1, mj (.getfield 95) 3 12 35 29, mz, mz, mi (.iload 3) 1, mi .iaload 1, mi (.iload 2) 1, mi (.if_icmp .gt 5) 3, mz, mz, mi (.iload 3) 1],
  [mi .ireturn 1, mi (.iinc 3 (-1)) 3, mz, mz, mi (.goto (-29)) 3, mz, mz, mi (.iconst (-1)) 1, mi .ireturn 1]]
def kX12_readFrom : List (List (Option mR)) := [[mi (.iconst 0) 1, mi (.istore 3) 1, mi (.iload 3) 1, mi (.aload 0) 1, mj (.getfield 259) 3 12 32 82, mz, mz, mi (.if_icmp .ge 31) 3, mz, mz, mi (.aload 0) 1, mj (.getfield 92) 3 12 34 28, mz, mz, mi (.iload 3) 1, mi .iaload 1],
  [mi (.iload 1) 1, mi (.if_icmp .ne 15) 3, mz, mz, mi (.aload 0) 1, mj (.getfield 95) 3 12 35 29, mz, mz, mi (.iload 3) 1, mi .iaload 1, mi (.iload 2) 1, mi (.if_icmp .lt 5) 3, mz, mz, mi (.iload 3) 1, mi .ireturn 1],
  [mi (.iinc 3 1) 3, mz, mz, mi (.goto (-33)) 3, mz, mz, mi (.iconst (-1)) 1, mi .ireturn 1]]
def kX12_machine : List (List (Option mR)) := [[mi (.aload 0) 1, mi (.iload 1) 1, mj (.invokevirtual 256) 3 190 1 81, mz, mz, mi (.ifCond .eq 30) 3, mz, mz, mi (.aload 0) 1, mi (.iload 2) 1, mj (.invokevirtual 242) 3 183 1 76, mz, mz, mi (.ifCond .eq 22) 3, mz, mz],
  [mi (.aload 0) 1, mj (.getfield 7) 3 12 3 1, mz, mz, mi (.iload 2) 1, mi .baload 1, mi (.ifCond .eq 13) 3, mz, mz, mi (.iload 3) 1, mi (.iconst 0) 1, mj (.iconst 99999) 2 0 0 80, mz, mj (.invokestatic 224) 3 180 3 70, mz, mz],
  [mi (.ifCond .ne 5) 3, mz, mz, mi (.iconst (-1)) 1, mi .ireturn 1, mi (.aload 0) 1, mj (.getfield 252) 3 12 15 79, mz, mz, mi (.iconst 90) 2, mz, mi (.if_icmp .ne 6) 3, mz, mz, mi (.iconst (-3)) 2, mz],
  [mi .ireturn 1, mi (.aload 0) 1, mj (.getfield 252) 3 12 15 79, mz, mz, mi (.istore 4) 2, mz, mi (.aload 0) 1, mj (.getfield 44) 3 12 16 12, mz, mz, mi (.iload 4) 2, mz, mi (.iload 1) 1, mi .iastore 1, mi (.aload 0) 1],
  [mj (.getfield 47) 3 12 17 13, mz, mz, mi (.iload 4) 2, mz, mi (.iload 3) 1, mi .iastore 1, mi (.aload 0) 1, mj (.getfield 53) 3 12 19 15, mz, mz, mi (.iload 4) 2, mz, mi (.iload 2) 1, mi .iastore 1, mi (.aload 0) 1],
  [mj (.getfield 62) 3 12 22 18, mz, mz, mi (.iload 4) 2, mz, mi (.aload 0) 1, mj (.getfield 228) 3 12 1 71, mz, mz, mi .iastore 1, mi (.aload 0) 1, mj (.getfield 56) 3 12 20 16, mz, mz, mi (.iload 4) 2, mz],
  [mi (.iconst (-1)) 1, mi .iastore 1, mi (.aload 0) 1, mj (.getfield 68) 3 12 24 20, mz, mz, mi (.iload 4) 2, mz, mi (.iconst (-1)) 1, mi .iastore 1, mi (.aload 0) 1, mj (.getfield 74) 3 12 26 22, mz, mz, mi (.iload 4) 2, mz],
  [mi (.iconst (-1)) 1, mi .iastore 1, mi (.aload 0) 1, mj (.getfield 77) 3 12 27 23, mz, mz, mi (.iload 4) 2, mz, mi (.iconst (-1)) 1, mi .iastore 1, mi (.aload 0) 1, mi .dup 1, mj (.getfield 252) 3 12 15 79, mz, mz, mi (.iconst 1) 1],
  [mi .iadd 1, mj (.putfield 252) 3 12 15 79, mz, mz, mi (.aload 0) 1, mi (.iload 4) 2, mz, mi (.iload 3) 1, mj (.invokevirtual 262) 3 195 2 83, mz, mz, mi (.iload 4) 2, mz, mi .ireturn 1]]
def kX12_link : List (List (Option mR)) := [[mi (.aload 0) 1, mi (.iload 1) 1, mj (.invokevirtual 266) 3 191 1 84, mz, mz, mi (.ifCond .eq 24) 3, mz, mz, mi (.iload 2) 1, mi (.iconst 0) 1, mi (.iconst 9) 2, mz, mj (.invokestatic 224) 3 180 3 70, mz, mz, mi (.ifCond .eq 14) 3],
  [mz, mz, mi (.iload 3) 1, mi (.iconst 1) 1, mi (.iconst 9999) 3, mz, mz, mj (.invokestatic 224) 3 180 3 70, mz, mz, mi (.ifCond .ne 5) 3, mz, mz, mi (.iconst (-1)) 1, mi .ireturn 1, mi (.aload 0) 1],
  [mj (.getfield 83) 3 12 29 25, mz, mz, mi (.iload 1) 1, mi .iaload 1, mi (.iconst 5) 1, mi (.if_icmp .ne 6) 3, mz, mz, mi (.iconst (-3)) 2, mz, mi .ireturn 1, mi (.aload 0) 1, mj (.getfield 86) 3 12 30 26, mz, mz],
  [mi (.iconst 5) 1, mi (.iload 1) 1, mi .imul 1, mi (.aload 0) 1, mj (.getfield 83) 3 12 29 25, mz, mz, mi (.iload 1) 1, mi .iaload 1, mi .iadd 1, mi (.iload 2) 1, mi .iastore 1, mi (.aload 0) 1, mj (.getfield 89) 3 12 31 27, mz, mz],
  [mi (.iconst 5) 1, mi (.iload 1) 1, mi .imul 1, mi (.aload 0) 1, mj (.getfield 83) 3 12 29 25, mz, mz, mi (.iload 1) 1, mi .iaload 1, mi .iadd 1, mi (.iload 3) 1, mi .iastore 1, mi (.aload 0) 1, mj (.getfield 83) 3 12 29 25, mz, mz],
  [mi (.iload 1) 1, mi .dup2 1, mi .iaload 1, mi (.iconst 1) 1, mi .iadd 1, mi .iastore 1, mi (.aload 0) 1, mj (.getfield 83) 3 12 29 25, mz, mz, mi (.iload 1) 1, mi .iaload 1, mi .ireturn 1]]
def kX12_sinceLook : List (List (Option mR)) := [[mi (.aload 0) 1, mj (.getfield 47) 3 12 17 13, mz, mz, mi (.iload 1) 1, mi .iaload 1, mi (.aload 0) 1, mj (.getfield 71) 3 12 25 21, mz, mz, mi (.iload 1) 1, mi .iaload 1, mi .isub 1, mi .ireturn 1]]
def kX12_isDue : List (List (Option mR)) := [[mi (.aload 0) 1, mj (.getfield 26) 3 12 9 6, mz, mz, mi (.aload 0) 1, mj (.getfield 44) 3 12 16 12, mz, mz, mi (.iload 1) 1, mi .iaload 1, mi .iaload 1, mi (.ifCond .le 26) 3, mz, mz, mi (.aload 0) 1, mi (.iload 1) 1],
  [mj (.invokevirtual 269) 3 200 1 85, mz, mz, mi (.aload 0) 1, mj (.getfield 26) 3 12 9 6, mz, mz, mi (.aload 0) 1, mj (.getfield 44) 3 12 16 12, mz, mz, mi (.iload 1) 1, mi .iaload 1, mi .iaload 1, mi (.if_icmp .lt 7) 3, mz],
  [mz, mi (.iconst 1) 1, mi (.goto 4) 3, mz, mz, mi (.iconst 0) 1, mi .ireturn 1]]
def kX12_lapses : List (List (Option mR)) := [[mi (.aload 0) 1, mj (.getfield 26) 3 12 9 6, mz, mz, mi (.aload 0) 1, mj (.getfield 44) 3 12 16 12, mz, mz, mi (.iload 1) 1, mi .iaload 1, mi .iaload 1, mi (.ifCond .le 28) 3, mz, mz, mi (.aload 0) 1, mi (.iload 1) 1],
  [mj (.invokevirtual 269) 3 200 1 85, mz, mz, mi (.iload 2) 1, mi .iadd 1, mi (.aload 0) 1, mj (.getfield 26) 3 12 9 6, mz, mz, mi (.aload 0) 1, mj (.getfield 44) 3 12 16 12, mz, mz, mi (.iload 1) 1, mi .iaload 1, mi .iaload 1],
  [mi (.if_icmp .le 7) 3, mz, mz, mi (.iconst 1) 1, mi (.goto 4) 3, mz, mz, mi (.iconst 0) 1, mi .ireturn 1]]
def kX12_ofMachine : List (List (Option mR)) := [[mi (.aload 0) 1, mi (.iload 1) 1, mj (.invokevirtual 266) 3 191 1 84, mz, mz, mi (.ifCond .ne 7) 3, mz, mz, mj (.iconst (-2000000000)) 3 0 0 86, mz, mz, mi .ireturn 1, mi (.aload 0) 1, mj (.getfield 26) 3 12 9 6, mz, mz],
  [mi (.aload 0) 1, mj (.getfield 44) 3 12 16 12, mz, mz, mi (.iload 1) 1, mi .iaload 1, mi .iaload 1, mi (.istore 3) 1, mi (.iload 2) 1, mi (.tableswitch 193 0 9 #[55, 62, 69, 76, 97, 104, 110, 150, 157, 164]) 55, mz, mz, mz, mz, mz, mz],
  [mz, mz, mz, mz, mz, mz, mz, mz, mz, mz, mz, mz, mz, mz, mz, mz],
  [mz, mz, mz, mz, mz, mz, mz, mz, mz, mz, mz, mz, mz, mz, mz, mz],
  [mz, mz, mz, mz, mz, mz, mz, mz, mz, mz, mz, mz, mz, mz, mz, mz],
  [mi (.aload 0) 1, mj (.getfield 44) 3 12 16 12, mz, mz, mi (.iload 1) 1, mi .iaload 1, mi .ireturn 1, mi (.aload 0) 1, mj (.getfield 47) 3 12 17 13, mz, mz, mi (.iload 1) 1, mi .iaload 1, mi .ireturn 1, mi (.aload 0) 1, mj (.getfield 50) 3 12 18 14],
  [mz, mz, mi (.iload 1) 1, mi .iaload 1, mi .ireturn 1, mi (.aload 0) 1, mj (.getfield 50) 3 12 18 14, mz, mz, mi (.iload 1) 1, mi .iaload 1, mi (.iconst 3) 1, mi (.if_icmp .ne 7) 3, mz, mz, mi (.iconst (-1)) 1],
  [mi (.goto 9) 3, mz, mz, mi (.aload 0) 1, mj (.getfield 53) 3 12 19 15, mz, mz, mi (.iload 1) 1, mi .iaload 1, mi .ireturn 1, mi (.aload 0) 1, mj (.getfield 65) 3 12 23 19, mz, mz, mi (.iload 1) 1, mi .iaload 1],
  [mi .ireturn 1, mi (.aload 0) 1, mi (.iload 1) 1, mj (.invokevirtual 269) 3 200 1 85, mz, mz, mi .ireturn 1, mi (.aload 0) 1, mj (.getfield 50) 3 12 18 14, mz, mz, mi (.iload 1) 1, mi .iaload 1, mi (.iconst 1) 1, mi (.if_icmp .ne 12) 3, mz],
  [mz, mi (.aload 0) 1, mj (.getfield 56) 3 12 20 16, mz, mz, mi (.iload 1) 1, mi .iaload 1, mi (.goto 23) 3, mz, mz, mi (.aload 0) 1, mj (.getfield 65) 3 12 23 19, mz, mz, mi (.iload 1) 1, mi .iaload 1],
  [mi (.iconst 1) 1, mi (.if_icmp .ne 12) 3, mz, mz, mi (.aload 0) 1, mj (.getfield 68) 3 12 24 20, mz, mz, mi (.iload 1) 1, mi .iaload 1, mi (.goto 4) 3, mz, mz, mi (.iconst (-1)) 1, mi .ireturn 1, mi (.aload 0) 1],
  [mj (.getfield 74) 3 12 26 22, mz, mz, mi (.iload 1) 1, mi .iaload 1, mi .ireturn 1, mi (.aload 0) 1, mj (.getfield 83) 3 12 29 25, mz, mz, mi (.iload 1) 1, mi .iaload 1, mi .ireturn 1, mi (.iload 3) 1, mi (.ifCond .ne 7) 3, mz],
  [mz, mi (.iconst (-1)) 1, mi (.goto 23) 3, mz, mz, mi (.iload 3) 1, mi (.aload 0) 1, mi (.iload 1) 1, mj (.invokevirtual 269) 3 200 1 85, mz, mz, mi (.if_icmp .le 13) 3, mz, mz, mi (.iload 3) 1, mi (.aload 0) 1],
  [mi (.iload 1) 1, mj (.invokevirtual 269) 3 200 1 85, mz, mz, mi .isub 1, mi (.goto 4) 3, mz, mz, mi (.iconst 0) 1, mi .ireturn 1, mj (.iconst (-2000000000)) 3 0 0 86, mz, mz, mi .ireturn 1]]
def kX12_isFree : List (List (Option mR)) := [[mi (.aload 0) 1, mj (.getfield 65) 3 12 23 19, mz, mz, mi (.iload 1) 1, mi .iaload 1, mi (.ifCond .ne 25) 3, mz, mz, mi (.aload 0) 1, mj (.getfield 50) 3 12 18 14, mz, mz, mi (.iload 1) 1, mi .iaload 1, mi (.ifCond .ne 16) 3],
  [mz, mz, mi (.aload 0) 1, mj (.getfield 74) 3 12 26 22, mz, mz, mi (.iload 1) 1, mi .iaload 1, mi (.ifCond .ge 7) 3, mz, mz, mi (.iconst 1) 1, mi (.goto 4) 3, mz, mz, mi (.iconst 0) 1],
  [mi .ireturn 1]]
def kX12_look : List (List (Option mR)) := [[mi (.aload 0) 1, mi (.iload 1) 1, mj (.invokevirtual 266) 3 191 1 84, mz, mz, mi (.ifCond .eq 13) 3, mz, mz, mi (.iload 2) 1, mi (.iconst 1) 1, mi (.iconst 99) 2, mz, mj (.invokestatic 224) 3 180 3 70, mz, mz, mi (.ifCond .ne 5) 3],
  [mz, mz, mi (.iconst (-1)) 1, mi .ireturn 1, mi (.aload 0) 1, mi (.iload 1) 1, mj (.invokevirtual 274) 3 204 1 87, mz, mz, mi (.ifCond .ne 6) 3, mz, mz, mi (.iconst (-2)) 2, mz, mi .ireturn 1, mi (.aload 0) 1],
  [mj (.getfield 65) 3 12 23 19, mz, mz, mi (.iload 1) 1, mi (.iconst 1) 1, mi .iastore 1, mi (.aload 0) 1, mj (.getfield 68) 3 12 24 20, mz, mz, mi (.iload 1) 1, mi (.aload 0) 1, mj (.getfield 228) 3 12 1 71, mz, mz, mi (.iload 2) 1],
  [mi .iadd 1, mi .iastore 1, mi (.aload 0) 1, mj (.getfield 71) 3 12 25 21, mz, mz, mi (.iload 1) 1, mi (.aload 0) 1, mj (.getfield 47) 3 12 17 13, mz, mz, mi (.iload 1) 1, mi .iaload 1, mi .iastore 1, mi (.iconst 1) 1, mi .ireturn 1]]
def kX12_endSpan : List (List (Option mR)) := [[mi (.iconst 0) 1, mi (.istore 2) 1, mi (.iload 2) 1, mi (.aload 0) 1, mj (.getfield 277) 3 12 37 88, mz, mz, mi (.if_icmp .ge 38) 3, mz, mz, mi (.aload 0) 1, mj (.getfield 101) 3 12 38 31, mz, mz, mi (.iload 2) 1, mi .iaload 1],
  [mi (.iload 1) 1, mi (.if_icmp .ne 22) 3, mz, mz, mi (.aload 0) 1, mj (.getfield 107) 3 12 40 33, mz, mz, mi (.iload 2) 1, mi .iaload 1, mi (.ifCond .ge 13) 3, mz, mz, mi (.aload 0) 1, mj (.getfield 107) 3 12 40 33, mz],
  [mz, mi (.iload 2) 1, mi (.aload 0) 1, mj (.getfield 228) 3 12 1 71, mz, mz, mi .iastore 1, mi (.iinc 2 1) 3, mz, mz, mi (.goto (-40)) 3, mz, mz, mi .return_ 1]]
def kX12_broken : List (List (Option mR)) := [[mi (.aload 0) 1, mi (.iload 1) 1, mj (.invokevirtual 266) 3 191 1 84, mz, mz, mi (.ifCond .eq 12) 3, mz, mz, mi (.iload 2) 1, mi (.iconst 0) 1, mi (.iconst 1) 1, mj (.invokestatic 224) 3 180 3 70, mz, mz, mi (.ifCond .ne 5) 3, mz],
  [mz, mi (.iconst (-1)) 1, mi .ireturn 1, mi (.aload 0) 1, mj (.getfield 65) 3 12 23 19, mz, mz, mi (.iload 1) 1, mi .iaload 1, mi (.iconst 3) 1, mi (.if_icmp .ge 41) 3, mz, mz, mi (.aload 0) 1, mj (.getfield 65) 3 12 23 19, mz],
  [mz, mi (.iload 1) 1, mi .iaload 1, mi (.iconst 1) 1, mi (.if_icmp .eq 31) 3, mz, mz, mi (.aload 0) 1, mj (.getfield 65) 3 12 23 19, mz, mz, mi (.iload 1) 1, mi .iaload 1, mi (.iconst 2) 1, mi (.if_icmp .ne 7) 3, mz],
  [mz, mi (.iconst 1) 1, mi (.goto 4) 3, mz, mz, mi (.iconst 0) 1, mi (.iload 2) 1, mi (.iconst 1) 1, mi (.if_icmp .ne 7) 3, mz, mz, mi (.iconst 1) 1, mi (.goto 4) 3, mz, mz, mi (.iconst 0) 1],
  [mi (.if_icmp .ne 6) 3, mz, mz, mi (.iconst (-2)) 2, mz, mi .ireturn 1, mi (.iload 2) 1, mi (.ifCond .ne 17) 3, mz, mz, mi (.aload 0) 1, mi (.iload 1) 1, mj (.invokevirtual 280) 3 206 1 89, mz, mz, mi (.aload 0) 1],
  [mj (.getfield 65) 3 12 23 19, mz, mz, mi (.iload 1) 1, mi (.iconst 0) 1, mi .iastore 1, mi (.iconst 1) 1, mi .ireturn 1, mi (.aload 0) 1, mj (.getfield 277) 3 12 37 88, mz, mz, mi (.iconst 200) 3, mz, mz, mi (.if_icmp .ne 6) 3],
  [mz, mz, mi (.iconst (-3)) 2, mz, mi .ireturn 1, mi (.aload 0) 1, mj (.getfield 101) 3 12 38 31, mz, mz, mi (.aload 0) 1, mj (.getfield 277) 3 12 37 88, mz, mz, mi (.iload 1) 1, mi .iastore 1, mi (.aload 0) 1],
  [mj (.getfield 104) 3 12 39 32, mz, mz, mi (.aload 0) 1, mj (.getfield 277) 3 12 37 88, mz, mz, mi (.aload 0) 1, mj (.getfield 228) 3 12 1 71, mz, mz, mi .iastore 1, mi (.aload 0) 1, mj (.getfield 107) 3 12 40 33, mz, mz],
  [mi (.aload 0) 1, mj (.getfield 277) 3 12 37 88, mz, mz, mi (.iconst (-1)) 1, mi .iastore 1, mi (.aload 0) 1, mi .dup 1, mj (.getfield 277) 3 12 37 88, mz, mz, mi (.iconst 1) 1, mi .iadd 1, mj (.putfield 277) 3 12 37 88, mz, mz],
  [mi (.aload 0) 1, mj (.getfield 65) 3 12 23 19, mz, mz, mi (.iload 1) 1, mi (.iconst 2) 1, mi .iastore 1, mi (.iconst 1) 1, mi .ireturn 1]]
def kX12_gone : List (List (Option mR)) := [[mi (.aload 0) 1, mi (.iload 1) 1, mj (.invokevirtual 266) 3 191 1 84, mz, mz, mi (.ifCond .eq 12) 3, mz, mz, mi (.iload 2) 1, mi (.iconst 3) 1, mi (.iconst 4) 1, mj (.invokestatic 224) 3 180 3 70, mz, mz, mi (.ifCond .ne 5) 3, mz],
  [mz, mi (.iconst (-1)) 1, mi .ireturn 1, mi (.aload 0) 1, mj (.getfield 65) 3 12 23 19, mz, mz, mi (.iload 1) 1, mi .iaload 1, mi (.iconst 3) 1, mi (.if_icmp .ge 16) 3, mz, mz, mi (.iload 2) 1, mi (.iconst 3) 1, mi (.if_icmp .ne 14) 3],
  [mz, mz, mi (.aload 0) 1, mi (.iload 1) 1, mj (.invokevirtual 274) 3 204 1 87, mz, mz, mi (.ifCond .ne 6) 3, mz, mz, mi (.iconst (-2)) 2, mz, mi .ireturn 1, mi (.iload 2) 1, mi (.iconst 4) 1, mi (.if_icmp .ne 82) 3],
  [mz, mz, mi (.aload 0) 1, mi (.iload 1) 1, mj (.invokevirtual 280) 3 206 1 89, mz, mz, mi (.aload 0) 1, mj (.getfield 80) 3 12 28 24, mz, mz, mi (.iload 1) 1, mi (.aload 0) 1, mj (.getfield 228) 3 12 1 71, mz, mz],
  [mi .iastore 1, mi (.aload 0) 1, mj (.getfield 74) 3 12 26 22, mz, mz, mi (.iload 1) 1, mi .iaload 1, mi (.istore 3) 1, mi (.iload 3) 1, mi (.ifCond .lt 31) 3, mz, mz, mi (.aload 0) 1, mi (.iload 3) 1, mj (.invokevirtual 284) 3 236 1 90, mz],
  [mz, mi (.ifCond .eq 23) 3, mz, mz, mi (.aload 0) 1, mj (.getfield 143) 3 12 55 45, mz, mz, mi (.iload 3) 1, mi (.iconst 3) 1, mi .iastore 1, mi (.aload 0) 1, mj (.getfield 152) 3 12 58 48, mz, mz, mi (.iload 3) 1],
  [mi (.aload 0) 1, mj (.getfield 228) 3 12 1 71, mz, mz, mi .iastore 1, mi (.goto 28) 3, mz, mz, mi (.iload 3) 1, mi (.ifCond .lt 24) 3, mz, mz, mi (.aload 0) 1, mj (.getfield 143) 3 12 55 45, mz, mz],
  [mi (.iload 3) 1, mi (.iconst 0) 1, mi .iastore 1, mi (.aload 0) 1, mj (.getfield 146) 3 12 56 46, mz, mz, mi (.iload 3) 1, mi (.iconst (-1)) 1, mi .iastore 1, mi (.aload 0) 1, mj (.getfield 149) 3 12 57 47, mz, mz, mi (.iload 3) 1, mi (.iconst (-1)) 1],
  [mi .iastore 1, mi (.aload 0) 1, mj (.getfield 65) 3 12 23 19, mz, mz, mi (.iload 1) 1, mi (.iload 2) 1, mi .iastore 1, mi (.aload 0) 1, mj (.getfield 50) 3 12 18 14, mz, mz, mi (.iload 1) 1, mi (.iconst 3) 1, mi .iastore 1, mi (.aload 0) 1],
  [mj (.getfield 74) 3 12 26 22, mz, mz, mi (.iload 1) 1, mi (.iconst (-1)) 1, mi .iastore 1, mi (.iconst 1) 1, mi .ireturn 1]]
def kX12_read : List (List (Option mR)) := [[mi (.aload 0) 1, mi (.iload 1) 1, mj (.invokevirtual 266) 3 191 1 84, mz, mz, mi (.ifCond .eq 18) 3, mz, mz, mi (.iload 2) 1, mi (.aload 0) 1, mj (.getfield 47) 3 12 17 13, mz, mz, mi (.iload 1) 1, mi .iaload 1, mj (.iconst 99999) 2 0 0 80],
  [mz, mj (.invokestatic 224) 3 180 3 70, mz, mz, mi (.ifCond .ne 5) 3, mz, mz, mi (.iconst (-1)) 1, mi .ireturn 1, mi (.aload 0) 1, mj (.getfield 50) 3 12 18 14, mz, mz, mi (.iload 1) 1, mi .iaload 1, mi (.iconst 3) 1],
  [mi (.if_icmp .ne 6) 3, mz, mz, mi (.iconst (-2)) 2, mz, mi .ireturn 1, mi (.aload 0) 1, mi (.iload 1) 1, mi (.aload 0) 1, mj (.getfield 228) 3 12 1 71, mz, mz, mj (.invokevirtual 287) 3 196 2 91, mz, mz, mi (.istore 3) 1],
  [mi (.iload 3) 1, mi (.ifCond .lt 26) 3, mz, mz, mi (.aload 0) 1, mj (.getfield 95) 3 12 35 29, mz, mz, mi (.iload 3) 1, mi .iaload 1, mi (.aload 0) 1, mj (.getfield 228) 3 12 1 71, mz, mz, mi (.if_icmp .ne 13) 3, mz],
  [mz, mi (.aload 0) 1, mj (.getfield 98) 3 12 36 30, mz, mz, mi (.iload 3) 1, mi (.iload 2) 1, mi .iastore 1, mi (.goto 32) 3, mz, mz, mi (.aload 0) 1, mj (.getfield 290) 3 12 33 92, mz, mz, mi (.iconst 400) 3],
  [mz, mz, mi (.if_icmp .ne 6) 3, mz, mz, mi (.iconst (-3)) 2, mz, mi .ireturn 1, mi (.aload 0) 1, mi .dup 1, mj (.getfield 290) 3 12 33 92, mz, mz, mi (.iconst 1) 1, mi .iadd 1, mj (.putfield 290) 3 12 33 92],
  [mz, mz, mi (.aload 0) 1, mi (.iload 1) 1, mi (.iload 2) 1, mj (.invokevirtual 262) 3 195 2 83, mz, mz, mi (.aload 0) 1, mj (.getfield 47) 3 12 17 13, mz, mz, mi (.iload 1) 1, mi (.iload 2) 1, mi .iastore 1, mi (.iload 2) 1],
  [mi .ireturn 1]]
def kX12_track : List (List (Option mR)) := [[mi (.aload 0) 1, mi (.iload 1) 1, mj (.invokevirtual 266) 3 191 1 84, mz, mz, mi (.ifCond .eq 11) 3, mz, mz, mi (.aload 0) 1, mi (.iload 2) 1, mj (.invokevirtual 242) 3 183 1 76, mz, mz, mi (.ifCond .ne 5) 3, mz, mz],
  [mi (.iconst (-1)) 1, mi .ireturn 1, mi (.aload 0) 1, mj (.getfield 293) 3 12 41 93, mz, mz, mi (.iconst 300) 3, mz, mz, mi (.if_icmp .ne 6) 3, mz, mz, mi (.iconst (-3)) 2, mz, mi .ireturn 1, mi (.aload 0) 1],
  [mj (.getfield 110) 3 12 42 34, mz, mz, mi (.aload 0) 1, mj (.getfield 293) 3 12 41 93, mz, mz, mi (.iload 1) 1, mi .iastore 1, mi (.aload 0) 1, mj (.getfield 113) 3 12 43 35, mz, mz, mi (.aload 0) 1, mj (.getfield 293) 3 12 41 93, mz],
  [mz, mi (.iload 2) 1, mi .iastore 1, mi (.aload 0) 1, mj (.getfield 116) 3 12 44 36, mz, mz, mi (.aload 0) 1, mj (.getfield 293) 3 12 41 93, mz, mz, mi (.aload 0) 1, mj (.getfield 228) 3 12 1 71, mz, mz, mi .iastore 1],
  [mi (.aload 0) 1, mi .dup 1, mj (.getfield 293) 3 12 41 93, mz, mz, mi (.iconst 1) 1, mi .iadd 1, mj (.putfield 293) 3 12 41 93, mz, mz, mi (.aload 0) 1, mj (.getfield 293) 3 12 41 93, mz, mz, mi .ireturn 1]]
def kX12_theft : List (List (Option mR)) := [[mi (.aload 0) 1, mi (.iload 1) 1, mj (.invokevirtual 266) 3 191 1 84, mz, mz, mi (.ifCond .eq 12) 3, mz, mz, mi (.iload 2) 1, mi (.iconst 0) 1, mi (.iconst 2) 1, mj (.invokestatic 224) 3 180 3 70, mz, mz, mi (.ifCond .ne 5) 3, mz],
  [mz, mi (.iconst (-1)) 1, mi .ireturn 1, mi (.aload 0) 1, mj (.getfield 65) 3 12 23 19, mz, mz, mi (.iload 1) 1, mi .iaload 1, mi (.iconst 4) 1, mi (.if_icmp .eq 6) 3, mz, mz, mi (.iconst (-2)) 2, mz, mi .ireturn 1],
  [mi (.iload 2) 1, mi (.iconst 2) 1, mi (.if_icmp .ne 10) 3, mz, mz, mi (.aload 0) 1, mj (.getfield 53) 3 12 19 15, mz, mz, mi (.iload 1) 1, mi .iaload 1, mi .ireturn 1, mi (.aload 0) 1, mj (.getfield 62) 3 12 22 18, mz, mz],
  [mi (.iload 1) 1, mi .iaload 1, mi (.istore 3) 1, mi (.iconst 0) 1, mi (.istore 4) 2, mz, mi (.iload 4) 2, mz, mi (.aload 0) 1, mj (.getfield 293) 3 12 41 93, mz, mz, mi (.if_icmp .ge 88) 3, mz, mz, mi (.aload 0) 1],
  [mj (.getfield 110) 3 12 42 34, mz, mz, mi (.iload 4) 2, mz, mi .iaload 1, mi (.iload 1) 1, mi (.if_icmp .ne 71) 3, mz, mz, mi (.aload 0) 1, mj (.getfield 116) 3 12 44 36, mz, mz, mi (.iload 4) 2, mz],
  [mi .iaload 1, mi (.aload 0) 1, mj (.getfield 62) 3 12 22 18, mz, mz, mi (.iload 1) 1, mi .iaload 1, mi (.aload 0) 1, mj (.getfield 80) 3 12 28 24, mz, mz, mi (.iload 1) 1, mi .iaload 1, mj (.invokestatic 224) 3 180 3 70, mz, mz],
  [mi (.ifCond .ne 6) 3, mz, mz, mi (.goto 43) 3, mz, mz, mi (.aload 0) 1, mj (.getfield 113) 3 12 43 35, mz, mz, mi (.iload 4) 2, mz, mi .iaload 1, mi (.aload 0) 1, mj (.getfield 53) 3 12 19 15, mz],
  [mz, mi (.iload 1) 1, mi .iaload 1, mi (.if_icmp .eq 19) 3, mz, mz, mi (.iload 2) 1, mi (.ifCond .ne 7) 3, mz, mz, mi (.iload 3) 1, mi (.goto 10) 3, mz, mz, mi (.aload 0) 1, mj (.getfield 116) 3 12 44 36],
  [mz, mz, mi (.iload 4) 2, mz, mi .iaload 1, mi .ireturn 1, mi (.aload 0) 1, mj (.getfield 116) 3 12 44 36, mz, mz, mi (.iload 4) 2, mz, mi .iaload 1, mi (.istore 3) 1, mi (.iinc 4 1) 3, mz],
  [mz, mi (.goto (-91)) 3, mz, mz, mi (.iload 2) 1, mi (.ifCond .ne 7) 3, mz, mz, mi (.iload 3) 1, mi (.goto 9) 3, mz, mz, mi (.aload 0) 1, mj (.getfield 80) 3 12 28 24, mz, mz],
  [mi (.iload 1) 1, mi .iaload 1, mi .ireturn 1]]
def kX12_hours : List (List (Option mR)) := [[mi (.iload 1) 1, mi (.iconst 1) 1, mi (.iconst 240) 3, mz, mz, mj (.invokestatic 224) 3 180 3 70, mz, mz, mi (.ifCond .eq 15) 3, mz, mz, mi (.aload 0) 1, mj (.getfield 228) 3 12 1 71, mz, mz, mi (.iload 1) 1],
  [mi .iadd 1, mi (.iconst 23999) 3, mz, mz, mi (.if_icmp .le 5) 3, mz, mz, mi (.iconst (-1)) 1, mi .ireturn 1, mi (.aload 0) 1, mi .dup 1, mj (.getfield 228) 3 12 1 71, mz, mz, mi (.iload 1) 1, mi .iadd 1],
  [mj (.putfield 228) 3 12 1 71, mz, mz, mi (.iconst 0) 1, mi (.istore 2) 1, mi (.iload 2) 1, mi (.aload 0) 1, mj (.getfield 252) 3 12 15 79, mz, mz, mi (.if_icmp .ge 67) 3, mz, mz, mi (.aload 0) 1, mj (.getfield 50) 3 12 18 14, mz],
  [mz, mi (.iload 2) 1, mi .iaload 1, mi (.iconst 1) 1, mi (.if_icmp .ne 21) 3, mz, mz, mi (.aload 0) 1, mj (.getfield 228) 3 12 1 71, mz, mz, mi (.aload 0) 1, mj (.getfield 56) 3 12 20 16, mz, mz, mi (.iload 2) 1],
  [mi .iaload 1, mi (.if_icmp .lt 8) 3, mz, mz, mi (.aload 0) 1, mi (.iload 2) 1, mj (.invokevirtual 296) 3 213 1 94, mz, mz, mi (.aload 0) 1, mj (.getfield 65) 3 12 23 19, mz, mz, mi (.iload 2) 1, mi .iaload 1, mi (.iconst 1) 1],
  [mi (.if_icmp .ne 23) 3, mz, mz, mi (.aload 0) 1, mj (.getfield 228) 3 12 1 71, mz, mz, mi (.aload 0) 1, mj (.getfield 68) 3 12 24 20, mz, mz, mi (.iload 2) 1, mi .iaload 1, mi (.if_icmp .lt 10) 3, mz, mz],
  [mi (.aload 0) 1, mj (.getfield 65) 3 12 23 19, mz, mz, mi (.iload 2) 1, mi (.iconst 0) 1, mi .iastore 1, mi (.iinc 2 1) 3, mz, mz, mi (.goto (-69)) 3, mz, mz, mi (.aload 0) 1, mj (.getfield 228) 3 12 1 71, mz],
  [mz, mi .ireturn 1]]
def kX12_arrive : List (List (Option mR)) := [[mi (.aload 0) 1, mj (.getfield 50) 3 12 18 14, mz, mz, mi (.iload 1) 1, mi (.aload 0) 1, mj (.getfield 59) 3 12 21 17, mz, mz, mi (.iload 1) 1, mi .baload 1, mi (.ifCond .eq 7) 3, mz, mz, mi (.iconst 0) 1, mi (.goto 4) 3],
  [mz, mz, mi (.iconst 2) 1, mi .iastore 1, mi (.aload 0) 1, mj (.getfield 62) 3 12 22 18, mz, mz, mi (.iload 1) 1, mi (.aload 0) 1, mj (.getfield 56) 3 12 20 16, mz, mz, mi (.iload 1) 1, mi .iaload 1, mi .iastore 1],
  [mi .return_ 1]]
def kX12_load : List (List (Option mR)) := [[mi (.aload 0) 1, mi (.aload 0) 1, mj (.getfield 53) 3 12 19 15, mz, mz, mi (.iload 1) 1, mi .iaload 1, mi (.iload 2) 1, mj (.invokevirtual 235) 3 184 2 74, mz, mz, mi (.iconst 29) 2, mz, mi .iadd 1, mi (.iconst 30) 2, mz],
  [mi .idiv 1, mi (.istore 4) 2, mz, mi (.aload 0) 1, mj (.getfield 53) 3 12 19 15, mz, mz, mi (.iload 1) 1, mi (.iload 2) 1, mi .iastore 1, mi (.aload 0) 1, mj (.getfield 59) 3 12 21 17, mz, mz, mi (.iload 1) 1, mi (.iload 3) 1],
  [mi .bastore 1, mi (.aload 0) 1, mj (.getfield 50) 3 12 18 14, mz, mz, mi (.iload 1) 1, mi (.iconst 1) 1, mi .iastore 1, mi (.aload 0) 1, mj (.getfield 62) 3 12 22 18, mz, mz, mi (.iload 1) 1, mi (.aload 0) 1, mj (.getfield 228) 3 12 1 71, mz],
  [mz, mi .iastore 1, mi (.aload 0) 1, mj (.getfield 56) 3 12 20 16, mz, mz, mi (.iload 1) 1, mi (.aload 0) 1, mj (.getfield 228) 3 12 1 71, mz, mz, mi (.iload 4) 2, mz, mi .iadd 1, mi .iastore 1, mi (.iload 4) 2],
  [mz, mi (.ifCond .ne 8) 3, mz, mz, mi (.aload 0) 1, mi (.iload 1) 1, mj (.invokevirtual 296) 3 213 1 94, mz, mz, mi .return_ 1]]
def kX12_isCustomer : List (List (Option mR)) := [[mi (.iload 1) 1, mi (.iconst 0) 1, mi (.aload 0) 1, mj (.getfield 299) 3 12 45 95, mz, mz, mi (.iconst 1) 1, mi .isub 1, mj (.invokestatic 224) 3 180 3 70, mz, mz, mi .ireturn 1]]
def kX12_isOrder : List (List (Option mR)) := [[mi (.iload 1) 1, mi (.iconst 0) 1, mi (.aload 0) 1, mj (.getfield 302) 3 12 48 96, mz, mz, mi (.iconst 1) 1, mi .isub 1, mj (.invokestatic 224) 3 180 3 70, mz, mz, mi .ireturn 1]]
def kX12_customer : List (List (Option mR)) := [[mi (.aload 0) 1, mi (.iload 1) 1, mj (.invokevirtual 242) 3 183 1 76, mz, mz, mi (.ifCond .eq 14) 3, mz, mz, mi (.iload 2) 1, mi (.iconst 0) 1, mi (.iconst 255) 3, mz, mz, mj (.invokestatic 224) 3 180 3 70, mz, mz],
  [mi (.ifCond .ne 5) 3, mz, mz, mi (.iconst (-1)) 1, mi .ireturn 1, mi (.aload 0) 1, mj (.getfield 299) 3 12 45 95, mz, mz, mi (.iconst 30) 2, mz, mi (.if_icmp .ne 6) 3, mz, mz, mi (.iconst (-3)) 2, mz],
  [mi .ireturn 1, mi (.aload 0) 1, mj (.getfield 119) 3 12 46 37, mz, mz, mi (.aload 0) 1, mj (.getfield 299) 3 12 45 95, mz, mz, mi (.iload 1) 1, mi .iastore 1, mi (.aload 0) 1, mj (.getfield 122) 3 12 47 38, mz, mz, mi (.aload 0) 1],
  [mj (.getfield 299) 3 12 45 95, mz, mz, mi (.iload 2) 1, mi .iastore 1, mi (.aload 0) 1, mi .dup 1, mj (.getfield 299) 3 12 45 95, mz, mz, mi (.iconst 1) 1, mi .iadd 1, mj (.putfield 299) 3 12 45 95, mz, mz, mi (.aload 0) 1],
  [mj (.getfield 299) 3 12 45 95, mz, mz, mi (.iconst 1) 1, mi .isub 1, mi .ireturn 1]]
def kX12_order : List (List (Option mR)) := [[mi (.aload 0) 1, mi (.iload 1) 1, mj (.invokevirtual 305) 3 215 1 97, mz, mz, mi (.ifCond .eq 47) 3, mz, mz, mi (.aload 0) 1, mi (.iload 2) 1, mj (.invokevirtual 256) 3 190 1 81, mz, mz, mi (.ifCond .eq 39) 3, mz, mz],
  [mi (.iload 3) 1, mi (.aload 0) 1, mj (.getfield 228) 3 12 1 71, mz, mz, mi (.iconst 23999) 3, mz, mz, mj (.invokestatic 224) 3 180 3 70, mz, mz, mi (.ifCond .eq 25) 3, mz, mz, mi (.iload 4) 2, mz],
  [mi (.iconst 1) 1, mi (.iconst 60) 2, mz, mj (.invokestatic 224) 3 180 3 70, mz, mz, mi (.ifCond .eq 14) 3, mz, mz, mi (.iload 5) 2, mz, mi (.iconst 1) 1, mi (.iconst 24) 2, mz, mj (.invokestatic 224) 3 180 3 70, mz],
  [mz, mi (.ifCond .ne 5) 3, mz, mz, mi (.iconst (-1)) 1, mi .ireturn 1, mi (.aload 0) 1, mj (.getfield 302) 3 12 48 96, mz, mz, mi (.iconst 100) 2, mz, mi (.if_icmp .ne 6) 3, mz, mz, mi (.iconst (-3)) 2],
  [mz, mi .ireturn 1, mi (.aload 0) 1, mj (.getfield 302) 3 12 48 96, mz, mz, mi (.istore 6) 2, mz, mi (.aload 0) 1, mj (.getfield 125) 3 12 49 39, mz, mz, mi (.iload 6) 2, mz, mi (.iload 1) 1, mi .iastore 1],
  [mi (.aload 0) 1, mj (.getfield 128) 3 12 50 40, mz, mz, mi (.iload 6) 2, mz, mi (.iload 2) 1, mi .iastore 1, mi (.aload 0) 1, mj (.getfield 131) 3 12 51 41, mz, mz, mi (.iload 6) 2, mz, mi (.iload 3) 1, mi .iastore 1],
  [mi (.aload 0) 1, mj (.getfield 134) 3 12 52 42, mz, mz, mi (.iload 6) 2, mz, mi (.iload 4) 2, mz, mi .iastore 1, mi (.aload 0) 1, mj (.getfield 137) 3 12 53 43, mz, mz, mi (.iload 6) 2, mz, mi (.iload 5) 2],
  [mz, mi .iastore 1, mi (.aload 0) 1, mj (.getfield 140) 3 12 54 44, mz, mz, mi (.iload 6) 2, mz, mi (.aload 0) 1, mj (.getfield 228) 3 12 1 71, mz, mz, mi .iastore 1, mi (.aload 0) 1, mj (.getfield 146) 3 12 56 46, mz],
  [mz, mi (.iload 6) 2, mz, mi (.iconst (-1)) 1, mi .iastore 1, mi (.aload 0) 1, mj (.getfield 149) 3 12 57 47, mz, mz, mi (.iload 6) 2, mz, mi (.iconst (-1)) 1, mi .iastore 1, mi (.aload 0) 1, mj (.getfield 152) 3 12 58 48, mz],
  [mz, mi (.iload 6) 2, mz, mi (.iconst (-1)) 1, mi .iastore 1, mi (.iconst 0) 1, mi (.istore 7) 2, mz, mi (.iload 7) 2, mz, mi (.iconst 2) 1, mi (.if_icmp .ge 35) 3, mz, mz, mi (.aload 0) 1, mj (.getfield 158) 3 12 60 50],
  [mz, mz, mi (.iconst 2) 1, mi (.iload 6) 2, mz, mi .imul 1, mi (.iload 7) 2, mz, mi .iadd 1, mi (.iconst (-1)) 1, mi .iastore 1, mi (.aload 0) 1, mj (.getfield 161) 3 12 61 51, mz, mz, mi (.iconst 2) 1],
  [mi (.iload 6) 2, mz, mi .imul 1, mi (.iload 7) 2, mz, mi .iadd 1, mi (.iconst (-1)) 1, mi .iastore 1, mi (.iinc 7 1) 3, mz, mz, mi (.goto (-35)) 3, mz, mz, mi (.aload 0) 1, mi .dup 1],
  [mj (.getfield 302) 3 12 48 96, mz, mz, mi (.iconst 1) 1, mi .iadd 1, mj (.putfield 302) 3 12 48 96, mz, mz, mi (.iload 6) 2, mz, mi .ireturn 1]]
def kX12_townOfOrder : List (List (Option mR)) := [[mi (.aload 0) 1, mj (.getfield 119) 3 12 46 37, mz, mz, mi (.aload 0) 1, mj (.getfield 125) 3 12 49 39, mz, mz, mi (.iload 1) 1, mi .iaload 1, mi .iaload 1, mi .ireturn 1]]
def kX12_whyNot : List (List (Option mR)) := [[mi (.aload 0) 1, mj (.getfield 44) 3 12 16 12, mz, mz, mi (.iload 1) 1, mi .iaload 1, mi (.istore 3) 1, mi (.aload 0) 1, mj (.getfield 65) 3 12 23 19, mz, mz, mi (.iload 1) 1, mi .iaload 1, mi (.ifCond .ne 12) 3, mz, mz],
  [mi (.aload 0) 1, mj (.getfield 50) 3 12 18 14, mz, mz, mi (.iload 1) 1, mi .iaload 1, mi (.ifCond .eq 5) 3, mz, mz, mi (.iconst 1) 1, mi .ireturn 1, mi (.iload 3) 1, mi (.aload 0) 1, mj (.getfield 128) 3 12 50 40, mz, mz],
  [mi (.iload 2) 1, mi .iaload 1, mi (.if_icmp .eq 24) 3, mz, mz, mi (.aload 0) 1, mj (.getfield 38) 3 12 13 10, mz, mz, mi (.iconst 15) 2, mz, mi (.iload 3) 1, mi .imul 1, mi (.aload 0) 1, mj (.getfield 128) 3 12 50 40, mz],
  [mz, mi (.iload 2) 1, mi .iaload 1, mi .iadd 1, mi .baload 1, mi (.ifCond .ne 5) 3, mz, mz, mi (.iconst 2) 1, mi .ireturn 1, mi (.aload 0) 1, mj (.getfield 122) 3 12 47 38, mz, mz, mi (.aload 0) 1, mj (.getfield 125) 3 12 49 39],
  [mz, mz, mi (.iload 2) 1, mi .iaload 1, mi .iaload 1, mi (.aload 0) 1, mj (.getfield 32) 3 12 11 8, mz, mz, mi (.iload 3) 1, mi .iaload 1, mi .ishr 1, mi (.iconst 1) 1, mi .iand 1, mi (.ifCond .ne 5) 3, mz],
  [mz, mi (.iconst 3) 1, mi .ireturn 1, mi (.aload 0) 1, mi (.iload 1) 1, mj (.invokevirtual 308) 3 201 1 98, mz, mz, mi (.ifCond .ne 24) 3, mz, mz, mi (.aload 0) 1, mi (.iload 1) 1, mi (.aload 0) 1, mj (.getfield 134) 3 12 52 42, mz],
  [mz, mi (.iload 2) 1, mi .iaload 1, mi (.aload 0) 1, mj (.getfield 137) 3 12 53 43, mz, mz, mi (.iload 2) 1, mi .iaload 1, mi .imul 1, mj (.invokevirtual 311) 3 202 2 99, mz, mz, mi (.ifCond .eq 5) 3, mz, mz],
  [mi (.iconst 4) 1, mi .ireturn 1, mi (.aload 0) 1, mi (.aload 0) 1, mj (.getfield 53) 3 12 19 15, mz, mz, mi (.iload 1) 1, mi .iaload 1, mi (.aload 0) 1, mi (.iload 2) 1, mj (.invokevirtual 315) 3 219 1 100, mz, mz, mj (.invokevirtual 235) 3 184 2 74, mz],
  [mz, mi (.istore 4) 2, mz, mi (.iload 4) 2, mz, mj (.iconst 1000000) 2 0 0 73, mz, mi (.if_icmp .ge 25) 3, mz, mz, mi (.aload 0) 1, mj (.getfield 228) 3 12 1 71, mz, mz, mi (.iload 4) 2, mz],
  [mi (.iconst 29) 2, mz, mi .iadd 1, mi (.iconst 30) 2, mz, mi .idiv 1, mi .iadd 1, mi (.aload 0) 1, mj (.getfield 131) 3 12 51 41, mz, mz, mi (.iload 2) 1, mi .iaload 1, mi (.if_icmp .le 5) 3, mz, mz],
  [mi (.iconst 5) 1, mi .ireturn 1, mi (.aload 0) 1, mj (.getfield 74) 3 12 26 22, mz, mz, mi (.iload 1) 1, mi .iaload 1, mi (.ifCond .lt 18) 3, mz, mz, mi (.aload 0) 1, mj (.getfield 74) 3 12 26 22, mz, mz, mi (.iload 1) 1],
  [mi .iaload 1, mi (.iload 2) 1, mi (.if_icmp .eq 8) 3, mz, mz, mi (.iconst 6) 2, mz, mi (.goto 4) 3, mz, mz, mi (.iconst 0) 1, mi .ireturn 1]]
def kX12_why : List (List (Option mR)) := [[mi (.aload 0) 1, mi (.iload 1) 1, mj (.invokevirtual 266) 3 191 1 84, mz, mz, mi (.ifCond .eq 20) 3, mz, mz, mi (.aload 0) 1, mi (.iload 2) 1, mj (.invokevirtual 318) 3 216 1 101, mz, mz, mi (.ifCond .eq 12) 3, mz, mz],
  [mi (.aload 0) 1, mi (.iload 1) 1, mi (.iload 2) 1, mj (.invokevirtual 321) 3 220 2 102, mz, mz, mi (.goto 4) 3, mz, mz, mi (.iconst (-1)) 1, mi .ireturn 1]]
def kX12_list : List (List (Option mR)) := [[mi (.aload 0) 1, mi (.iload 1) 1, mj (.invokevirtual 318) 3 216 1 101, mz, mz, mi (.ifCond .ne 5) 3, mz, mz, mi (.iconst (-1)) 1, mi .ireturn 1, mi (.aload 0) 1, mj (.getfield 143) 3 12 55 45, mz, mz, mi (.iload 1) 1, mi .iaload 1],
  [mi (.ifCond .eq 6) 3, mz, mz, mi (.iconst (-2)) 2, mz, mi .ireturn 1, mi (.iconst 0) 1, mi (.istore 2) 1, mi (.iload 2) 1, mi (.aload 0) 1, mj (.getfield 324) 3 12 62 103, mz, mz, mi (.if_icmp .ge 22) 3, mz, mz],
  [mi (.aload 0) 1, mj (.getfield 164) 3 12 63 52, mz, mz, mi (.iload 2) 1, mi .iaload 1, mi (.iload 1) 1, mi (.if_icmp .ne 6) 3, mz, mz, mi (.iconst (-2)) 2, mz, mi .ireturn 1, mi (.iinc 2 1) 3, mz, mz],
  [mi (.goto (-24)) 3, mz, mz, mi (.aload 0) 1, mj (.getfield 324) 3 12 62 103, mz, mz, mi (.iconst 6) 2, mz, mi (.if_icmp .ne 6) 3, mz, mz, mi (.iconst (-3)) 2, mz, mi .ireturn 1, mi (.aload 0) 1],
  [mj (.getfield 164) 3 12 63 52, mz, mz, mi (.aload 0) 1, mj (.getfield 324) 3 12 62 103, mz, mz, mi (.iload 1) 1, mi .iastore 1, mi (.aload 0) 1, mi .dup 1, mj (.getfield 324) 3 12 62 103, mz, mz, mi (.iconst 1) 1, mi .iadd 1],
  [mj (.putfield 324) 3 12 62 103, mz, mz, mi (.aload 0) 1, mj (.getfield 324) 3 12 62 103, mz, mz, mi .ireturn 1]]
def kX12_mayHave : List (List (Option mR)) := [[mi (.aload 0) 1, mj (.getfield 167) 3 12 66 53, mz, mz, mi (.iload 2) 1, mi .baload 1, mi (.ifCond .ne 23) 3, mz, mz, mi (.aload 0) 1, mj (.getfield 177) 3 12 69 56, mz, mz, mi (.iconst 90) 2, mz, mi (.iload 1) 1],
  [mi .imul 1, mi (.iload 2) 1, mi .iadd 1, mi .laload 1, mi (.jsr_w 0) 1, mi .lcmp 1, mi (.ifCond .lt 7) 3, mz, mz, mi (.iconst 1) 1, mi (.goto 4) 3, mz, mz, mi (.iconst 0) 1, mi .ireturn 1]]
def kX12_findWorths : List (List (Option mR)) := [[mi (.iconst 0) 1, mi (.istore 1) 1, mi (.iload 1) 1, mi (.aload 0) 1, mj (.getfield 324) 3 12 62 103, mz, mz, mi (.if_icmp .ge 76) 3, mz, mz, mi (.iconst 0) 1, mi (.istore 2) 1, mi (.iload 2) 1, mi (.aload 0) 1, mj (.getfield 252) 3 12 15 79, mz],
  [mz, mi (.if_icmp .ge 60) 3, mz, mz, mi (.aload 0) 1, mj (.getfield 177) 3 12 69 56, mz, mz, mi (.iconst 90) 2, mz, mi (.iload 1) 1, mi .imul 1, mi (.iload 2) 1, mi .iadd 1, mi (.aload 0) 1, mj (.getfield 143) 3 12 55 45],
  [mz, mz, mi (.aload 0) 1, mj (.getfield 164) 3 12 63 52, mz, mz, mi (.iload 1) 1, mi .iaload 1, mi .iaload 1, mi (.ifCond .ne 26) 3, mz, mz, mi (.aload 0) 1, mi (.iload 2) 1, mi (.aload 0) 1, mj (.getfield 164) 3 12 63 52],
  [mz, mz, mi (.iload 1) 1, mi .iaload 1, mj (.invokevirtual 321) 3 220 2 102, mz, mz, mi (.ifCond .ne 12) 3, mz, mz, mi (.aload 0) 1, mi (.iload 1) 1, mi (.iload 2) 1, mj (.invokevirtual 327) 3 225 2 104, mz, mz],
  [mi (.goto 6) 3, mz, mz, mj (.jsr_w (-1)) 3 0 0 105, mz, mz, mi .lastore 1, mi (.iinc 2 1) 3, mz, mz, mi (.goto (-62)) 3, mz, mz, mi (.iinc 1 1) 3, mz, mz],
  [mi (.goto (-78)) 3, mz, mz, mi .return_ 1]]
def kX12_worthBy : List (List (Option mR)) := [[mj (.jsr_w 1000000) 3 0 0 106, mz, mz, mj (.jsr_w 10) 3 0 0 107, mz, mz, mi (.aload 0) 1, mi (.aload 0) 1, mj (.getfield 53) 3 12 19 15, mz, mz, mi (.iload 2) 1, mi .iaload 1, mi (.aload 0) 1, mi (.aload 0) 1, mj (.getfield 164) 3 12 63 52],
  [mz, mz, mi (.iload 1) 1, mi .iaload 1, mj (.invokevirtual 315) 3 219 1 100, mz, mz, mj (.invokevirtual 235) 3 184 2 74, mz, mz, mi .i2l 1, mi .lmul 1, mi .lsub 1, mi (.aload 0) 1, mj (.getfield 44) 3 12 16 12, mz],
  [mz, mi (.iload 2) 1, mi .iaload 1, mi (.aload 0) 1, mj (.getfield 128) 3 12 50 40, mz, mz, mi (.aload 0) 1, mj (.getfield 164) 3 12 63 52, mz, mz, mi (.iload 1) 1, mi .iaload 1, mi .iaload 1, mi (.if_icmp .ne 7) 3, mz],
  [mz, mi (.jsr_w 0) 1, mi (.goto 4) 3, mz, mz, mi (.jsr_w 1) 1, mi .lsub 1, mi .lreturn 1]]
def kX12_most : List (List (Option mR)) := [[mi (.aload 0) 1, mj (.getfield 324) 3 12 62 103, mz, mz, mi (.iload 1) 1, mi .isub 1, mi (.istore 2) 1, mi (.iconst 0) 1, mi (.istore 3) 1, mi (.iload 3) 1, mi (.iconst 1) 1, mi (.iload 2) 1, mi .ishl 1, mi (.if_icmp .ge 26) 3, mz, mz],
  [mi (.aload 0) 1, mj (.getfield 173) 3 12 68 55, mz, mz, mi (.iload 3) 1, mi (.iload 3) 1, mi (.ifCond .ne 7) 3, mz, mz, mi (.jsr_w 0) 1, mi (.goto 6) 3, mz, mz, mj (.jsr_w (-1)) 3 0 0 105, mz, mz],
  [mi .lastore 1, mi (.iinc 3 1) 3, mz, mz, mi (.goto (-27)) 3, mz, mz, mi (.iconst 0) 1, mi (.istore 3) 1, mi (.iload 3) 1, mi (.aload 0) 1, mj (.getfield 252) 3 12 15 79, mz, mz, mi (.if_icmp .ge 139) 3, mz],
  [mz, mi (.iconst 1) 1, mi (.iload 2) 1, mi .ishl 1, mi (.iconst 1) 1, mi .isub 1, mi (.istore 4) 2, mz, mi (.iload 4) 2, mz, mi (.ifCond .le 121) 3, mz, mz, mi (.iconst 0) 1, mi (.istore 5) 2, mz],
  [mi (.iload 5) 2, mz, mi (.iload 2) 1, mi (.if_icmp .ge 106) 3, mz, mz, mi (.iload 4) 2, mz, mi (.iload 5) 2, mz, mi .ishr 1, mi (.iconst 1) 1, mi .iand 1, mi (.ifCond .eq 90) 3, mz, mz],
  [mi (.aload 0) 1, mj (.getfield 173) 3 12 68 55, mz, mz, mi (.iload 4) 2, mz, mi (.iconst 1) 1, mi (.iload 5) 2, mz, mi .ishl 1, mi (.iconst (-1)) 1, mi .ixor 1, mi .iand 1, mi .laload 1, mi (.jsr_w 0) 1, mi .lcmp 1],
  [mi (.ifCond .lt 71) 3, mz, mz, mi (.aload 0) 1, mi (.iload 1) 1, mi (.iload 5) 2, mz, mi .iadd 1, mi (.iload 3) 1, mj (.invokevirtual 337) 3 223 2 108, mz, mz, mi (.ifCond .ne 6) 3, mz, mz, mi (.goto 56) 3],
  [mz, mz, mi (.aload 0) 1, mj (.getfield 173) 3 12 68 55, mz, mz, mi (.iload 4) 2, mz, mi (.iconst 1) 1, mi (.iload 5) 2, mz, mi .ishl 1, mi (.iconst (-1)) 1, mi .ixor 1, mi .iand 1, mi .laload 1],
  [mi (.aload 0) 1, mj (.getfield 177) 3 12 69 56, mz, mz, mi (.iconst 90) 2, mz, mi (.iload 1) 1, mi (.iload 5) 2, mz, mi .iadd 1, mi .imul 1, mi (.iload 3) 1, mi .iadd 1, mi .laload 1, mi .ladd 1, mi (.lstore 6) 2],
  [mz, mi (.lload 6) 2, mz, mi (.aload 0) 1, mj (.getfield 173) 3 12 68 55, mz, mz, mi (.iload 4) 2, mz, mi .laload 1, mi .lcmp 1, mi (.ifCond .le 12) 3, mz, mz, mi (.aload 0) 1, mj (.getfield 173) 3 12 68 55],
  [mz, mz, mi (.iload 4) 2, mz, mi (.lload 6) 2, mz, mi .lastore 1, mi (.iinc 5 1) 3, mz, mz, mi (.goto (-106)) 3, mz, mz, mi (.iinc 4 (-1)) 3, mz, mz],
  [mi (.goto (-120)) 3, mz, mz, mi (.iinc 3 1) 3, mz, mz, mi (.goto (-141)) 3, mz, mz, mi (.jsr_w 0) 1, mi (.lstore 3) 1, mi (.iconst 0) 1, mi (.istore 5) 2, mz, mi (.iload 5) 2, mz],
  [mi (.iconst 1) 1, mi (.iload 2) 1, mi .ishl 1, mi (.if_icmp .ge 33) 3, mz, mz, mi (.aload 0) 1, mj (.getfield 173) 3 12 68 55, mz, mz, mi (.iload 5) 2, mz, mi .laload 1, mi (.lload 3) 1, mi .lcmp 1, mi (.ifCond .le 13) 3],
  [mz, mz, mi (.aload 0) 1, mj (.getfield 173) 3 12 68 55, mz, mz, mi (.iload 5) 2, mz, mi .laload 1, mi (.goto 4) 3, mz, mz, mi (.lload 3) 1, mi (.lstore 3) 1, mi (.iinc 5 1) 3, mz],
  [mz, mi (.goto (-35)) 3, mz, mz, mi (.lload 3) 1, mi .lreturn 1]]
def kX12_best : List (List (Option mR)) := [[mi (.aload 0) 1, mj (.getfield 324) 3 12 62 103, mz, mz, mi (.ifCond .ne 6) 3, mz, mz, mi (.iconst (-2)) 2, mz, mi .ireturn 1, mi (.iconst 0) 1, mi (.istore 1) 1, mi (.iload 1) 1, mi (.aload 0) 1, mj (.getfield 252) 3 12 15 79, mz],
  [mz, mi (.if_icmp .ge 16) 3, mz, mz, mi (.aload 0) 1, mj (.getfield 167) 3 12 66 53, mz, mz, mi (.iload 1) 1, mi (.iconst 0) 1, mi .bastore 1, mi (.iinc 1 1) 3, mz, mz, mi (.goto (-18)) 3, mz],
  [mz, mi (.aload 0) 1, mj (.invokevirtual 340) 3 224 0 109, mz, mz, mi (.aload 0) 1, mi (.iconst 0) 1, mj (.invokevirtual 343) 3 226 1 110, mz, mz, mi (.lstore 1) 1, mi (.iconst 0) 1, mi (.istore 3) 1, mi (.aload 0) 1, mi (.iconst 0) 1, mj (.putfield 347) 3 12 65 111],
  [mz, mz, mi (.aload 0) 1, mi (.iconst 1) 1, mj (.putfield 350) 3 12 64 112, mz, mz, mi (.iconst 0) 1, mi (.istore 4) 2, mz, mi (.iload 4) 2, mz, mi (.aload 0) 1, mj (.getfield 324) 3 12 62 103, mz, mz],
  [mi (.if_icmp .ge 120) 3, mz, mz, mi (.aload 0) 1, mj (.getfield 170) 3 12 67 54, mz, mz, mi (.iload 4) 2, mz, mi (.iconst (-1)) 1, mi .iastore 1, mi (.iconst 0) 1, mi (.istore 5) 2, mz, mi (.iload 5) 2, mz],
  [mi (.aload 0) 1, mj (.getfield 252) 3 12 15 79, mz, mz, mi (.if_icmp .ge 94) 3, mz, mz, mi (.aload 0) 1, mj (.getfield 170) 3 12 67 54, mz, mz, mi (.iload 4) 2, mz, mi .iaload 1, mi (.ifCond .ge 84) 3, mz],
  [mz, mi (.aload 0) 1, mi (.iload 4) 2, mz, mi (.iload 5) 2, mz, mj (.invokevirtual 337) 3 223 2 108, mz, mz, mi (.ifCond .ne 6) 3, mz, mz, mi (.goto 64) 3, mz, mz, mi (.aload 0) 1],
  [mj (.getfield 167) 3 12 66 53, mz, mz, mi (.iload 5) 2, mz, mi (.iconst 1) 1, mi .bastore 1, mi (.aload 0) 1, mi (.iload 4) 2, mz, mi (.iload 5) 2, mz, mj (.invokevirtual 327) 3 225 2 104, mz, mz, mi (.aload 0) 1],
  [mi (.iload 4) 2, mz, mi (.iconst 1) 1, mi .iadd 1, mj (.invokevirtual 343) 3 226 1 110, mz, mz, mi .ladd 1, mi (.lload 1) 1, mi .lcmp 1, mi (.ifCond .ne 26) 3, mz, mz, mi (.aload 0) 1, mj (.getfield 170) 3 12 67 54, mz],
  [mz, mi (.iload 4) 2, mz, mi (.iload 5) 2, mz, mi .iastore 1, mi (.lload 1) 1, mi (.aload 0) 1, mi (.iload 4) 2, mz, mi (.iload 5) 2, mz, mj (.invokevirtual 327) 3 225 2 104, mz, mz, mi .lsub 1],
  [mi (.lstore 1) 1, mi (.goto 11) 3, mz, mz, mi (.aload 0) 1, mj (.getfield 167) 3 12 66 53, mz, mz, mi (.iload 5) 2, mz, mi (.iconst 0) 1, mi .bastore 1, mi (.iinc 5 1) 3, mz, mz, mi (.goto (-97)) 3],
  [mz, mz, mi (.iinc 4 1) 3, mz, mz, mi (.goto (-123)) 3, mz, mz, mi (.iconst 0) 1, mi (.istore 4) 2, mz, mi (.iload 4) 2, mz, mi (.aload 0) 1, mj (.getfield 324) 3 12 62 103, mz],
  [mz, mi (.if_icmp .ge 112) 3, mz, mz, mi (.aload 0) 1, mj (.getfield 170) 3 12 67 54, mz, mz, mi (.iload 4) 2, mz, mi .iaload 1, mi (.ifCond .ge 6) 3, mz, mz, mi (.goto 93) 3, mz],
  [mz, mi (.iinc 3 1) 3, mz, mz, mi (.aload 0) 1, mi .dup 1, mj (.getfield 347) 3 12 65 111, mz, mz, mi (.aload 0) 1, mi (.aload 0) 1, mj (.getfield 53) 3 12 19 15, mz, mz, mi (.aload 0) 1, mj (.getfield 170) 3 12 67 54],
  [mz, mz, mi (.iload 4) 2, mz, mi .iaload 1, mi .iaload 1, mi (.aload 0) 1, mi (.aload 0) 1, mj (.getfield 164) 3 12 63 52, mz, mz, mi (.iload 4) 2, mz, mi .iaload 1, mj (.invokevirtual 315) 3 219 1 100, mz],
  [mz, mj (.invokevirtual 235) 3 184 2 74, mz, mz, mi .iadd 1, mj (.putfield 347) 3 12 65 111, mz, mz, mi (.aload 0) 1, mj (.getfield 143) 3 12 55 45, mz, mz, mi (.aload 0) 1, mj (.getfield 164) 3 12 63 52, mz, mz],
  [mi (.iload 4) 2, mz, mi .iaload 1, mi (.iconst 1) 1, mi .iastore 1, mi (.aload 0) 1, mj (.getfield 146) 3 12 56 46, mz, mz, mi (.aload 0) 1, mj (.getfield 164) 3 12 63 52, mz, mz, mi (.iload 4) 2, mz, mi .iaload 1],
  [mi (.aload 0) 1, mj (.getfield 170) 3 12 67 54, mz, mz, mi (.iload 4) 2, mz, mi .iaload 1, mi .iastore 1, mi (.aload 0) 1, mj (.getfield 74) 3 12 26 22, mz, mz, mi (.aload 0) 1, mj (.getfield 170) 3 12 67 54, mz, mz],
  [mi (.iload 4) 2, mz, mi .iaload 1, mi (.aload 0) 1, mj (.getfield 164) 3 12 63 52, mz, mz, mi (.iload 4) 2, mz, mi .iaload 1, mi .iastore 1, mi (.iinc 4 1) 3, mz, mz, mi (.goto (-115)) 3, mz],
  [mz, mi (.aload 0) 1, mi (.iconst 0) 1, mj (.putfield 324) 3 12 62 103, mz, mz, mi (.iload 3) 1, mi .ireturn 1]]
def kX12_miles : List (List (Option mR)) := [[mi (.aload 0) 1, mj (.getfield 350) 3 12 64 112, mz, mz, mi (.ifCond .eq 10) 3, mz, mz, mi (.aload 0) 1, mj (.getfield 347) 3 12 65 111, mz, mz, mi (.goto 4) 3, mz, mz, mi (.iconst (-1)) 1, mi .ireturn 1]]
def kX12_isPromised : List (List (Option mR)) := [[mi (.aload 0) 1, mj (.getfield 74) 3 12 26 22, mz, mz, mi (.iload 1) 1, mi .iaload 1, mi (.ifCond .lt 22) 3, mz, mz, mi (.aload 0) 1, mj (.getfield 143) 3 12 55 45, mz, mz, mi (.aload 0) 1, mj (.getfield 74) 3 12 26 22, mz],
  [mz, mi (.iload 1) 1, mi .iaload 1, mi .iaload 1, mi (.iconst 1) 1, mi (.if_icmp .ne 7) 3, mz, mz, mi (.iconst 1) 1, mi (.goto 4) 3, mz, mz, mi (.iconst 0) 1, mi .ireturn 1]]
def kX12_stop : List (List (Option mR)) := [[mi (.aload 0) 1, mi (.iload 1) 1, mj (.invokevirtual 266) 3 191 1 84, mz, mz, mi (.ifCond .ne 5) 3, mz, mz, mi (.iconst (-1)) 1, mi .ireturn 1, mi (.aload 0) 1, mi (.iload 1) 1, mj (.invokevirtual 354) 3 229 1 113, mz, mz, mi (.ifCond .ne 6) 3],
  [mz, mz, mi (.iconst (-2)) 2, mz, mi .ireturn 1, mi (.iconst 0) 1, mi (.istore 2) 1, mi (.iload 2) 1, mi (.aload 0) 1, mj (.getfield 357) 3 12 70 114, mz, mz, mi (.if_icmp .ge 42) 3, mz, mz, mi (.aload 0) 1],
  [mj (.getfield 180) 3 12 71 57, mz, mz, mi (.iload 2) 1, mi .iaload 1, mi (.iload 1) 1, mi (.if_icmp .eq 23) 3, mz, mz, mi (.aload 0) 1, mj (.getfield 53) 3 12 19 15, mz, mz, mi (.aload 0) 1, mj (.getfield 180) 3 12 71 57, mz],
  [mz, mi (.iload 2) 1, mi .iaload 1, mi .iaload 1, mi (.aload 0) 1, mj (.getfield 53) 3 12 19 15, mz, mz, mi (.iload 1) 1, mi .iaload 1, mi (.if_icmp .eq 6) 3, mz, mz, mi (.iconst (-2)) 2, mz, mi .ireturn 1],
  [mi (.iinc 2 1) 3, mz, mz, mi (.goto (-44)) 3, mz, mz, mi (.aload 0) 1, mj (.getfield 357) 3 12 70 114, mz, mz, mi (.iconst 5) 1, mi (.if_icmp .ne 6) 3, mz, mz, mi (.iconst (-3)) 2, mz],
  [mi .ireturn 1, mi (.aload 0) 1, mj (.getfield 180) 3 12 71 57, mz, mz, mi (.aload 0) 1, mj (.getfield 357) 3 12 70 114, mz, mz, mi (.iload 1) 1, mi .iastore 1, mi (.aload 0) 1, mi .dup 1, mj (.getfield 357) 3 12 70 114, mz, mz],
  [mi (.iconst 1) 1, mi .iadd 1, mj (.putfield 357) 3 12 70 114, mz, mz, mi (.aload 0) 1, mj (.getfield 357) 3 12 70 114, mz, mz, mi .ireturn 1]]
def kX12_milesOfRow : List (List (Option mR)) := [[mi (.aload 0) 1, mj (.getfield 360) 3 12 73 115, mz, mz, mi (.istore 2) 1, mi (.iconst 0) 1, mi (.istore 3) 1, mi (.iconst 0) 1, mi (.istore 4) 2, mz, mi (.iload 4) 2, mz, mi (.iload 1) 1, mi (.if_icmp .ge 45) 3, mz, mz],
  [mi (.aload 0) 1, mi (.aload 0) 1, mj (.getfield 74) 3 12 26 22, mz, mz, mi (.aload 0) 1, mj (.getfield 180) 3 12 71 57, mz, mz, mi (.aload 0) 1, mj (.getfield 183) 3 12 72 58, mz, mz, mi (.iload 4) 2, mz, mi .iaload 1],
  [mi .iaload 1, mi .iaload 1, mj (.invokevirtual 315) 3 219 1 100, mz, mz, mi (.istore 5) 2, mz, mi (.iload 3) 1, mi (.aload 0) 1, mi (.iload 2) 1, mi (.iload 5) 2, mz, mj (.invokevirtual 235) 3 184 2 74, mz, mz, mi .iadd 1],
  [mi (.istore 3) 1, mi (.iload 5) 2, mz, mi (.istore 2) 1, mi (.iinc 4 1) 3, mz, mz, mi (.goto (-45)) 3, mz, mz, mi (.iload 3) 1, mi (.aload 0) 1, mi (.iload 2) 1, mi (.aload 0) 1, mj (.getfield 360) 3 12 73 115, mz],
  [mz, mj (.invokevirtual 235) 3 184 2 74, mz, mz, mi .iadd 1, mi (.istore 3) 1, mi (.iload 3) 1, mj (.iconst 1000000) 2 0 0 73, mz, mi (.if_icmp .le 8) 3, mz, mz, mj (.iconst 1000000) 2 0 0 73, mz, mi (.goto 4) 3, mz],
  [mz, mi (.iload 3) 1, mi .ireturn 1]]
def kX12_isUsed : List (List (Option mR)) := [[mi (.iconst 0) 1, mi (.istore 2) 1, mi (.iload 2) 1, mi (.iload 1) 1, mi (.if_icmp .ge 26) 3, mz, mz, mi (.aload 0) 1, mj (.getfield 183) 3 12 72 58, mz, mz, mi (.iload 2) 1, mi .iaload 1, mi (.aload 0) 1, mj (.getfield 183) 3 12 72 58, mz],
  [mz, mi (.iload 1) 1, mi .iaload 1, mi (.if_icmp .ne 5) 3, mz, mz, mi (.iconst 1) 1, mi .ireturn 1, mi (.iinc 2 1) 3, mz, mz, mi (.goto (-25)) 3, mz, mz, mi (.iconst 0) 1, mi .ireturn 1]]
def kX12_round : List (List (Option mR)) := [[mi (.iconst 0) 1, mi (.istore 1) 1, mi (.iconst 0) 1, mi (.istore 2) 1, mi (.iconst 0) 1, mi (.istore 3) 1, mi (.iload 3) 1, mi (.aload 0) 1, mj (.getfield 357) 3 12 70 114, mz, mz, mi (.if_icmp .ge 119) 3, mz, mz, mi (.aload 0) 1, mi (.aload 0) 1],
  [mj (.getfield 180) 3 12 71 57, mz, mz, mi (.iload 3) 1, mi .iaload 1, mj (.invokevirtual 354) 3 229 1 113, mz, mz, mi (.ifCond .ne 6) 3, mz, mz, mi (.goto 97) 3, mz, mz, mi (.aload 0) 1, mj (.getfield 180) 3 12 71 57],
  [mz, mz, mi (.iload 3) 1, mi .iaload 1, mi (.istore 4) 2, mz, mi (.iload 1) 1, mi (.ifCond .ne 14) 3, mz, mz, mi (.aload 0) 1, mi (.aload 0) 1, mj (.getfield 53) 3 12 19 15, mz, mz, mi (.iload 4) 2],
  [mz, mi .iaload 1, mj (.putfield 360) 3 12 73 115, mz, mz, mi (.iload 1) 1, mi (.istore 5) 2, mz, mi (.iload 5) 2, mz, mi (.ifCond .le 39) 3, mz, mz, mi (.aload 0) 1, mj (.getfield 180) 3 12 71 57, mz],
  [mz, mi (.iload 5) 2, mz, mi (.iconst 1) 1, mi .isub 1, mi .iaload 1, mi (.iload 4) 2, mz, mi (.if_icmp .le 25) 3, mz, mz, mi (.aload 0) 1, mj (.getfield 180) 3 12 71 57, mz, mz, mi (.iload 5) 2],
  [mz, mi (.aload 0) 1, mj (.getfield 180) 3 12 71 57, mz, mz, mi (.iload 5) 2, mz, mi (.iconst 1) 1, mi .isub 1, mi .iaload 1, mi .iastore 1, mi (.iinc 5 (-1)) 3, mz, mz, mi (.goto (-38)) 3, mz],
  [mz, mi (.aload 0) 1, mj (.getfield 180) 3 12 71 57, mz, mz, mi (.iload 5) 2, mz, mi (.iload 4) 2, mz, mi .iastore 1, mi (.iload 2) 1, mi (.aload 0) 1, mj (.getfield 23) 3 12 8 5, mz, mz, mi (.aload 0) 1],
  [mj (.getfield 44) 3 12 16 12, mz, mz, mi (.iload 4) 2, mz, mi .iaload 1, mi .iaload 1, mi .iadd 1, mi (.istore 2) 1, mi (.iinc 1 1) 3, mz, mz, mi (.iinc 3 1) 3, mz, mz, mi (.goto (-121)) 3],
  [mz, mz, mi (.aload 0) 1, mi (.iconst 0) 1, mj (.putfield 357) 3 12 70 114, mz, mz, mi (.iload 1) 1, mi (.ifCond .ne 6) 3, mz, mz, mi (.iconst (-2)) 2, mz, mi .ireturn 1, mi (.iload 2) 1, mi (.iconst 260) 3],
  [mz, mz, mi (.if_icmp .le 6) 3, mz, mz, mi (.iconst (-4)) 2, mz, mi .ireturn 1, mj (.iconst 1000000) 2 0 0 73, mz, mi (.istore 3) 1, mi (.iconst 0) 1, mi (.istore 4) 2, mz, mi (.aload 0) 1, mj (.getfield 183) 3 12 72 58],
  [mz, mz, mi (.iconst 0) 1, mi (.iconst (-1)) 1, mi .iastore 1, mi (.iload 4) 2, mz, mi (.ifCond .lt 126) 3, mz, mz, mi (.aload 0) 1, mj (.getfield 183) 3 12 72 58, mz, mz, mi (.iload 4) 2, mz],
  [mi .dup2 1, mi .iaload 1, mi (.iconst 1) 1, mi .iadd 1, mi .iastore 1, mi (.aload 0) 1, mj (.getfield 183) 3 12 72 58, mz, mz, mi (.iload 4) 2, mz, mi .iaload 1, mi (.iload 1) 1, mi (.if_icmp .ne 9) 3, mz, mz],
  [mi (.iinc 4 (-1)) 3, mz, mz, mi (.goto (-30)) 3, mz, mz, mi (.aload 0) 1, mi (.iload 4) 2, mz, mj (.invokevirtual 363) 3 232 1 116, mz, mz, mi (.ifCond .eq 6) 3, mz, mz, mi (.goto (-42)) 3],
  [mz, mz, mi (.iload 4) 2, mz, mi (.iload 1) 1, mi (.iconst 1) 1, mi .isub 1, mi (.if_icmp .ge 17) 3, mz, mz, mi (.iinc 4 1) 3, mz, mz, mi (.aload 0) 1, mj (.getfield 183) 3 12 72 58, mz],
  [mz, mi (.iload 4) 2, mz, mi (.iconst (-1)) 1, mi .iastore 1, mi (.goto (-64)) 3, mz, mz, mi (.aload 0) 1, mi (.iload 1) 1, mj (.invokevirtual 366) 3 231 1 117, mz, mz, mi (.istore 5) 2, mz, mi (.iload 5) 2],
  [mz, mi (.iload 3) 1, mi (.if_icmp .lt 6) 3, mz, mz, mi (.goto (-80)) 3, mz, mz, mi (.iload 5) 2, mz, mi (.istore 3) 1, mi (.aload 0) 1, mi (.iload 1) 1, mj (.putfield 369) 3 12 74 118, mz, mz],
  [mi (.iconst 0) 1, mi (.istore 6) 2, mz, mi (.iload 6) 2, mz, mi (.iload 1) 1, mi (.if_icmp .ge 28) 3, mz, mz, mi (.aload 0) 1, mj (.getfield 186) 3 12 75 59, mz, mz, mi (.iload 6) 2, mz, mi (.aload 0) 1],
  [mj (.getfield 180) 3 12 71 57, mz, mz, mi (.aload 0) 1, mj (.getfield 183) 3 12 72 58, mz, mz, mi (.iload 6) 2, mz, mi .iaload 1, mi .iaload 1, mi .iastore 1, mi (.iinc 6 1) 3, mz, mz, mi (.goto (-28)) 3],
  [mz, mz, mi (.goto (-125)) 3, mz, mz, mi (.iload 3) 1, mj (.iconst 1000000) 2 0 0 73, mz, mi (.if_icmp .lt 8) 3, mz, mz, mi (.iconst (-3)) 2, mz, mi (.goto 4) 3, mz, mz],
  [mi (.iload 3) 1, mi .ireturn 1]]
def kX12_stopped : List (List (Option mR)) := [[mi (.iload 1) 1, mi (.iconst 0) 1, mi (.aload 0) 1, mj (.getfield 369) 3 12 74 118, mz, mz, mi (.iconst 1) 1, mi .isub 1, mj (.invokestatic 224) 3 180 3 70, mz, mz, mi (.ifCond .eq 12) 3, mz, mz, mi (.aload 0) 1, mj (.getfield 186) 3 12 75 59],
  [mz, mz, mi (.iload 1) 1, mi .iaload 1, mi (.goto 4) 3, mz, mz, mi (.iconst (-1)) 1, mi .ireturn 1]]
def kX12_send : List (List (Option mR)) := [[mi (.aload 0) 1, mi (.iload 1) 1, mj (.invokevirtual 318) 3 216 1 101, mz, mz, mi (.ifCond .ne 5) 3, mz, mz, mi (.iconst (-1)) 1, mi .ireturn 1, mi (.aload 0) 1, mj (.getfield 143) 3 12 55 45, mz, mz, mi (.iload 1) 1, mi .iaload 1],
  [mi (.iconst 1) 1, mi (.if_icmp .ne 17) 3, mz, mz, mi (.aload 0) 1, mj (.getfield 65) 3 12 23 19, mz, mz, mi (.aload 0) 1, mj (.getfield 146) 3 12 56 46, mz, mz, mi (.iload 1) 1, mi .iaload 1, mi .iaload 1, mi (.ifCond .eq 6) 3],
  [mz, mz, mi (.iconst (-2)) 2, mz, mi .ireturn 1, mi (.aload 0) 1, mj (.getfield 146) 3 12 56 46, mz, mz, mi (.iload 1) 1, mi .iaload 1, mi (.istore 2) 1, mi (.aload 0) 1, mi (.iload 2) 1, mi (.aload 0) 1, mi (.iload 1) 1],
  [mj (.invokevirtual 315) 3 219 1 100, mz, mz, mi (.iconst 0) 1, mj (.invokevirtual 372) 3 214 3 119, mz, mz, mi (.aload 0) 1, mj (.getfield 77) 3 12 27 23, mz, mz, mi (.iload 2) 1, mi (.iload 1) 1, mi .iastore 1, mi (.aload 0) 1, mj (.getfield 143) 3 12 55 45],
  [mz, mz, mi (.iload 1) 1, mi (.iconst 2) 1, mi .iastore 1, mi (.aload 0) 1, mj (.getfield 149) 3 12 57 47, mz, mz, mi (.iload 1) 1, mi (.aload 0) 1, mj (.getfield 56) 3 12 20 16, mz, mz, mi (.iload 2) 1, mi .iaload 1],
  [mi (.aload 0) 1, mj (.getfield 131) 3 12 51 41, mz, mz, mi (.iload 1) 1, mi .iaload 1, mi (.if_icmp .le 12) 3, mz, mz, mi (.aload 0) 1, mj (.getfield 56) 3 12 20 16, mz, mz, mi (.iload 2) 1, mi .iaload 1, mi (.goto 9) 3],
  [mz, mz, mi (.aload 0) 1, mj (.getfield 131) 3 12 51 41, mz, mz, mi (.iload 1) 1, mi .iaload 1, mi .iastore 1, mi (.aload 0) 1, mj (.getfield 56) 3 12 20 16, mz, mz, mi (.iload 2) 1, mi .iaload 1, mi .ireturn 1]]
def kX12_hasBegun : List (List (Option mR)) := [[mi (.aload 0) 1, mj (.getfield 143) 3 12 55 45, mz, mz, mi (.iload 1) 1, mi .iaload 1, mi (.iconst 3) 1, mi (.if_icmp .eq 26) 3, mz, mz, mi (.aload 0) 1, mj (.getfield 143) 3 12 55 45, mz, mz, mi (.iload 1) 1, mi .iaload 1],
  [mi (.iconst 2) 1, mi (.if_icmp .ne 20) 3, mz, mz, mi (.aload 0) 1, mj (.getfield 228) 3 12 1 71, mz, mz, mi (.aload 0) 1, mj (.getfield 149) 3 12 57 47, mz, mz, mi (.iload 1) 1, mi .iaload 1, mi (.if_icmp .lt 7) 3, mz],
  [mz, mi (.iconst 1) 1, mi (.goto 4) 3, mz, mz, mi (.iconst 0) 1, mi .ireturn 1]]
def kX12_fetch : List (List (Option mR)) := [[mi (.aload 0) 1, mi (.iload 1) 1, mj (.invokevirtual 318) 3 216 1 101, mz, mz, mi (.ifCond .eq 20) 3, mz, mz, mi (.aload 0) 1, mi (.iload 2) 1, mj (.invokevirtual 242) 3 183 1 76, mz, mz, mi (.ifCond .eq 12) 3, mz, mz],
  [mi (.aload 0) 1, mj (.getfield 7) 3 12 3 1, mz, mz, mi (.iload 2) 1, mi .baload 1, mi (.ifCond .ne 5) 3, mz, mz, mi (.iconst (-1)) 1, mi .ireturn 1, mi (.aload 0) 1, mj (.getfield 143) 3 12 55 45, mz, mz, mi (.iload 1) 1],
  [mi .iaload 1, mi (.iconst 2) 1, mi (.if_icmp .ne 26) 3, mz, mz, mi (.aload 0) 1, mi (.iload 1) 1, mj (.invokevirtual 284) 3 236 1 90, mz, mz, mi (.ifCond .eq 18) 3, mz, mz, mi (.aload 0) 1, mi (.aload 0) 1, mi (.iload 1) 1],
  [mj (.invokevirtual 315) 3 219 1 100, mz, mz, mi (.iload 2) 1, mj (.invokevirtual 235) 3 184 2 74, mz, mz, mj (.iconst 1000000) 2 0 0 73, mz, mi (.if_icmp .lt 6) 3, mz, mz, mi (.iconst (-2)) 2, mz, mi .ireturn 1, mi (.aload 0) 1],
  [mj (.getfield 146) 3 12 56 46, mz, mz, mi (.iload 1) 1, mi .iaload 1, mi (.istore 3) 1, mi (.aload 0) 1, mj (.getfield 143) 3 12 55 45, mz, mz, mi (.iload 1) 1, mi (.iconst 3) 1, mi .iastore 1, mi (.aload 0) 1, mj (.getfield 152) 3 12 58 48, mz],
  [mz, mi (.iload 1) 1, mi (.aload 0) 1, mj (.getfield 228) 3 12 1 71, mz, mz, mi .iastore 1, mi (.aload 0) 1, mj (.getfield 74) 3 12 26 22, mz, mz, mi (.iload 3) 1, mi (.iconst (-1)) 1, mi .iastore 1, mi (.aload 0) 1, mi (.iload 3) 1],
  [mi (.iload 2) 1, mi (.iconst 1) 1, mj (.invokevirtual 372) 3 214 3 119, mz, mz, mi (.aload 0) 1, mj (.getfield 56) 3 12 20 16, mz, mz, mi (.iload 3) 1, mi .iaload 1, mi .ireturn 1]]
def kX12_off : List (List (Option mR)) := [[mi (.aload 0) 1, mi (.iload 1) 1, mj (.invokevirtual 318) 3 216 1 101, mz, mz, mi (.ifCond .ne 5) 3, mz, mz, mi (.iconst (-1)) 1, mi .ireturn 1, mi (.aload 0) 1, mj (.getfield 143) 3 12 55 45, mz, mz, mi (.iload 1) 1, mi .iaload 1],
  [mi (.iconst 1) 1, mi (.if_icmp .le 6) 3, mz, mz, mi (.iconst (-2)) 2, mz, mi .ireturn 1, mi (.aload 0) 1, mj (.getfield 143) 3 12 55 45, mz, mz, mi (.iload 1) 1, mi .iaload 1, mi (.iconst 1) 1, mi (.if_icmp .ne 15) 3, mz],
  [mz, mi (.aload 0) 1, mj (.getfield 74) 3 12 26 22, mz, mz, mi (.aload 0) 1, mj (.getfield 146) 3 12 56 46, mz, mz, mi (.iload 1) 1, mi .iaload 1, mi (.iconst (-1)) 1, mi .iastore 1, mi (.aload 0) 1, mj (.getfield 146) 3 12 56 46, mz],
  [mz, mi (.iload 1) 1, mi (.iconst (-1)) 1, mi .iastore 1, mi (.aload 0) 1, mj (.getfield 143) 3 12 55 45, mz, mz, mi (.iload 1) 1, mi (.iconst 4) 1, mi .iastore 1, mi (.iconst 1) 1, mi .ireturn 1]]
def kX12_ofOrder : List (List (Option mR)) := [[mi (.aload 0) 1, mi (.iload 1) 1, mj (.invokevirtual 318) 3 216 1 101, mz, mz, mi (.ifCond .ne 7) 3, mz, mz, mj (.iconst (-2000000000)) 3 0 0 86, mz, mz, mi .ireturn 1, mi (.iload 2) 1, mi (.tableswitch 125 0 9 #[55, 62, 69, 76, 83, 90, 97, 104, 111, 118]) 55, mz, mz],
  [mz, mz, mz, mz, mz, mz, mz, mz, mz, mz, mz, mz, mz, mz, mz, mz],
  [mz, mz, mz, mz, mz, mz, mz, mz, mz, mz, mz, mz, mz, mz, mz, mz],
  [mz, mz, mz, mz, mz, mz, mz, mz, mz, mz, mz, mz, mz, mz, mz, mz],
  [mz, mz, mz, mz, mi (.aload 0) 1, mj (.getfield 125) 3 12 49 39, mz, mz, mi (.iload 1) 1, mi .iaload 1, mi .ireturn 1, mi (.aload 0) 1, mj (.getfield 128) 3 12 50 40, mz, mz, mi (.iload 1) 1],
  [mi .iaload 1, mi .ireturn 1, mi (.aload 0) 1, mj (.getfield 131) 3 12 51 41, mz, mz, mi (.iload 1) 1, mi .iaload 1, mi .ireturn 1, mi (.aload 0) 1, mj (.getfield 134) 3 12 52 42, mz, mz, mi (.iload 1) 1, mi .iaload 1, mi .ireturn 1],
  [mi (.aload 0) 1, mj (.getfield 137) 3 12 53 43, mz, mz, mi (.iload 1) 1, mi .iaload 1, mi .ireturn 1, mi (.aload 0) 1, mj (.getfield 143) 3 12 55 45, mz, mz, mi (.iload 1) 1, mi .iaload 1, mi .ireturn 1, mi (.aload 0) 1, mj (.getfield 146) 3 12 56 46],
  [mz, mz, mi (.iload 1) 1, mi .iaload 1, mi .ireturn 1, mi (.aload 0) 1, mj (.getfield 149) 3 12 57 47, mz, mz, mi (.iload 1) 1, mi .iaload 1, mi .ireturn 1, mi (.aload 0) 1, mj (.getfield 152) 3 12 58 48, mz, mz],
  [mi (.iload 1) 1, mi .iaload 1, mi .ireturn 1, mi (.aload 0) 1, mj (.getfield 140) 3 12 54 44, mz, mz, mi (.iload 1) 1, mi .iaload 1, mi .ireturn 1, mj (.iconst (-2000000000)) 3 0 0 86, mz, mz, mi .ireturn 1]]
def kX12_endOf : List (List (Option mR)) := [[mi (.aload 0) 1, mj (.getfield 143) 3 12 55 45, mz, mz, mi (.iload 1) 1, mi .iaload 1, mi (.iconst 3) 1, mi (.if_icmp .ne 12) 3, mz, mz, mi (.aload 0) 1, mj (.getfield 152) 3 12 58 48, mz, mz, mi (.iload 1) 1, mi .iaload 1],
  [mi (.goto 7) 3, mz, mz, mi (.aload 0) 1, mj (.getfield 228) 3 12 1 71, mz, mz, mi .ireturn 1]]
def kX12_daysOf : List (List (Option mR)) := [[mi (.aload 0) 1, mi (.iload 1) 1, mj (.invokevirtual 376) 3 240 1 120, mz, mz, mi (.aload 0) 1, mj (.getfield 149) 3 12 57 47, mz, mz, mi (.iload 1) 1, mi .iaload 1, mi .isub 1, mi (.iconst 23) 2, mz, mi .iadd 1, mi (.iconst 24) 2],
  [mz, mi .idiv 1, mi .ireturn 1]]
def kX12_said : List (List (Option mR)) := [[mi (.aload 0) 1, mi (.iload 1) 1, mj (.invokevirtual 318) 3 216 1 101, mz, mz, mi (.ifCond .eq 22) 3, mz, mz, mi (.iload 2) 1, mi (.iconst 0) 1, mi (.iconst 59) 2, mz, mj (.invokestatic 224) 3 180 3 70, mz, mz, mi (.ifCond .eq 12) 3],
  [mz, mz, mi (.iload 3) 1, mi (.iconst 0) 1, mi (.iconst 1) 1, mj (.invokestatic 224) 3 180 3 70, mz, mz, mi (.ifCond .ne 5) 3, mz, mz, mi (.iconst (-1)) 1, mi .ireturn 1, mi (.aload 0) 1, mi (.iload 1) 1, mj (.invokevirtual 284) 3 236 1 90],
  [mz, mz, mi (.ifCond .ne 6) 3, mz, mz, mi (.iconst (-2)) 2, mz, mi .ireturn 1, mi (.aload 0) 1, mj (.getfield 155) 3 12 59 49, mz, mz, mi (.iconst 60) 2, mz, mi (.iload 1) 1, mi .imul 1],
  [mi (.iload 2) 1, mi .iadd 1, mi (.iload 3) 1, mi (.iconst 1) 1, mi .iadd 1, mi .iastore 1, mi (.iconst 1) 1, mi .ireturn 1]]
def kX12_dayIs : List (List (Option mR)) := [[mi (.aload 0) 1, mj (.getfield 146) 3 12 56 46, mz, mz, mi (.iload 1) 1, mi .iaload 1, mi (.istore 3) 1, mi (.aload 0) 1, mj (.getfield 149) 3 12 57 47, mz, mz, mi (.iload 1) 1, mi .iaload 1, mi (.iconst 24) 2, mz, mi (.iload 2) 1],
  [mi .imul 1, mi .iadd 1, mi (.istore 4) 2, mz, mi (.iload 4) 2, mz, mi (.iconst 24) 2, mz, mi .iadd 1, mi (.aload 0) 1, mi (.iload 1) 1, mj (.invokevirtual 376) 3 240 1 120, mz, mz, mi (.if_icmp .ge 11) 3, mz],
  [mz, mi (.iload 4) 2, mz, mi (.iconst 24) 2, mz, mi .iadd 1, mi (.goto 8) 3, mz, mz, mi (.aload 0) 1, mi (.iload 1) 1, mj (.invokevirtual 376) 3 240 1 120, mz, mz, mi (.istore 5) 2, mz],
  [mi (.aload 0) 1, mi (.iload 3) 1, mi (.iload 4) 2, mz, mj (.invokevirtual 379) 3 197 2 121, mz, mz, mi (.istore 6) 2, mz, mi (.aload 0) 1, mi (.iload 3) 1, mi (.iload 5) 2, mz, mj (.invokevirtual 287) 3 196 2 91, mz, mz],
  [mi (.istore 7) 2, mz, mi (.iload 6) 2, mz, mi (.ifCond .lt 46) 3, mz, mz, mi (.iload 7) 2, mz, mi (.ifCond .lt 41) 3, mz, mz, mi (.iload 6) 2, mz, mi (.iload 7) 2, mz],
  [mi (.if_icmp .ge 34) 3, mz, mz, mi (.aload 0) 1, mj (.getfield 95) 3 12 35 29, mz, mz, mi (.iload 7) 2, mz, mi .iaload 1, mi (.iload 4) 2, mz, mi (.if_icmp .lt 22) 3, mz, mz, mi (.aload 0) 1],
  [mj (.getfield 98) 3 12 36 30, mz, mz, mi (.iload 6) 2, mz, mi .iaload 1, mi (.aload 0) 1, mj (.getfield 98) 3 12 36 30, mz, mz, mi (.iload 7) 2, mz, mi .iaload 1, mi (.if_icmp .eq 5) 3, mz, mz],
  [mi (.iconst 1) 1, mi .ireturn 1, mi (.aload 0) 1, mi (.iload 3) 1, mi (.iload 4) 2, mz, mj (.invokevirtual 287) 3 196 2 91, mz, mz, mi (.istore 8) 2, mz, mi (.aload 0) 1, mi (.iload 3) 1, mi (.iload 5) 2, mz, mj (.invokevirtual 379) 3 197 2 121],
  [mz, mz, mi (.istore 9) 2, mz, mi (.iload 8) 2, mz, mi (.ifCond .lt 27) 3, mz, mz, mi (.iload 9) 2, mz, mi (.ifCond .lt 22) 3, mz, mz, mi (.aload 0) 1, mj (.getfield 98) 3 12 36 30],
  [mz, mz, mi (.iload 8) 2, mz, mi .iaload 1, mi (.aload 0) 1, mj (.getfield 98) 3 12 36 30, mz, mz, mi (.iload 9) 2, mz, mi .iaload 1, mi (.if_icmp .ne 5) 3, mz, mz, mi (.iconst 0) 1],
  [mi .ireturn 1, mi (.iload 2) 1, mi (.iconst 60) 2, mz, mi (.if_icmp .ge 22) 3, mz, mz, mi (.aload 0) 1, mj (.getfield 155) 3 12 59 49, mz, mz, mi (.iconst 60) 2, mz, mi (.iload 1) 1, mi .imul 1, mi (.iload 2) 1],
  [mi .iadd 1, mi .iaload 1, mi (.iconst 1) 1, mi (.if_icmp .ne 7) 3, mz, mz, mi (.iconst 3) 1, mi (.goto 4) 3, mz, mz, mi (.iconst 2) 1, mi .ireturn 1]]
def kX12_worked : List (List (Option mR)) := [[mi (.iconst 0) 1, mi (.istore 3) 1, mi (.iconst 0) 1, mi (.istore 4) 2, mz, mi (.iload 4) 2, mz, mi (.aload 0) 1, mi (.iload 1) 1, mj (.invokevirtual 382) 3 241 1 122, mz, mz, mi (.if_icmp .ge 74) 3, mz, mz, mi (.aload 0) 1],
  [mi (.iload 1) 1, mi (.iload 4) 2, mz, mj (.invokevirtual 385) 3 243 2 123, mz, mz, mi (.istore 5) 2, mz, mi (.iload 3) 1, mi (.iload 2) 1, mi (.ifCond .ne 17) 3, mz, mz, mi (.iload 5) 2, mz, mi (.iconst 1) 1],
  [mi (.if_icmp .ne 7) 3, mz, mz, mi (.iconst 1) 1, mi (.goto 42) 3, mz, mz, mi (.iconst 0) 1, mi (.goto 38) 3, mz, mz, mi (.iload 2) 1, mi (.iconst 1) 1, mi (.if_icmp .ne 16) 3, mz, mz],
  [mi (.iload 5) 2, mz, mi (.ifCond .eq 7) 3, mz, mz, mi (.iconst 1) 1, mi (.goto 24) 3, mz, mz, mi (.iconst 0) 1, mi (.goto 20) 3, mz, mz, mi (.iload 5) 2, mz, mi (.iconst 1) 1],
  [mi (.if_icmp .eq 9) 3, mz, mz, mi (.iload 5) 2, mz, mi (.iconst 2) 1, mi (.if_icmp .ne 7) 3, mz, mz, mi (.iconst 1) 1, mi (.goto 4) 3, mz, mz, mi (.iconst 0) 1, mi .iadd 1, mi (.istore 3) 1],
  [mi (.iinc 4 1) 3, mz, mz, mi (.goto (-78)) 3, mz, mz, mi (.iload 3) 1, mi .ireturn 1]]
def kX12_days : List (List (Option mR)) := [[mi (.aload 0) 1, mi (.iload 1) 1, mj (.invokevirtual 318) 3 216 1 101, mz, mz, mi (.ifCond .eq 20) 3, mz, mz, mi (.iload 2) 1, mi (.iconst 0) 1, mi (.iconst 3) 1, mj (.invokestatic 224) 3 180 3 70, mz, mz, mi (.ifCond .eq 11) 3, mz],
  [mz, mi (.aload 0) 1, mi (.iload 1) 1, mj (.invokevirtual 284) 3 236 1 90, mz, mz, mi (.ifCond .ne 7) 3, mz, mz, mj (.iconst (-2000000000)) 3 0 0 86, mz, mz, mi .ireturn 1, mi (.iload 2) 1, mi (.ifCond .ne 11) 3, mz],
  [mz, mi (.aload 0) 1, mi (.iload 1) 1, mj (.invokevirtual 382) 3 241 1 122, mz, mz, mi (.goto 11) 3, mz, mz, mi (.aload 0) 1, mi (.iload 1) 1, mi (.iload 2) 1, mi (.iconst 1) 1, mi .isub 1, mj (.invokevirtual 388) 3 244 2 124, mz],
  [mz, mi .ireturn 1]]
def kX12_dayOf : List (List (Option mR)) := [[mi (.aload 0) 1, mi (.iload 1) 1, mj (.invokevirtual 318) 3 216 1 101, mz, mz, mi (.ifCond .eq 35) 3, mz, mz, mi (.aload 0) 1, mi (.iload 1) 1, mj (.invokevirtual 284) 3 236 1 90, mz, mz, mi (.ifCond .eq 27) 3, mz, mz],
  [mi (.iload 2) 1, mi (.iconst 0) 1, mi (.aload 0) 1, mi (.iload 1) 1, mj (.invokevirtual 382) 3 241 1 122, mz, mz, mi (.iconst 1) 1, mi .isub 1, mj (.invokestatic 224) 3 180 3 70, mz, mz, mi (.ifCond .eq 12) 3, mz, mz, mi (.aload 0) 1],
  [mi (.iload 1) 1, mi (.iload 2) 1, mj (.invokevirtual 385) 3 243 2 123, mz, mz, mi (.goto 4) 3, mz, mz, mi (.iconst (-1)) 1, mi .ireturn 1]]
def kX12_feed : List (List (Option mR)) := [[mi (.aload 0) 1, mj (.getfield 391) 3 12 77 125, mz, mz, mi (.iconst 20) 2, mz, mi .iadd 1, mi (.iconst 200) 3, mz, mz, mi (.if_icmp .le 6) 3, mz, mz, mi (.iconst (-3)) 2, mz, mi .ireturn 1],
  [mi (.aload 0) 1, mi (.iload 1) 1, mj (.invokevirtual 394) 3 248 1 126, mz, mz, mi (.aload 0) 1, mi (.iload 2) 1, mj (.invokevirtual 394) 3 248 1 126, mz, mz, mi (.aload 0) 1, mi (.iload 3) 1, mj (.invokevirtual 394) 3 248 1 126, mz, mz, mi (.aload 0) 1],
  [mi (.iload 4) 2, mz, mj (.invokevirtual 394) 3 248 1 126, mz, mz, mi (.aload 0) 1, mi (.iload 5) 2, mz, mj (.invokevirtual 394) 3 248 1 126, mz, mz, mi (.aload 0) 1, mj (.getfield 391) 3 12 77 125, mz, mz, mi .ireturn 1]]
def kX12_feedOne : List (List (Option mR)) := [[mi (.iconst 3) 1, mi (.istore 2) 1, mi (.iload 2) 1, mi (.ifCond .lt 35) 3, mz, mz, mi (.aload 0) 1, mj (.getfield 189) 3 12 76 60, mz, mz, mi (.aload 0) 1, mj (.getfield 391) 3 12 77 125, mz, mz, mi (.iload 1) 1, mi (.iconst 8) 2],
  [mz, mi (.iload 2) 1, mi .imul 1, mi .ishr 1, mi .i2b 1, mi .bastore 1, mi (.aload 0) 1, mi .dup 1, mj (.getfield 391) 3 12 77 125, mz, mz, mi (.iconst 1) 1, mi .iadd 1, mj (.putfield 391) 3 12 77 125, mz, mz],
  [mi (.iinc 2 (-1)) 3, mz, mz, mi (.goto (-33)) 3, mz, mz, mi .return_ 1]]
def kX12_end : List (List (Option mR)) := [[mi (.iload 1) 1, mi (.iconst 0) 1, mi (.aload 0) 1, mj (.getfield 391) 3 12 77 125, mz, mz, mj (.invokestatic 224) 3 180 3 70, mz, mz, mi (.ifCond .ne 5) 3, mz, mz, mi (.iconst (-1)) 1, mi .ireturn 1, mi (.aload 0) 1, mi (.iload 1) 1],
  [mj (.putfield 391) 3 12 77 125, mz, mz, mi (.iload 1) 1, mi .ireturn 1]]
def kX12_isLetter : List (List (Option mR)) := [[mi (.iload 0) 1, mi (.iconst 97) 2, mz, mi (.iconst 122) 2, mz, mj (.invokestatic 224) 3 180 3 70, mz, mz, mi .ireturn 1]]
def kX12_isDigit : List (List (Option mR)) := [[mi (.iload 0) 1, mi (.iconst 48) 2, mz, mi (.iconst 57) 2, mz, mj (.invokestatic 224) 3 180 3 70, mz, mz, mi .ireturn 1]]
def kX12_nextToken : List (List (Option mR)) := [[mi (.aload 0) 1, mi (.aload 0) 1, mj (.getfield 397) 3 12 87 127, mz, mz, mj (.putfield 400) 3 12 86 128, mz, mz, mi (.aload 0) 1, mj (.getfield 400) 3 12 86 128, mz, mz, mi (.aload 0) 1, mj (.getfield 391) 3 12 77 125, mz, mz],
  [mi (.if_icmp .ge 30) 3, mz, mz, mi (.aload 0) 1, mj (.getfield 189) 3 12 76 60, mz, mz, mi (.aload 0) 1, mj (.getfield 400) 3 12 86 128, mz, mz, mi .baload 1, mi (.iconst 32) 2, mz, mi (.if_icmp .ne 16) 3, mz],
  [mz, mi (.aload 0) 1, mi .dup 1, mj (.getfield 400) 3 12 86 128, mz, mz, mi (.iconst 1) 1, mi .iadd 1, mj (.putfield 400) 3 12 86 128, mz, mz, mi (.goto (-35)) 3, mz, mz, mi (.aload 0) 1, mi (.aload 0) 1],
  [mj (.getfield 400) 3 12 86 128, mz, mz, mj (.putfield 397) 3 12 87 127, mz, mz, mi (.aload 0) 1, mj (.getfield 400) 3 12 86 128, mz, mz, mi (.aload 0) 1, mj (.getfield 391) 3 12 77 125, mz, mz, mi (.if_icmp .ne 9) 3, mz],
  [mz, mi (.aload 0) 1, mi (.iconst 0) 1, mj (.putfield 403) 3 12 88 129, mz, mz, mi .return_ 1, mi (.aload 0) 1, mj (.getfield 189) 3 12 76 60, mz, mz, mi (.aload 0) 1, mj (.getfield 400) 3 12 86 128, mz, mz, mi .baload 1],
  [mj (.invokestatic 406) 3 250 1 130, mz, mz, mi (.ifCond .eq 48) 3, mz, mz, mi (.aload 0) 1, mj (.getfield 397) 3 12 87 127, mz, mz, mi (.aload 0) 1, mj (.getfield 391) 3 12 77 125, mz, mz, mi (.if_icmp .ge 31) 3, mz],
  [mz, mi (.aload 0) 1, mj (.getfield 189) 3 12 76 60, mz, mz, mi (.aload 0) 1, mj (.getfield 397) 3 12 87 127, mz, mz, mi .baload 1, mj (.invokestatic 406) 3 250 1 130, mz, mz, mi (.ifCond .eq 16) 3, mz, mz],
  [mi (.aload 0) 1, mi .dup 1, mj (.getfield 397) 3 12 87 127, mz, mz, mi (.iconst 1) 1, mi .iadd 1, mj (.putfield 397) 3 12 87 127, mz, mz, mi (.goto (-36)) 3, mz, mz, mi (.aload 0) 1, mi (.iconst 1) 1, mj (.putfield 403) 3 12 88 129],
  [mz, mz, mi .return_ 1, mi (.aload 0) 1, mj (.getfield 189) 3 12 76 60, mz, mz, mi (.aload 0) 1, mj (.getfield 400) 3 12 86 128, mz, mz, mi .baload 1, mj (.invokestatic 409) 3 251 1 131, mz, mz, mi (.ifCond .eq 116) 3],
  [mz, mz, mi (.aload 0) 1, mi (.iconst 0) 1, mj (.putfield 412) 3 12 89 132, mz, mz, mi (.aload 0) 1, mj (.getfield 397) 3 12 87 127, mz, mz, mi (.aload 0) 1, mj (.getfield 391) 3 12 77 125, mz, mz, mi (.if_icmp .ge 76) 3],
  [mz, mz, mi (.aload 0) 1, mj (.getfield 189) 3 12 76 60, mz, mz, mi (.aload 0) 1, mj (.getfield 397) 3 12 87 127, mz, mz, mi .baload 1, mj (.invokestatic 409) 3 251 1 131, mz, mz, mi (.ifCond .eq 61) 3, mz],
  [mz, mi (.aload 0) 1, mi (.aload 0) 1, mj (.getfield 397) 3 12 87 127, mz, mz, mi (.aload 0) 1, mj (.getfield 400) 3 12 86 128, mz, mz, mi .isub 1, mi (.iconst 6) 2, mz, mi (.if_icmp .ge 26) 3, mz, mz],
  [mi (.iconst 10) 2, mz, mi (.aload 0) 1, mj (.getfield 412) 3 12 89 132, mz, mz, mi .imul 1, mi (.aload 0) 1, mj (.getfield 189) 3 12 76 60, mz, mz, mi (.aload 0) 1, mj (.getfield 397) 3 12 87 127, mz, mz, mi .baload 1],
  [mi .iadd 1, mi (.iconst 48) 2, mz, mi .isub 1, mi (.goto 7) 3, mz, mz, mi (.aload 0) 1, mj (.getfield 412) 3 12 89 132, mz, mz, mj (.putfield 412) 3 12 89 132, mz, mz, mi (.aload 0) 1, mi .dup 1],
  [mj (.getfield 397) 3 12 87 127, mz, mz, mi (.iconst 1) 1, mi .iadd 1, mj (.putfield 397) 3 12 87 127, mz, mz, mi (.goto (-81)) 3, mz, mz, mi (.aload 0) 1, mi (.aload 0) 1, mj (.getfield 397) 3 12 87 127, mz, mz],
  [mi (.aload 0) 1, mj (.getfield 400) 3 12 86 128, mz, mz, mi .isub 1, mi (.iconst 6) 2, mz, mi (.if_icmp .le 7) 3, mz, mz, mi (.iconst (-1)) 1, mi (.goto 4) 3, mz, mz, mi (.iconst 2) 1, mj (.putfield 403) 3 12 88 129],
  [mz, mz, mi .return_ 1, mi (.aload 0) 1, mi .dup 1, mj (.getfield 397) 3 12 87 127, mz, mz, mi (.iconst 1) 1, mi .iadd 1, mj (.putfield 397) 3 12 87 127, mz, mz, mi (.aload 0) 1, mi (.aload 0) 1, mj (.getfield 189) 3 12 76 60],
  [mz, mz, mi (.aload 0) 1, mj (.getfield 400) 3 12 86 128, mz, mz, mi .baload 1, mi (.iconst 32) 2, mz, mi (.if_icmp .le 15) 3, mz, mz, mi (.aload 0) 1, mj (.getfield 189) 3 12 76 60, mz, mz],
  [mi (.aload 0) 1, mj (.getfield 400) 3 12 86 128, mz, mz, mi .baload 1, mi (.goto 4) 3, mz, mz, mi (.iconst (-1)) 1, mj (.putfield 403) 3 12 88 129, mz, mz, mi .return_ 1]]
def kX12_isWord : List (List (Option mR)) := [[mi (.aload 0) 1, mj (.getfield 403) 3 12 88 129, mz, mz, mi (.iconst 1) 1, mi (.if_icmp .ne 17) 3, mz, mz, mi (.aload 0) 1, mj (.getfield 397) 3 12 87 127, mz, mz, mi (.aload 0) 1, mj (.getfield 400) 3 12 86 128, mz, mz],
  [mi .isub 1, mi (.iconst 12) 2, mz, mi (.if_icmp .le 5) 3, mz, mz, mi (.iconst 0) 1, mi .ireturn 1, mi (.jsr_w 0) 1, mi (.lstore 3) 1, mi (.aload 0) 1, mj (.getfield 400) 3 12 86 128, mz, mz, mi (.istore 5) 2, mz],
  [mi (.iload 5) 2, mz, mi (.aload 0) 1, mj (.getfield 397) 3 12 87 127, mz, mz, mi (.if_icmp .ge 28) 3, mz, mz, mj (.jsr_w 27) 3 0 0 133, mz, mz, mi (.lload 3) 1, mi .lmul 1, mi (.aload 0) 1, mj (.getfield 189) 3 12 76 60],
  [mz, mz, mi (.iload 5) 2, mz, mi .baload 1, mi .i2l 1, mi .ladd 1, mj (.jsr_w 96) 3 0 0 134, mz, mz, mi .lsub 1, mi (.lstore 3) 1, mi (.iinc 5 1) 3, mz, mz, mi (.goto (-31)) 3],
  [mz, mz, mi (.lload 3) 1, mi (.lload 1) 1, mi .lcmp 1, mi (.ifCond .ne 7) 3, mz, mz, mi (.iconst 1) 1, mi (.goto 4) 3, mz, mz, mi (.iconst 0) 1, mi .ireturn 1]]
def kX12_wrong : List (List (Option mR)) := [[mi (.aload 0) 1, mj (.getfield 419) 3 12 90 135, mz, mz, mi (.ifCond .ge 11) 3, mz, mz, mi (.aload 0) 1, mi (.aload 0) 1, mj (.getfield 400) 3 12 86 128, mz, mz, mj (.putfield 419) 3 12 90 135, mz, mz, mi .return_ 1]]
def kX12_lay : List (List (Option mR)) := [[mi (.aload 0) 1, mj (.getfield 205) 3 12 83 65, mz, mz, mi (.iconst 220) 3, mz, mz, mi (.aload 0) 1, mj (.getfield 422) 3 12 92 136, mz, mz, mi .imul 1, mi (.aload 0) 1, mj (.getfield 425) 3 12 93 137, mz, mz],
  [mi .iadd 1, mi (.iload 1) 1, mi .iastore 1, mi (.aload 0) 1, mj (.getfield 208) 3 12 84 66, mz, mz, mi (.iconst 220) 3, mz, mz, mi (.aload 0) 1, mj (.getfield 422) 3 12 92 136, mz, mz, mi .imul 1, mi (.aload 0) 1],
  [mj (.getfield 425) 3 12 93 137, mz, mz, mi .iadd 1, mi (.iload 2) 1, mi .iastore 1, mi (.aload 0) 1, mj (.getfield 211) 3 12 85 67, mz, mz, mi (.iconst 220) 3, mz, mz, mi (.aload 0) 1, mj (.getfield 422) 3 12 92 136, mz],
  [mz, mi .imul 1, mi (.aload 0) 1, mj (.getfield 425) 3 12 93 137, mz, mz, mi .iadd 1, mi (.iload 3) 1, mi .iastore 1, mi (.aload 0) 1, mi .dup 1, mj (.getfield 425) 3 12 93 137, mz, mz, mi (.iconst 1) 1, mi .iadd 1],
  [mj (.putfield 425) 3 12 93 137, mz, mz, mi .return_ 1]]
def kX12_takes : List (List (Option mR)) := [[mi (.aload 0) 1, mj (.getfield 403) 3 12 88 129, mz, mz, mi (.iload 1) 1, mi (.if_icmp .eq 9) 3, mz, mz, mi (.aload 0) 1, mj (.invokevirtual 428) 3 254 0 138, mz, mz, mi (.iconst 0) 1, mi .ireturn 1, mi (.aload 0) 1, mj (.invokevirtual 431) 3 252 0 139],
  [mz, mz, mi (.iconst 1) 1, mi .ireturn 1]]
def kX12_opens : List (List (Option mR)) := [[mi (.aload 0) 1, mj (.getfield 403) 3 12 88 129, mz, mz, mi (.iconst 40) 2, mz, mi (.if_icmp .ne 12) 3, mz, mz, mi (.aload 0) 1, mj (.getfield 434) 3 12 91 140, mz, mz, mi (.iconst 8) 2, mz, mi (.if_icmp .ne 9) 3],
  [mz, mz, mi (.aload 0) 1, mj (.invokevirtual 428) 3 254 0 138, mz, mz, mi (.iconst 0) 1, mi .ireturn 1, mi (.aload 0) 1, mi .dup 1, mj (.getfield 434) 3 12 91 140, mz, mz, mi (.iconst 1) 1, mi .iadd 1, mj (.putfield 434) 3 12 91 140],
  [mz, mz, mi (.aload 0) 1, mj (.invokevirtual 431) 3 252 0 139, mz, mz, mi (.iconst 1) 1, mi .ireturn 1]]
def kX12_closes : List (List (Option mR)) := [[mi (.aload 0) 1, mi (.iconst 41) 2, mz, mj (.invokevirtual 437) 3 256 1 141, mz, mz, mi (.ifCond .ne 5) 3, mz, mz, mi (.iconst 0) 1, mi .ireturn 1, mi (.aload 0) 1, mi .dup 1, mj (.getfield 434) 3 12 91 140, mz, mz],
  [mi (.iconst 1) 1, mi .isub 1, mj (.putfield 434) 3 12 91 140, mz, mz, mi (.iconst 1) 1, mi .ireturn 1]]
def kX12_nameOf : List (List (Option mR)) := [[mi (.iconst 0) 1, mi (.istore 1) 1, mi (.iload 1) 1, mi (.iconst 14) 2, mz, mi (.if_icmp .ge 23) 3, mz, mz, mi (.aload 0) 1, mj (.getstatic 440) 3 1 0 142, mz, mz, mi (.iload 1) 1, mi .laload 1, mj (.invokevirtual 443) 3 253 1 143, mz],
  [mz, mi (.ifCond .eq 5) 3, mz, mz, mi (.iload 1) 1, mi .ireturn 1, mi (.iinc 1 1) 3, mz, mz, mi (.goto (-23)) 3, mz, mz, mi (.iconst (-1)) 1, mi .ireturn 1]]
def kX12_operand : List (List (Option mR)) := [[mi (.aload 0) 1, mj (.getfield 403) 3 12 88 129, mz, mz, mi (.iconst 2) 1, mi (.if_icmp .ne 18) 3, mz, mz, mi (.aload 0) 1, mi (.iconst 1) 1, mi (.aload 0) 1, mj (.getfield 412) 3 12 89 132, mz, mz, mi (.iconst 0) 1, mj (.invokevirtual 447) 3 255 3 144],
  [mz, mz, mi (.aload 0) 1, mj (.invokevirtual 431) 3 252 0 139, mz, mz, mi .return_ 1, mi (.aload 0) 1, mj (.invokevirtual 451) 3 259 0 145, mz, mz, mi (.ifCond .lt 18) 3, mz, mz, mi (.aload 0) 1, mi (.iconst 2) 1],
  [mi (.aload 0) 1, mj (.invokevirtual 451) 3 259 0 145, mz, mz, mi (.iconst 0) 1, mj (.invokevirtual 447) 3 255 3 144, mz, mz, mi (.aload 0) 1, mj (.invokevirtual 431) 3 252 0 139, mz, mz, mi .return_ 1, mi (.aload 0) 1, mj (.jsr_w 6476969) 3 0 0 146, mz],
  [mz, mj (.invokevirtual 443) 3 253 1 143, mz, mz, mi (.ifCond .ne 13) 3, mz, mz, mi (.aload 0) 1, mj (.jsr_w 267347) 3 0 0 147, mz, mz, mj (.invokevirtual 443) 3 253 1 143, mz, mz, mi (.ifCond .eq 80) 3, mz],
  [mz, mi (.aload 0) 1, mj (.jsr_w 6476969) 3 0 0 146, mz, mz, mj (.invokevirtual 443) 3 253 1 143, mz, mz, mi (.ifCond .eq 7) 3, mz, mz, mi (.iconst 5) 1, mi (.goto 5) 3, mz, mz, mi (.iconst 6) 2],
  [mz, mi (.istore 1) 1, mi (.aload 0) 1, mj (.invokevirtual 431) 3 252 0 139, mz, mz, mi (.aload 0) 1, mj (.invokevirtual 459) 3 257 0 148, mz, mz, mi (.ifCond .ne 4) 3, mz, mz, mi .return_ 1, mi (.aload 0) 1, mj (.invokevirtual 463) 3 262 0 149],
  [mz, mz, mi (.aload 0) 1, mj (.getfield 419) 3 12 90 135, mz, mz, mi (.ifCond .ge 12) 3, mz, mz, mi (.aload 0) 1, mi (.iconst 44) 2, mz, mj (.invokevirtual 437) 3 256 1 141, mz, mz, mi (.ifCond .ne 4) 3],
  [mz, mz, mi .return_ 1, mi (.aload 0) 1, mj (.invokevirtual 463) 3 262 0 149, mz, mz, mi (.aload 0) 1, mj (.getfield 419) 3 12 90 135, mz, mz, mi (.ifCond .ge 10) 3, mz, mz, mi (.aload 0) 1, mj (.invokevirtual 466) 3 258 0 150],
  [mz, mz, mi (.ifCond .ne 4) 3, mz, mz, mi .return_ 1, mi (.aload 0) 1, mi (.iload 1) 1, mi (.iconst 0) 1, mi (.iconst 0) 1, mj (.invokevirtual 447) 3 255 3 144, mz, mz, mi .return_ 1, mi (.aload 0) 1, mj (.invokevirtual 459) 3 257 0 148],
  [mz, mz, mi (.ifCond .ne 4) 3, mz, mz, mi .return_ 1, mi (.aload 0) 1, mj (.invokevirtual 463) 3 262 0 149, mz, mz, mi (.aload 0) 1, mj (.getfield 419) 3 12 90 135, mz, mz, mi (.ifCond .lt 4) 3, mz],
  [mz, mi .return_ 1, mi (.aload 0) 1, mj (.invokevirtual 466) 3 258 0 150, mz, mz, mi (.ifCond .eq 4) 3, mz, mz, mi .return_ 1, mi .return_ 1]]
def kX12_product : List (List (Option mR)) := [[mi (.aload 0) 1, mj (.invokevirtual 469) 3 260 0 151, mz, mz, mi (.aload 0) 1, mj (.getfield 419) 3 12 90 135, mz, mz, mi (.ifCond .ge 44) 3, mz, mz, mi (.aload 0) 1, mj (.getfield 403) 3 12 88 129, mz, mz, mi (.iconst 42) 2],
  [mz, mi (.if_icmp .eq 12) 3, mz, mz, mi (.aload 0) 1, mj (.getfield 403) 3 12 88 129, mz, mz, mi (.iconst 47) 2, mz, mi (.if_icmp .ne 26) 3, mz, mz, mi (.aload 0) 1, mj (.getfield 403) 3 12 88 129, mz],
  [mz, mi (.istore 1) 1, mi (.aload 0) 1, mj (.invokevirtual 431) 3 252 0 139, mz, mz, mi (.aload 0) 1, mj (.invokevirtual 469) 3 260 0 151, mz, mz, mi (.aload 0) 1, mi (.iload 1) 1, mi (.iconst 0) 1, mi (.iconst 0) 1, mj (.invokevirtual 447) 3 255 3 144, mz],
  [mz, mi (.goto (-45)) 3, mz, mz, mi .return_ 1]]
def kX12_sum : List (List (Option mR)) := [[mi (.aload 0) 1, mj (.invokevirtual 472) 3 261 0 152, mz, mz, mi (.aload 0) 1, mj (.getfield 419) 3 12 90 135, mz, mz, mi (.ifCond .ge 44) 3, mz, mz, mi (.aload 0) 1, mj (.getfield 403) 3 12 88 129, mz, mz, mi (.iconst 43) 2],
  [mz, mi (.if_icmp .eq 12) 3, mz, mz, mi (.aload 0) 1, mj (.getfield 403) 3 12 88 129, mz, mz, mi (.iconst 45) 2, mz, mi (.if_icmp .ne 26) 3, mz, mz, mi (.aload 0) 1, mj (.getfield 403) 3 12 88 129, mz],
  [mz, mi (.istore 1) 1, mi (.aload 0) 1, mj (.invokevirtual 431) 3 252 0 139, mz, mz, mi (.aload 0) 1, mj (.invokevirtual 472) 3 261 0 152, mz, mz, mi (.aload 0) 1, mi (.iload 1) 1, mi (.iconst 0) 1, mi (.iconst 0) 1, mj (.invokevirtual 447) 3 255 3 144, mz],
  [mz, mi (.goto (-45)) 3, mz, mz, mi .return_ 1]]
def kX12_step : List (List (Option mR)) := [[mi (.aload 0) 1, mj (.jsr_w 131638) 3 0 0 153, mz, mz, mj (.invokevirtual 443) 3 253 1 143, mz, mz, mi (.ifCond .eq 81) 3, mz, mz, mi (.aload 0) 1, mj (.invokevirtual 431) 3 252 0 139, mz, mz, mi (.aload 0) 1, mj (.getfield 412) 3 12 89 132],
  [mz, mz, mi (.istore 1) 1, mi (.aload 0) 1, mi (.iconst 2) 1, mj (.invokevirtual 437) 3 256 1 141, mz, mz, mi (.ifCond .ne 4) 3, mz, mz, mi .return_ 1, mj (.iconst 1000000) 2 0 0 73, mz, mi (.istore 2) 1, mi (.aload 0) 1],
  [mj (.jsr_w 583) 3 0 0 154, mz, mz, mj (.invokevirtual 443) 3 253 1 143, mz, mz, mi (.ifCond .eq 10) 3, mz, mz, mi (.aload 0) 1, mj (.invokevirtual 431) 3 252 0 139, mz, mz, mi (.goto 36) 3, mz, mz],
  [mi (.aload 0) 1, mj (.jsr_w 555) 3 0 0 155, mz, mz, mj (.invokevirtual 443) 3 253 1 143, mz, mz, mi (.ifCond .eq 21) 3, mz, mz, mi (.aload 0) 1, mj (.invokevirtual 431) 3 252 0 139, mz, mz, mi (.aload 0) 1, mj (.getfield 412) 3 12 89 132],
  [mz, mz, mi (.istore 2) 1, mi (.aload 0) 1, mi (.iconst 2) 1, mj (.invokevirtual 437) 3 256 1 141, mz, mz, mi (.ifCond .ne 9) 3, mz, mz, mi .return_ 1, mi (.aload 0) 1, mj (.invokevirtual 428) 3 254 0 138, mz, mz],
  [mi .return_ 1, mi (.aload 0) 1, mi (.iconst 3) 1, mi (.iload 1) 1, mi (.iload 2) 1, mj (.invokevirtual 447) 3 255 3 144, mz, mz, mi (.aload 0) 1, mj (.invokevirtual 463) 3 262 0 149, mz, mz, mi (.aload 0) 1, mi (.iconst 4) 1, mi (.iconst 0) 1, mi (.iconst 0) 1],
  [mj (.invokevirtual 447) 3 255 3 144, mz, mz, mi .return_ 1]]
def kX12_terms : List (List (Option mR)) := [[mi (.iload 1) 1, mi (.iconst 0) 1, mi (.iconst 1) 1, mj (.invokestatic 224) 3 180 3 70, mz, mz, mi (.ifCond .eq 10) 3, mz, mz, mi (.iload 2) 1, mj (.invokestatic 246) 3 181 1 77, mz, mz, mi (.ifCond .ne 5) 3, mz, mz],
  [mi (.iconst (-1)) 1, mi .ireturn 1, mi (.aload 0) 1, mj (.getfield 481) 3 12 78 156, mz, mz, mi (.iconst 16) 2, mz, mi (.if_icmp .ne 6) 3, mz, mz, mi (.iconst (-3)) 2, mz, mi .ireturn 1, mi (.aload 0) 1, mi (.aload 0) 1],
  [mj (.getfield 481) 3 12 78 156, mz, mz, mj (.putfield 422) 3 12 92 136, mz, mz, mi (.aload 0) 1, mi (.iconst 0) 1, mj (.putfield 425) 3 12 93 137, mz, mz, mi (.aload 0) 1, mi (.iconst (-1)) 1, mj (.putfield 419) 3 12 90 135, mz, mz],
  [mi (.aload 0) 1, mi (.iconst 0) 1, mj (.putfield 434) 3 12 91 140, mz, mz, mi (.aload 0) 1, mi (.iconst 0) 1, mj (.putfield 397) 3 12 87 127, mz, mz, mi (.aload 0) 1, mj (.invokevirtual 431) 3 252 0 139, mz, mz, mi (.aload 0) 1, mj (.invokevirtual 484) 3 263 0 157],
  [mz, mz, mi (.aload 0) 1, mj (.getfield 419) 3 12 90 135, mz, mz, mi (.ifCond .ge 23) 3, mz, mz, mi (.aload 0) 1, mj (.getfield 403) 3 12 88 129, mz, mz, mi (.iconst 59) 2, mz, mi (.if_icmp .ne 14) 3],
  [mz, mz, mi (.aload 0) 1, mj (.invokevirtual 431) 3 252 0 139, mz, mz, mi (.aload 0) 1, mj (.invokevirtual 484) 3 263 0 157, mz, mz, mi (.goto (-24)) 3, mz, mz, mi (.aload 0) 1, mj (.getfield 419) 3 12 90 135, mz],
  [mz, mi (.ifCond .ge 14) 3, mz, mz, mi (.aload 0) 1, mj (.getfield 403) 3 12 88 129, mz, mz, mi (.ifCond .eq 7) 3, mz, mz, mi (.aload 0) 1, mj (.invokevirtual 428) 3 254 0 138, mz, mz, mi (.aload 0) 1],
  [mi (.iconst 0) 1, mj (.putfield 391) 3 12 77 125, mz, mz, mi (.aload 0) 1, mj (.getfield 419) 3 12 90 135, mz, mz, mi (.ifCond .lt 11) 3, mz, mz, mi (.iconst (-100)) 2, mz, mi (.aload 0) 1, mj (.getfield 419) 3 12 90 135, mz],
  [mz, mi .isub 1, mi .ireturn 1, mi (.aload 0) 1, mj (.getfield 193) 3 12 79 61, mz, mz, mi (.aload 0) 1, mj (.getfield 481) 3 12 78 156, mz, mz, mi (.iload 1) 1, mi .iastore 1, mi (.aload 0) 1, mj (.getfield 196) 3 12 80 62, mz],
  [mz, mi (.aload 0) 1, mj (.getfield 481) 3 12 78 156, mz, mz, mi (.aload 0) 1, mj (.invokevirtual 487) 3 182 0 158, mz, mz, mi .iastore 1, mi (.aload 0) 1, mj (.getfield 199) 3 12 81 63, mz, mz, mi (.aload 0) 1, mj (.getfield 481) 3 12 78 156],
  [mz, mz, mi (.iload 2) 1, mi .iastore 1, mi (.aload 0) 1, mj (.getfield 202) 3 12 82 64, mz, mz, mi (.aload 0) 1, mj (.getfield 481) 3 12 78 156, mz, mz, mi (.aload 0) 1, mj (.getfield 425) 3 12 93 137, mz, mz],
  [mi .iastore 1, mi (.aload 0) 1, mi .dup 1, mj (.getfield 481) 3 12 78 156, mz, mz, mi (.iconst 1) 1, mi .iadd 1, mj (.putfield 481) 3 12 78 156, mz, mz, mi (.aload 0) 1, mj (.getfield 481) 3 12 78 156, mz, mz, mi (.iconst 1) 1],
  [mi .isub 1, mi .ireturn 1]]
def kX12_both : List (List (Option mR)) := [[mi (.iload 0) 1, mi (.lookupswitch 96 #[(5, 85), (42, 59), (43, 51), (45, 55), (47, 63)]) 51, mz, mz, mz, mz, mz, mz, mz, mz, mz, mz, mz, mz, mz, mz],
  [mz, mz, mz, mz, mz, mz, mz, mz, mz, mz, mz, mz, mz, mz, mz, mz],
  [mz, mz, mz, mz, mz, mz, mz, mz, mz, mz, mz, mz, mz, mz, mz, mz],
  [mz, mz, mz, mz, mi (.iload 1) 1, mi (.iload 2) 1, mi .iadd 1, mi .ireturn 1, mi (.iload 1) 1, mi (.iload 2) 1, mi .isub 1, mi .ireturn 1, mi (.iload 1) 1, mi (.iload 2) 1, mi .imul 1, mi .ireturn 1],
  [mi (.iload 2) 1, mi (.ifCond .ne 7) 3, mz, mz, mi (.iconst 0) 1, mi (.goto 16) 3, mz, mz, mi (.iload 2) 1, mi (.iconst (-1)) 1, mi (.if_icmp .ne 8) 3, mz, mz, mi (.iload 1) 1, mi .ineg 1, mi (.goto 6) 3],
  [mz, mz, mi (.iload 1) 1, mi (.iload 2) 1, mi .idiv 1, mi .ireturn 1, mi (.iload 1) 1, mi (.iload 2) 1, mi (.if_icmp .ge 7) 3, mz, mz, mi (.iload 1) 1, mi (.goto 4) 3, mz, mz, mi (.iload 2) 1],
  [mi .ireturn 1, mi (.iload 1) 1, mi (.iload 2) 1, mi (.if_icmp .le 7) 3, mz, mz, mi (.iload 1) 1, mi (.goto 4) 3, mz, mz, mi (.iload 2) 1, mi .ireturn 1]]
def kX12_works : List (List (Option mR)) := [[mi (.iconst 0) 1, mi (.istore 2) 1, mi (.iconst 0) 1, mi (.istore 3) 1, mi (.iconst 220) 3, mz, mz, mi (.iload 1) 1, mi .imul 1, mi (.istore 4) 2, mz, mi (.iload 4) 2, mz, mi (.iconst 220) 3, mz, mz],
  [mi (.iload 1) 1, mi .imul 1, mi (.aload 0) 1, mj (.getfield 202) 3 12 82 64, mz, mz, mi (.iload 1) 1, mi .iaload 1, mi .iadd 1, mi (.if_icmp .ge 196) 3, mz, mz, mi (.aload 0) 1, mj (.getfield 205) 3 12 83 65, mz, mz],
  [mi (.iload 4) 2, mz, mi .iaload 1, mi (.istore 5) 2, mz, mi (.iload 5) 2, mz, mi (.iconst 1) 1, mi (.if_icmp .eq 9) 3, mz, mz, mi (.iload 5) 2, mz, mi (.iconst 2) 1, mi (.if_icmp .ne 43) 3, mz],
  [mz, mi (.aload 0) 1, mj (.getfield 217) 3 12 95 69, mz, mz, mi (.iload 2) 1, mi (.iload 5) 2, mz, mi (.iconst 1) 1, mi (.if_icmp .ne 13) 3, mz, mz, mi (.aload 0) 1, mj (.getfield 208) 3 12 84 66, mz, mz],
  [mi (.iload 4) 2, mz, mi .iaload 1, mi (.goto 15) 3, mz, mz, mi (.aload 0) 1, mj (.getfield 214) 3 12 94 68, mz, mz, mi (.aload 0) 1, mj (.getfield 208) 3 12 84 66, mz, mz, mi (.iload 4) 2, mz],
  [mi .iaload 1, mi .iaload 1, mi .iastore 1, mi (.iinc 2 1) 3, mz, mz, mi (.goto 129) 3, mz, mz, mi (.iload 5) 2, mz, mi (.iconst 3) 1, mi (.if_icmp .ne 38) 3, mz, mz, mi (.aload 0) 1],
  [mj (.getfield 214) 3 12 94 68, mz, mz, mi (.iconst 0) 1, mi .iaload 1, mi (.aload 0) 1, mj (.getfield 208) 3 12 84 66, mz, mz, mi (.iload 4) 2, mz, mi .iaload 1, mi (.aload 0) 1, mj (.getfield 211) 3 12 85 67, mz, mz],
  [mi (.iload 4) 2, mz, mi .iaload 1, mj (.invokestatic 224) 3 180 3 70, mz, mz, mi (.ifCond .ne 7) 3, mz, mz, mi (.iconst 1) 1, mi (.goto 4) 3, mz, mz, mi (.iconst 0) 1, mi (.istore 3) 1, mi (.goto 88) 3],
  [mz, mz, mi (.iload 5) 2, mz, mi (.iconst 4) 1, mi (.if_icmp .ne 52) 3, mz, mz, mi (.iload 3) 1, mi (.ifCond .ne 41) 3, mz, mz, mi (.aload 0) 1, mj (.getfield 217) 3 12 95 69, mz, mz],
  [mi (.iconst 0) 1, mi .iaload 1, mi (.ifCond .ge 7) 3, mz, mz, mi (.iconst 0) 1, mi (.goto 27) 3, mz, mz, mi (.aload 0) 1, mj (.getfield 217) 3 12 95 69, mz, mz, mi (.iconst 0) 1, mi .iaload 1, mj (.iconst 9999999) 3 0 0 159],
  [mz, mz, mi (.if_icmp .le 9) 3, mz, mz, mj (.iconst 9999999) 3 0 0 159, mz, mz, mi (.goto 9) 3, mz, mz, mi (.aload 0) 1, mj (.getfield 217) 3 12 95 69, mz, mz, mi (.iconst 0) 1],
  [mi .iaload 1, mi .ireturn 1, mi (.iconst 0) 1, mi (.istore 3) 1, mi (.iconst 0) 1, mi (.istore 2) 1, mi (.goto 33) 3, mz, mz, mi (.iinc 2 (-1)) 3, mz, mz, mi (.aload 0) 1, mj (.getfield 217) 3 12 95 69, mz, mz],
  [mi (.iload 2) 1, mi (.iconst 1) 1, mi .isub 1, mi (.iload 5) 2, mz, mi (.aload 0) 1, mj (.getfield 217) 3 12 95 69, mz, mz, mi (.iload 2) 1, mi (.iconst 1) 1, mi .isub 1, mi .iaload 1, mi (.aload 0) 1, mj (.getfield 217) 3 12 95 69, mz],
  [mz, mi (.iload 2) 1, mi .iaload 1, mj (.invokestatic 491) 3 265 3 160, mz, mz, mi .iastore 1, mi (.iinc 4 1) 3, mz, mz, mi (.goto (-207)) 3, mz, mz, mi (.iconst 0) 1, mi .ireturn 1]]
def kX12_hoursOf : List (List (Option mR)) := [[mi (.aload 0) 1, mi (.aload 0) 1, mj (.getfield 146) 3 12 56 46, mz, mz, mi (.iload 1) 1, mi .iaload 1, mi (.aload 0) 1, mi (.iload 1) 1, mj (.invokevirtual 376) 3 240 1 120, mz, mz, mj (.invokevirtual 287) 3 196 2 91, mz, mz, mi (.istore 2) 1],
  [mi (.aload 0) 1, mi (.aload 0) 1, mj (.getfield 146) 3 12 56 46, mz, mz, mi (.iload 1) 1, mi .iaload 1, mi (.aload 0) 1, mj (.getfield 149) 3 12 57 47, mz, mz, mi (.iload 1) 1, mi .iaload 1, mj (.invokevirtual 287) 3 196 2 91, mz, mz],
  [mi (.istore 3) 1, mi (.iload 2) 1, mi (.ifCond .ge 7) 3, mz, mz, mi (.iconst 0) 1, mi (.goto 9) 3, mz, mz, mi (.aload 0) 1, mj (.getfield 98) 3 12 36 30, mz, mz, mi (.iload 2) 1, mi .iaload 1, mi (.iload 3) 1],
  [mi (.ifCond .ge 7) 3, mz, mz, mi (.iconst 0) 1, mi (.goto 9) 3, mz, mz, mi (.aload 0) 1, mj (.getfield 98) 3 12 36 30, mz, mz, mi (.iload 3) 1, mi .iaload 1, mi .isub 1, mi .ireturn 1]]
def kX12_rainOf : List (List (Option mR)) := [[mi (.iconst 0) 1, mi (.istore 2) 1, mi (.aload 0) 1, mi (.iload 1) 1, mj (.invokevirtual 376) 3 240 1 120, mz, mz, mi (.aload 0) 1, mj (.getfield 149) 3 12 57 47, mz, mz, mi (.iload 1) 1, mi .iaload 1, mi (.if_icmp .le 50) 3, mz, mz],
  [mi (.aload 0) 1, mj (.getfield 149) 3 12 57 47, mz, mz, mi (.iload 1) 1, mi .iaload 1, mi (.iconst 24) 2, mz, mi .idiv 1, mi (.istore 3) 1, mi (.iload 3) 1, mi (.aload 0) 1, mi (.iload 1) 1, mj (.invokevirtual 376) 3 240 1 120, mz, mz],
  [mi (.iconst 1) 1, mi .isub 1, mi (.iconst 24) 2, mz, mi .idiv 1, mi (.if_icmp .gt 26) 3, mz, mz, mi (.iload 2) 1, mi (.aload 0) 1, mj (.getfield 20) 3 12 6 4, mz, mz, mi (.iload 3) 1, mi .baload 1, mi (.ifCond .eq 7) 3],
  [mz, mz, mi (.iconst 1) 1, mi (.goto 4) 3, mz, mz, mi (.iconst 0) 1, mi .iadd 1, mi (.istore 2) 1, mi (.iinc 3 1) 3, mz, mz, mi (.goto (-34)) 3, mz, mz, mi (.iload 2) 1],
  [mi .ireturn 1]]
def kX12_brokenOf : List (List (Option mR)) := [[mi (.iconst 0) 1, mi (.istore 2) 1, mi (.iconst 0) 1, mi (.istore 3) 1, mi (.iload 3) 1, mi (.aload 0) 1, mj (.getfield 277) 3 12 37 88, mz, mz, mi (.if_icmp .ge 124) 3, mz, mz, mi (.aload 0) 1, mj (.getfield 101) 3 12 38 31, mz, mz],
  [mi (.iload 3) 1, mi .iaload 1, mi (.aload 0) 1, mj (.getfield 146) 3 12 56 46, mz, mz, mi (.iload 1) 1, mi .iaload 1, mi (.if_icmp .eq 6) 3, mz, mz, mi (.goto 100) 3, mz, mz, mi (.aload 0) 1, mj (.getfield 104) 3 12 39 32],
  [mz, mz, mi (.iload 3) 1, mi .iaload 1, mi (.aload 0) 1, mj (.getfield 149) 3 12 57 47, mz, mz, mi (.iload 1) 1, mi .iaload 1, mi (.if_icmp .le 12) 3, mz, mz, mi (.aload 0) 1, mj (.getfield 104) 3 12 39 32, mz],
  [mz, mi (.iload 3) 1, mi .iaload 1, mi (.goto 9) 3, mz, mz, mi (.aload 0) 1, mj (.getfield 149) 3 12 57 47, mz, mz, mi (.iload 1) 1, mi .iaload 1, mi (.istore 4) 2, mz, mi (.aload 0) 1, mj (.getfield 107) 3 12 40 33],
  [mz, mz, mi (.iload 3) 1, mi .iaload 1, mi (.ifCond .ge 10) 3, mz, mz, mi (.aload 0) 1, mj (.getfield 228) 3 12 1 71, mz, mz, mi (.goto 9) 3, mz, mz, mi (.aload 0) 1, mj (.getfield 107) 3 12 40 33],
  [mz, mz, mi (.iload 3) 1, mi .iaload 1, mi (.istore 5) 2, mz, mi (.iload 5) 2, mz, mi (.aload 0) 1, mi (.iload 1) 1, mj (.invokevirtual 376) 3 240 1 120, mz, mz, mi (.if_icmp .ge 8) 3, mz, mz],
  [mi (.iload 5) 2, mz, mi (.goto 8) 3, mz, mz, mi (.aload 0) 1, mi (.iload 1) 1, mj (.invokevirtual 376) 3 240 1 120, mz, mz, mi (.istore 6) 2, mz, mi (.iload 2) 1, mi (.iload 6) 2, mz, mi (.iload 4) 2],
  [mz, mi (.if_icmp .le 11) 3, mz, mz, mi (.iload 6) 2, mz, mi (.iload 4) 2, mz, mi .isub 1, mi (.goto 4) 3, mz, mz, mi (.iconst 0) 1, mi .iadd 1, mi (.istore 2) 1, mi (.iinc 3 1) 3],
  [mz, mz, mi (.goto (-126)) 3, mz, mz, mi (.iload 2) 1, mi .ireturn 1]]
def kX12_marksFound : List (List (Option mR)) := [[mi (.aload 0) 1, mj (.getfield 158) 3 12 60 50, mz, mz, mi (.iconst 2) 1, mi (.iload 1) 1, mi .imul 1, mi .iaload 1, mi (.ifCond .lt 16) 3, mz, mz, mi (.aload 0) 1, mj (.getfield 158) 3 12 60 50, mz, mz, mi (.iconst 2) 1],
  [mi (.iload 1) 1, mi .imul 1, mi (.iconst 1) 1, mi .iadd 1, mi .iaload 1, mi (.ifCond .ge 7) 3, mz, mz, mi (.iconst 0) 1, mi (.goto 24) 3, mz, mz, mi (.aload 0) 1, mj (.getfield 158) 3 12 60 50, mz, mz],
  [mi (.iconst 2) 1, mi (.iload 1) 1, mi .imul 1, mi (.iconst 1) 1, mi .iadd 1, mi .iaload 1, mi (.aload 0) 1, mj (.getfield 158) 3 12 60 50, mz, mz, mi (.iconst 2) 1, mi (.iload 1) 1, mi .imul 1, mi .iaload 1, mi (.iconst (-1)) 1, mi .ixor 1],
  [mi .iand 1, mi .ireturn 1]]
def kX12_harmOf : List (List (Option mR)) := [[mi (.iconst 0) 1, mi (.istore 2) 1, mi (.iconst 0) 1, mi (.istore 3) 1, mi (.iload 3) 1, mi (.iconst 16) 2, mz, mi (.if_icmp .ge 59) 3, mz, mz, mi (.aload 0) 1, mj (.getfield 146) 3 12 56 46, mz, mz, mi (.iload 1) 1, mi .iaload 1],
  [mi (.ifCond .lt 50) 3, mz, mz, mi (.iload 2) 1, mi (.aload 0) 1, mi (.iload 1) 1, mj (.invokevirtual 495) 3 270 1 161, mz, mz, mi (.iload 3) 1, mi .ishr 1, mi (.iconst 1) 1, mi .iand 1, mi (.iconst 1) 1, mi (.if_icmp .ne 27) 3, mz],
  [mz, mi (.aload 0) 1, mj (.getfield 41) 3 12 14 11, mz, mz, mi (.iconst 16) 2, mz, mi (.aload 0) 1, mj (.getfield 44) 3 12 16 12, mz, mz, mi (.aload 0) 1, mj (.getfield 146) 3 12 56 46, mz, mz, mi (.iload 1) 1],
  [mi .iaload 1, mi .iaload 1, mi .imul 1, mi (.iload 3) 1, mi .iadd 1, mi .iaload 1, mi (.goto 4) 3, mz, mz, mi (.iconst 0) 1, mi .iadd 1, mi (.istore 2) 1, mi (.iinc 3 1) 3, mz, mz, mi (.goto (-59)) 3],
  [mz, mz, mi (.iload 2) 1, mi .ireturn 1]]
def kX12_fuelOf : List (List (Option mR)) := [[mi (.aload 0) 1, mj (.getfield 161) 3 12 61 51, mz, mz, mi (.iconst 2) 1, mi (.iload 1) 1, mi .imul 1, mi .iaload 1, mi (.ifCond .lt 37) 3, mz, mz, mi (.aload 0) 1, mj (.getfield 161) 3 12 61 51, mz, mz, mi (.iconst 2) 1],
  [mi (.iload 1) 1, mi .imul 1, mi (.iconst 1) 1, mi .iadd 1, mi .iaload 1, mi (.ifCond .lt 24) 3, mz, mz, mi (.aload 0) 1, mj (.getfield 161) 3 12 61 51, mz, mz, mi (.iconst 2) 1, mi (.iload 1) 1, mi .imul 1, mi (.iconst 1) 1],
  [mi .iadd 1, mi .iaload 1, mi (.aload 0) 1, mj (.getfield 161) 3 12 61 51, mz, mz, mi (.iconst 2) 1, mi (.iload 1) 1, mi .imul 1, mi .iaload 1, mi (.if_icmp .lt 7) 3, mz, mz, mi (.iconst 0) 1, mi (.goto 22) 3, mz],
  [mz, mi (.aload 0) 1, mj (.getfield 161) 3 12 61 51, mz, mz, mi (.iconst 2) 1, mi (.iload 1) 1, mi .imul 1, mi .iaload 1, mi (.aload 0) 1, mj (.getfield 161) 3 12 61 51, mz, mz, mi (.iconst 2) 1, mi (.iload 1) 1, mi .imul 1],
  [mi (.iconst 1) 1, mi .iadd 1, mi .iaload 1, mi .isub 1, mi .ireturn 1]]
def kX12_tell : List (List (Option mR)) := [[mi (.aload 0) 1, mj (.getfield 146) 3 12 56 46, mz, mz, mi (.iload 1) 1, mi .iaload 1, mi (.istore 4) 2, mz, mi (.aload 0) 1, mj (.getfield 214) 3 12 94 68, mz, mz, mi (.iconst 0) 1, mi (.iload 2) 1, mi .iastore 1, mi (.aload 0) 1],
  [mj (.getfield 214) 3 12 94 68, mz, mz, mi (.iconst 1) 1, mi (.iload 3) 1, mi .iastore 1, mi (.aload 0) 1, mj (.getfield 214) 3 12 94 68, mz, mz, mi (.iconst 2) 1, mi (.iload 3) 1, mi (.iconst 7) 2, mz, mi .idiv 1, mi .iastore 1],
  [mi (.aload 0) 1, mj (.getfield 214) 3 12 94 68, mz, mz, mi (.iconst 3) 1, mi (.iload 3) 1, mi (.iconst 7) 2, mz, mi .irem 1, mi .iastore 1, mi (.aload 0) 1, mj (.getfield 214) 3 12 94 68, mz, mz, mi (.iconst 4) 1, mi (.aload 0) 1],
  [mj (.getfield 29) 3 12 10 7, mz, mz, mi (.aload 0) 1, mj (.getfield 128) 3 12 50 40, mz, mz, mi (.iload 1) 1, mi .iaload 1, mi .iaload 1, mi .iastore 1, mi (.aload 0) 1, mj (.getfield 214) 3 12 94 68, mz, mz, mi (.iconst 5) 1],
  [mi (.aload 0) 1, mi (.iload 1) 1, mj (.invokevirtual 498) 3 267 1 162, mz, mz, mi .iastore 1, mi (.aload 0) 1, mi (.iload 1) 1, mj (.invokevirtual 498) 3 267 1 162, mz, mz, mi (.iload 3) 1, mi (.aload 0) 1, mj (.getfield 137) 3 12 53 43, mz, mz],
  [mi (.iload 1) 1, mi .iaload 1, mi .imul 1, mi .isub 1, mi (.istore 5) 2, mz, mi (.aload 0) 1, mj (.getfield 214) 3 12 94 68, mz, mz, mi (.iconst 6) 2, mz, mi (.iload 5) 2, mz, mi (.ifCond .ge 7) 3, mz],
  [mz, mi (.iconst 0) 1, mi (.goto 5) 3, mz, mz, mi (.iload 5) 2, mz, mi .iastore 1, mi (.aload 0) 1, mj (.getfield 214) 3 12 94 68, mz, mz, mi (.iconst 7) 2, mz, mi (.aload 0) 1, mi (.iload 1) 1],
  [mj (.invokevirtual 501) 3 268 1 163, mz, mz, mi .iastore 1, mi (.aload 0) 1, mj (.getfield 214) 3 12 94 68, mz, mz, mi (.iconst 8) 2, mz, mi (.aload 0) 1, mi (.iload 1) 1, mj (.invokevirtual 504) 3 269 1 164, mz, mz, mi .iastore 1],
  [mi (.aload 0) 1, mj (.getfield 214) 3 12 94 68, mz, mz, mi (.iconst 9) 2, mz, mi (.aload 0) 1, mi (.iload 1) 1, mj (.invokevirtual 507) 3 272 1 165, mz, mz, mi .iastore 1, mi (.aload 0) 1, mj (.getfield 214) 3 12 94 68, mz, mz],
  [mi (.iconst 10) 2, mz, mi (.aload 0) 1, mi (.iload 1) 1, mj (.invokevirtual 510) 3 271 1 166, mz, mz, mi .iastore 1, mi (.aload 0) 1, mj (.getfield 214) 3 12 94 68, mz, mz, mi (.iconst 11) 2, mz, mi (.aload 0) 1, mj (.getfield 35) 3 12 12 9],
  [mz, mz, mi (.aload 0) 1, mj (.getfield 44) 3 12 16 12, mz, mz, mi (.iload 4) 2, mz, mi .iaload 1, mi .iaload 1, mi .iastore 1, mi (.aload 0) 1, mj (.getfield 214) 3 12 94 68, mz, mz, mi (.iconst 12) 2],
  [mz, mi (.aload 0) 1, mj (.getfield 83) 3 12 29 25, mz, mz, mi (.iload 4) 2, mz, mi .iaload 1, mi (.ifCond .ne 7) 3, mz, mz, mi (.iconst 1) 1, mi (.goto 4) 3, mz, mz, mi (.iconst 0) 1],
  [mi .iastore 1, mi (.aload 0) 1, mj (.getfield 214) 3 12 94 68, mz, mz, mi (.iconst 13) 2, mz, mi (.aload 0) 1, mj (.getfield 44) 3 12 16 12, mz, mz, mi (.iload 4) 2, mz, mi .iaload 1, mi (.aload 0) 1, mj (.getfield 128) 3 12 50 40],
  [mz, mz, mi (.iload 1) 1, mi .iaload 1, mi (.if_icmp .eq 7) 3, mz, mz, mi (.iconst 1) 1, mi (.goto 4) 3, mz, mz, mi (.iconst 0) 1, mi .iastore 1, mi .return_ 1]]
def kX12_gives : List (List (Option mR)) := [[mi (.iload 1) 1, mi (.iconst 0) 1, mi (.aload 0) 1, mj (.getfield 481) 3 12 78 156, mz, mz, mi (.iconst 1) 1, mi .isub 1, mj (.invokestatic 224) 3 180 3 70, mz, mz, mi (.ifCond .eq 30) 3, mz, mz, mi (.aload 0) 1, mi (.iload 2) 1],
  [mj (.invokevirtual 318) 3 216 1 101, mz, mz, mi (.ifCond .eq 22) 3, mz, mz, mi (.iload 3) 1, mi (.iconst 0) 1, mi (.iconst 999) 3, mz, mz, mj (.invokestatic 224) 3 180 3 70, mz, mz, mi (.ifCond .eq 11) 3, mz],
  [mz, mi (.aload 0) 1, mi (.iload 2) 1, mj (.invokevirtual 284) 3 236 1 90, mz, mz, mi (.ifCond .ne 7) 3, mz, mz, mj (.iconst (-2000000000)) 3 0 0 86, mz, mz, mi .ireturn 1, mi (.aload 0) 1, mi (.iload 2) 1, mi (.iload 3) 1],
  [mi (.aload 0) 1, mi (.iload 2) 1, mj (.invokevirtual 382) 3 241 1 122, mz, mz, mj (.invokevirtual 513) 3 273 3 167, mz, mz, mi (.aload 0) 1, mi (.iload 1) 1, mj (.invokevirtual 516) 3 266 1 168, mz, mz, mi .ireturn 1]]
def kX12_lesser : List (List (Option mR)) := [[mi (.iconst 0) 1, mi (.istore 4) 2, mz, mi (.iconst 0) 1, mi (.istore 5) 2, mz, mi (.aload 0) 1, mi (.iconst (-1)) 1, mj (.putfield 519) 3 12 96 169, mz, mz, mi (.aload 0) 1, mj (.getfield 481) 3 12 78 156, mz, mz, mi (.iconst 1) 1],
  [mi .isub 1, mi (.istore 6) 2, mz, mi (.iload 6) 2, mz, mi (.ifCond .lt 92) 3, mz, mz, mi (.iload 4) 2, mz, mi (.iconst 2) 1, mi (.if_icmp .ge 86) 3, mz, mz, mi (.aload 0) 1, mj (.getfield 193) 3 12 79 61],
  [mz, mz, mi (.iload 6) 2, mz, mi .iaload 1, mi (.iload 1) 1, mi (.if_icmp .ne 69) 3, mz, mz, mi (.aload 0) 1, mj (.getfield 196) 3 12 80 62, mz, mz, mi (.iload 6) 2, mz, mi .iaload 1],
  [mi (.iload 3) 1, mi (.if_icmp .gt 58) 3, mz, mz, mi (.aload 0) 1, mj (.getfield 199) 3 12 81 63, mz, mz, mi (.iload 6) 2, mz, mi .iaload 1, mi (.aload 0) 1, mj (.getfield 149) 3 12 57 47, mz, mz, mi (.iload 2) 1],
  [mi .iaload 1, mi (.iconst 24) 2, mz, mi .idiv 1, mi (.if_icmp .le 6) 3, mz, mz, mi (.goto 36) 3, mz, mz, mi (.aload 0) 1, mi (.iload 6) 2, mz, mj (.invokevirtual 516) 3 266 1 168, mz, mz],
  [mi (.istore 7) 2, mz, mi (.iload 4) 2, mz, mi (.ifCond .eq 10) 3, mz, mz, mi (.iload 7) 2, mz, mi (.iload 5) 2, mz, mi (.if_icmp .ge 13) 3, mz, mz, mi (.iload 7) 2, mz],
  [mi (.istore 5) 2, mz, mi (.aload 0) 1, mi (.iload 6) 2, mz, mj (.putfield 519) 3 12 96 169, mz, mz, mi (.iinc 4 1) 3, mz, mz, mi (.iinc 6 (-1)) 3, mz, mz, mi (.goto (-91)) 3, mz],
  [mz, mi (.iload 5) 2, mz, mi .ireturn 1]]
def kX12_bill : List (List (Option mR)) := [[mi (.aload 0) 1, mi (.iload 1) 1, mj (.invokevirtual 318) 3 216 1 101, mz, mz, mi (.ifCond .eq 27) 3, mz, mz, mi (.iload 2) 1, mj (.invokestatic 246) 3 181 1 77, mz, mz, mi (.ifCond .eq 20) 3, mz, mz, mi (.iload 3) 1],
  [mi (.iconst 0) 1, mi (.iconst 5) 1, mj (.invokestatic 224) 3 180 3 70, mz, mz, mi (.ifCond .eq 11) 3, mz, mz, mi (.aload 0) 1, mi (.iload 1) 1, mj (.invokevirtual 284) 3 236 1 90, mz, mz, mi (.ifCond .ne 7) 3, mz, mz],
  [mj (.iconst (-2000000000)) 3 0 0 86, mz, mz, mi .ireturn 1, mi (.aload 0) 1, mi (.iload 1) 1, mi (.aload 0) 1, mi (.iload 1) 1, mi (.iload 3) 1, mi (.iconst 3) 1, mi (.if_icmp .ne 7) 3, mz, mz, mi (.iconst 0) 1, mi (.goto 13) 3, mz],
  [mz, mi (.iload 3) 1, mi (.iconst 4) 1, mi (.if_icmp .ne 7) 3, mz, mz, mi (.iconst 1) 1, mi (.goto 4) 3, mz, mz, mi (.iconst 2) 1, mj (.invokevirtual 388) 3 244 2 124, mz, mz, mi (.aload 0) 1, mi (.iload 1) 1],
  [mj (.invokevirtual 382) 3 241 1 122, mz, mz, mj (.invokevirtual 513) 3 273 3 167, mz, mz, mi (.iload 3) 1, mi (.iconst 1) 1, mi (.if_icmp .ne 11) 3, mz, mz, mi (.aload 0) 1, mi (.iconst 1) 1, mi (.iload 1) 1, mi (.iload 2) 1, mj (.invokevirtual 522) 3 275 3 170],
  [mz, mz, mi .ireturn 1, mi (.aload 0) 1, mi (.iconst 0) 1, mi (.iload 1) 1, mi (.iload 2) 1, mj (.invokevirtual 522) 3 275 3 170, mz, mz, mi (.istore 4) 2, mz, mi (.iload 3) 1, mi (.iconst 5) 1, mi (.if_icmp .ne 8) 3, mz],
  [mz, mi (.aload 0) 1, mj (.getfield 519) 3 12 96 169, mz, mz, mi .ireturn 1, mi (.iload 3) 1, mi (.iconst 2) 1, mi (.if_icmp .ne 16) 3, mz, mz, mi (.iload 4) 2, mz, mi (.aload 0) 1, mi (.iconst 1) 1, mi (.iload 1) 1],
  [mi (.iload 2) 1, mj (.invokevirtual 522) 3 275 3 170, mz, mz, mi .iadd 1, mi (.goto 5) 3, mz, mz, mi (.iload 4) 2, mz, mi .ireturn 1]]
def kX12_next : List (List (Option mR)) := [[mi (.aload 0) 1, mi (.iload 1) 1, mj (.invokevirtual 318) 3 216 1 101, mz, mz, mi (.ifCond .eq 13) 3, mz, mz, mi (.iload 2) 1, mi (.iconst 1) 1, mi (.iconst 60) 2, mz, mj (.invokestatic 224) 3 180 3 70, mz, mz, mi (.ifCond .ne 5) 3],
  [mz, mz, mi (.iconst (-1)) 1, mi .ireturn 1, mi (.aload 0) 1, mi (.iload 1) 1, mj (.invokevirtual 284) 3 236 1 90, mz, mz, mi (.ifCond .ne 6) 3, mz, mz, mi (.iconst (-2)) 2, mz, mi .ireturn 1, mi (.aload 0) 1],
  [mi (.iload 1) 1, mi (.iload 2) 1, mi (.iload 2) 1, mj (.invokevirtual 513) 3 273 3 167, mz, mz, mi (.aload 0) 1, mi (.iconst 0) 1, mi (.iload 1) 1, mi (.aload 0) 1, mj (.invokevirtual 487) 3 182 0 158, mz, mz, mj (.invokevirtual 522) 3 275 3 170, mz, mz],
  [mi (.istore 3) 1, mi (.iload 2) 1, mi (.iconst 1) 1, mi .iadd 1, mi (.istore 4) 2, mz, mi (.iload 4) 2, mz, mi (.iload 2) 1, mi (.iconst 6) 2, mz, mi .iadd 1, mi (.if_icmp .gt 35) 3, mz, mz, mi (.aload 0) 1],
  [mi (.iload 1) 1, mi (.iload 4) 2, mz, mi (.iload 4) 2, mz, mj (.invokevirtual 513) 3 273 3 167, mz, mz, mi (.aload 0) 1, mi (.iconst 0) 1, mi (.iload 1) 1, mi (.aload 0) 1, mj (.invokevirtual 487) 3 182 0 158, mz, mz, mj (.invokevirtual 522) 3 275 3 170],
  [mz, mz, mi (.iload 3) 1, mi (.if_icmp .ge 6) 3, mz, mz, mi (.iload 4) 2, mz, mi .ireturn 1, mi (.iinc 4 1) 3, mz, mz, mi (.goto (-38)) 3, mz, mz, mi (.iconst (-2)) 2],
  [mz, mi .ireturn 1]]
def kX12_mayTell : List (List (Option mR)) := [[mi (.iload 2) 1, mi (.ifCond .ne 29) 3, mz, mz, mi (.aload 0) 1, mj (.getfield 143) 3 12 55 45, mz, mz, mi (.iload 1) 1, mi .iaload 1, mi (.iconst 1) 1, mi (.if_icmp .eq 13) 3, mz, mz, mi (.aload 0) 1, mj (.getfield 143) 3 12 55 45],
  [mz, mz, mi (.iload 1) 1, mi .iaload 1, mi (.iconst 2) 1, mi (.if_icmp .ne 7) 3, mz, mz, mi (.iconst 1) 1, mi (.goto 4) 3, mz, mz, mi (.iconst 0) 1, mi .ireturn 1, mi (.aload 0) 1, mj (.getfield 143) 3 12 55 45],
  [mz, mz, mi (.iload 1) 1, mi .iaload 1, mi (.iconst 3) 1, mi (.if_icmp .ne 22) 3, mz, mz, mi (.aload 0) 1, mj (.getfield 77) 3 12 27 23, mz, mz, mi (.aload 0) 1, mj (.getfield 146) 3 12 56 46, mz, mz],
  [mi (.iload 1) 1, mi .iaload 1, mi .iaload 1, mi (.iload 1) 1, mi (.if_icmp .ne 7) 3, mz, mz, mi (.iconst 1) 1, mi (.goto 4) 3, mz, mz, mi (.iconst 0) 1, mi .ireturn 1]]
def kX12_looked : List (List (Option mR)) := [[mi (.aload 0) 1, mi (.iload 1) 1, mj (.invokevirtual 318) 3 216 1 101, mz, mz, mi (.ifCond .eq 23) 3, mz, mz, mi (.iload 2) 1, mi (.iconst 0) 1, mi (.iconst 1) 1, mj (.invokestatic 224) 3 180 3 70, mz, mz, mi (.ifCond .eq 14) 3, mz],
  [mz, mi (.iload 3) 1, mi (.iconst 0) 1, mj (.iconst 65535) 3 0 0 171, mz, mz, mj (.invokestatic 224) 3 180 3 70, mz, mz, mi (.ifCond .ne 5) 3, mz, mz, mi (.iconst (-1)) 1, mi .ireturn 1, mi (.aload 0) 1, mi (.iload 1) 1],
  [mi (.iload 2) 1, mj (.invokevirtual 526) 3 278 2 172, mz, mz, mi (.ifCond .eq 16) 3, mz, mz, mi (.aload 0) 1, mj (.getfield 158) 3 12 60 50, mz, mz, mi (.iconst 2) 1, mi (.iload 1) 1, mi .imul 1, mi (.iload 2) 1, mi .iadd 1],
  [mi .iaload 1, mi (.ifCond .lt 6) 3, mz, mz, mi (.iconst (-2)) 2, mz, mi .ireturn 1, mi (.aload 0) 1, mj (.getfield 158) 3 12 60 50, mz, mz, mi (.iconst 2) 1, mi (.iload 1) 1, mi .imul 1, mi (.iload 2) 1, mi .iadd 1],
  [mi (.iload 3) 1, mi .iastore 1, mi (.iconst 1) 1, mi .ireturn 1]]
def kX12_fuel : List (List (Option mR)) := [[mi (.aload 0) 1, mi (.iload 1) 1, mj (.invokevirtual 318) 3 216 1 101, mz, mz, mi (.ifCond .eq 23) 3, mz, mz, mi (.iload 2) 1, mi (.iconst 0) 1, mi (.iconst 1) 1, mj (.invokestatic 224) 3 180 3 70, mz, mz, mi (.ifCond .eq 14) 3, mz],
  [mz, mi (.iload 3) 1, mi (.iconst 0) 1, mi (.iconst 999) 3, mz, mz, mj (.invokestatic 224) 3 180 3 70, mz, mz, mi (.ifCond .ne 5) 3, mz, mz, mi (.iconst (-1)) 1, mi .ireturn 1, mi (.aload 0) 1, mi (.iload 1) 1],
  [mi (.iload 2) 1, mj (.invokevirtual 526) 3 278 2 172, mz, mz, mi (.ifCond .eq 16) 3, mz, mz, mi (.aload 0) 1, mj (.getfield 161) 3 12 61 51, mz, mz, mi (.iconst 2) 1, mi (.iload 1) 1, mi .imul 1, mi (.iload 2) 1, mi .iadd 1],
  [mi .iaload 1, mi (.ifCond .lt 6) 3, mz, mz, mi (.iconst (-2)) 2, mz, mi .ireturn 1, mi (.aload 0) 1, mj (.getfield 161) 3 12 61 51, mz, mz, mi (.iconst 2) 1, mi (.iload 1) 1, mi .imul 1, mi (.iload 2) 1, mi .iadd 1],
  [mi (.iload 3) 1, mi .iastore 1, mi (.iconst 1) 1, mi .ireturn 1]]
def kX12_harm : List (List (Option mR)) := [[mi (.aload 0) 1, mi (.iload 1) 1, mj (.invokevirtual 318) 3 216 1 101, mz, mz, mi (.ifCond .eq 12) 3, mz, mz, mi (.iload 2) 1, mi (.iconst 0) 1, mi (.iconst 2) 1, mj (.invokestatic 224) 3 180 3 70, mz, mz, mi (.ifCond .ne 5) 3, mz],
  [mz, mi (.iconst (-1)) 1, mi .ireturn 1, mi (.iload 2) 1, mi (.ifCond .ne 11) 3, mz, mz, mi (.aload 0) 1, mi (.iload 1) 1, mj (.invokevirtual 495) 3 270 1 161, mz, mz, mi (.goto 21) 3, mz, mz, mi (.iload 2) 1],
  [mi (.iconst 1) 1, mi (.if_icmp .ne 11) 3, mz, mz, mi (.aload 0) 1, mi (.iload 1) 1, mj (.invokevirtual 510) 3 271 1 166, mz, mz, mi (.goto 8) 3, mz, mz, mi (.aload 0) 1, mi (.iload 1) 1, mj (.invokevirtual 507) 3 272 1 165, mz],
  [mz, mi .ireturn 1]]
def kX12_share : List (List (Option mR)) := [[mi (.aload 0) 1, mi (.iload 1) 1, mj (.invokevirtual 318) 3 216 1 101, mz, mz, mi (.ifCond .eq 32) 3, mz, mz, mi (.aload 0) 1, mi (.iload 1) 1, mj (.invokevirtual 284) 3 236 1 90, mz, mz, mi (.ifCond .eq 24) 3, mz, mz],
  [mi (.iload 2) 1, mi (.iconst 0) 1, mi (.aload 0) 1, mj (.getfield 83) 3 12 29 25, mz, mz, mi (.aload 0) 1, mj (.getfield 146) 3 12 56 46, mz, mz, mi (.iload 1) 1, mi .iaload 1, mi .iaload 1, mi (.iconst 1) 1, mi .isub 1, mj (.invokestatic 224) 3 180 3 70],
  [mz, mz, mi (.ifCond .ne 7) 3, mz, mz, mj (.iconst (-2000000000)) 3 0 0 86, mz, mz, mi .ireturn 1, mi (.aload 0) 1, mj (.getfield 146) 3 12 56 46, mz, mz, mi (.iload 1) 1, mi .iaload 1, mi (.istore 3) 1],
  [mi (.aload 0) 1, mi (.iload 1) 1, mi (.iconst 2) 1, mj (.invokevirtual 388) 3 244 2 124, mz, mz, mi (.istore 4) 2, mz, mi (.aload 0) 1, mj (.getfield 89) 3 12 31 27, mz, mz, mi (.iconst 5) 1, mi (.iload 3) 1, mi .imul 1, mi (.iload 2) 1],
  [mi .iadd 1, mi .iaload 1, mi (.iload 4) 2, mz, mi .imul 1, mi (.iload 2) 1, mi (.iconst 1) 1, mi .iadd 1, mi (.aload 0) 1, mj (.getfield 83) 3 12 29 25, mz, mz, mi (.iload 3) 1, mi .iaload 1, mi (.if_icmp .ge 21) 3, mz],
  [mz, mi (.aload 0) 1, mj (.getfield 89) 3 12 31 27, mz, mz, mi (.iconst 5) 1, mi (.iload 3) 1, mi .imul 1, mi (.iload 2) 1, mi .iadd 1, mi (.iconst 1) 1, mi .iadd 1, mi .iaload 1, mi (.iload 4) 2, mz, mi .imul 1],
  [mi (.goto 4) 3, mz, mz, mi (.iconst 0) 1, mi .isub 1, mi .ireturn 1]]
def kX12_chain : List (List (Option mR)) := [[mi (.aload 0) 1, mi (.iload 1) 1, mj (.invokevirtual 266) 3 191 1 84, mz, mz, mi (.ifCond .eq 28) 3, mz, mz, mi (.iload 2) 1, mi (.iconst 0) 1, mi (.aload 0) 1, mj (.getfield 83) 3 12 29 25, mz, mz, mi (.iload 1) 1, mi .iaload 1],
  [mi (.iconst 1) 1, mi .isub 1, mj (.invokestatic 224) 3 180 3 70, mz, mz, mi (.ifCond .eq 12) 3, mz, mz, mi (.iload 3) 1, mi (.iconst 0) 1, mi (.iconst 1) 1, mj (.invokestatic 224) 3 180 3 70, mz, mz, mi (.ifCond .ne 5) 3, mz],
  [mz, mi (.iconst (-1)) 1, mi .ireturn 1, mi (.iload 3) 1, mi (.ifCond .ne 14) 3, mz, mz, mi (.aload 0) 1, mj (.getfield 86) 3 12 30 26, mz, mz, mi (.iconst 5) 1, mi (.iload 1) 1, mi .imul 1, mi (.iload 2) 1, mi .iadd 1],
  [mi .iaload 1, mi .ireturn 1, mi (.iload 2) 1, mi (.iconst 1) 1, mi .iadd 1, mi (.aload 0) 1, mj (.getfield 83) 3 12 29 25, mz, mz, mi (.iload 1) 1, mi .iaload 1, mi (.if_icmp .ge 32) 3, mz, mz, mi (.aload 0) 1, mj (.getfield 89) 3 12 31 27],
  [mz, mz, mi (.iconst 5) 1, mi (.iload 1) 1, mi .imul 1, mi (.iload 2) 1, mi .iadd 1, mi .iaload 1, mi (.aload 0) 1, mj (.getfield 89) 3 12 31 27, mz, mz, mi (.iconst 5) 1, mi (.iload 1) 1, mi .imul 1, mi (.iload 2) 1],
  [mi .iadd 1, mi (.iconst 1) 1, mi .iadd 1, mi .iaload 1, mi (.if_icmp .ge 7) 3, mz, mz, mi (.iconst 1) 1, mi (.goto 4) 3, mz, mz, mi (.iconst 0) 1, mi .ireturn 1]]
def kX12_rank : List (List (Option mR)) := [[mi (.aload 0) 1, mi (.iload 1) 1, mj (.invokevirtual 266) 3 191 1 84, mz, mz, mi (.ifCond .eq 41) 3, mz, mz, mi (.iload 2) 1, mi (.iconst 0) 1, mi (.aload 0) 1, mj (.getfield 83) 3 12 29 25, mz, mz, mi (.iload 1) 1, mi .iaload 1],
  [mi (.iconst 1) 1, mi .isub 1, mj (.invokestatic 224) 3 180 3 70, mz, mz, mi (.ifCond .eq 25) 3, mz, mz, mi (.aload 0) 1, mj (.getfield 86) 3 12 30 26, mz, mz, mi (.iconst 5) 1, mi (.iload 1) 1, mi .imul 1, mi (.aload 0) 1],
  [mj (.getfield 83) 3 12 29 25, mz, mz, mi (.iload 1) 1, mi .iaload 1, mi .iadd 1, mi (.iconst 1) 1, mi .isub 1, mi (.iload 2) 1, mi .isub 1, mi .iaload 1, mi (.goto 4) 3, mz, mz, mi (.iconst (-1)) 1, mi .ireturn 1]]
def kX12_idleOf : List (List (Option mR)) := [[mi (.iconst 0) 1, mi (.istore 3) 1, mi (.iconst 0) 1, mi (.istore 4) 2, mz, mi (.iload 4) 2, mz, mi (.aload 0) 1, mj (.getfield 252) 3 12 15 79, mz, mz, mi (.if_icmp .ge 48) 3, mz, mz, mi (.iload 3) 1, mi (.aload 0) 1],
  [mj (.getfield 44) 3 12 16 12, mz, mz, mi (.iload 4) 2, mz, mi .iaload 1, mi (.iload 1) 1, mi (.if_icmp .ne 27) 3, mz, mz, mi (.aload 0) 1, mj (.getfield 53) 3 12 19 15, mz, mz, mi (.iload 4) 2, mz],
  [mi .iaload 1, mi (.iload 2) 1, mi (.if_icmp .ne 16) 3, mz, mz, mi (.aload 0) 1, mi (.iload 4) 2, mz, mj (.invokevirtual 274) 3 204 1 87, mz, mz, mi (.ifCond .eq 7) 3, mz, mz, mi (.iconst 1) 1, mi (.goto 4) 3],
  [mz, mz, mi (.iconst 0) 1, mi .iadd 1, mi (.istore 3) 1, mi (.iinc 4 1) 3, mz, mz, mi (.goto (-51)) 3, mz, mz, mi (.iload 3) 1, mi .ireturn 1]]
def kX12_wantedOf : List (List (Option mR)) := [[mi (.iconst 0) 1, mi (.istore 3) 1, mi (.iconst 0) 1, mi (.istore 4) 2, mz, mi (.iload 4) 2, mz, mi (.aload 0) 1, mj (.getfield 302) 3 12 48 96, mz, mz, mi (.if_icmp .ge 56) 3, mz, mz, mi (.iload 3) 1, mi (.aload 0) 1],
  [mj (.getfield 128) 3 12 50 40, mz, mz, mi (.iload 4) 2, mz, mi .iaload 1, mi (.iload 1) 1, mi (.if_icmp .ne 35) 3, mz, mz, mi (.aload 0) 1, mi (.iload 4) 2, mz, mj (.invokevirtual 315) 3 219 1 100, mz, mz],
  [mi (.iload 2) 1, mi (.if_icmp .ne 25) 3, mz, mz, mi (.aload 0) 1, mj (.getfield 228) 3 12 1 71, mz, mz, mi (.aload 0) 1, mj (.getfield 140) 3 12 54 44, mz, mz, mi (.iload 4) 2, mz, mi .iaload 1, mi .isub 1],
  [mi (.iconst 720) 3, mz, mz, mi (.if_icmp .ge 7) 3, mz, mz, mi (.iconst 1) 1, mi (.goto 4) 3, mz, mz, mi (.iconst 0) 1, mi .iadd 1, mi (.istore 3) 1, mi (.iinc 4 1) 3, mz, mz],
  [mi (.goto (-59)) 3, mz, mz, mi (.iload 3) 1, mi .ireturn 1]]
def kX12_idle : List (List (Option mR)) := [[mi (.aload 0) 1, mi (.iload 1) 1, mj (.invokevirtual 256) 3 190 1 81, mz, mz, mi (.ifCond .eq 20) 3, mz, mz, mi (.aload 0) 1, mi (.iload 2) 1, mj (.invokevirtual 242) 3 183 1 76, mz, mz, mi (.ifCond .eq 12) 3, mz, mz],
  [mi (.iload 3) 1, mi (.iconst 0) 1, mi (.iconst 1) 1, mj (.invokestatic 224) 3 180 3 70, mz, mz, mi (.ifCond .ne 7) 3, mz, mz, mi (.iconst (-1)) 1, mi (.goto 22) 3, mz, mz, mi (.iload 3) 1, mi (.ifCond .ne 12) 3, mz],
  [mz, mi (.aload 0) 1, mi (.iload 1) 1, mi (.iload 2) 1, mj (.invokevirtual 529) 3 285 2 173, mz, mz, mi (.goto 9) 3, mz, mz, mi (.aload 0) 1, mi (.iload 1) 1, mi (.iload 2) 1, mj (.invokevirtual 532) 3 286 2 174, mz, mz],
  [mi .ireturn 1]]
def kX12_move : List (List (Option mR)) := [[mi (.aload 0) 1, mi (.iload 1) 1, mj (.invokevirtual 256) 3 190 1 81, mz, mz, mi (.ifCond .ne 5) 3, mz, mz, mi (.iconst (-1)) 1, mi .ireturn 1, mi (.iconst (-1)) 1, mi (.istore 2) 1, mi (.iconst (-1)) 1, mi (.istore 3) 1, mi (.iconst 0) 1, mi (.istore 4) 2],
  [mz, mi (.iconst 0) 1, mi (.istore 5) 2, mz, mi (.iconst 0) 1, mi (.istore 6) 2, mz, mi (.iload 6) 2, mz, mi (.aload 0) 1, mj (.getfield 231) 3 12 2 72, mz, mz, mi (.if_icmp .ge 69) 3, mz, mz],
  [mi (.aload 0) 1, mj (.getfield 7) 3 12 3 1, mz, mz, mi (.iload 6) 2, mz, mi .baload 1, mi (.ifCond .ne 6) 3, mz, mz, mi (.goto 50) 3, mz, mz, mi (.aload 0) 1, mi (.iload 1) 1, mi (.iload 6) 2],
  [mz, mj (.invokevirtual 529) 3 285 2 173, mz, mz, mi (.aload 0) 1, mi (.iload 1) 1, mi (.iload 6) 2, mz, mj (.invokevirtual 532) 3 286 2 174, mz, mz, mi .isub 1, mi (.istore 7) 2, mz, mi (.iload 7) 2, mz],
  [mi (.iload 4) 2, mz, mi (.if_icmp .le 10) 3, mz, mz, mi (.iload 7) 2, mz, mi (.istore 4) 2, mz, mi (.iload 6) 2, mz, mi (.istore 2) 1, mi (.iload 7) 2, mz, mi .ineg 1, mi (.iload 5) 2],
  [mz, mi (.if_icmp .le 11) 3, mz, mz, mi (.iload 7) 2, mz, mi .ineg 1, mi (.istore 5) 2, mz, mi (.iload 6) 2, mz, mi (.istore 3) 1, mi (.iinc 6 1) 3, mz, mz, mi (.goto (-72)) 3],
  [mz, mz, mi (.iload 2) 1, mi (.ifCond .lt 7) 3, mz, mz, mi (.iload 3) 1, mi (.ifCond .ge 8) 3, mz, mz, mi (.iconst (-2)) 2, mz, mi (.goto 9) 3, mz, mz, mi (.iconst 100) 2],
  [mz, mi (.iload 2) 1, mi .imul 1, mi (.iload 3) 1, mi .iadd 1, mi .ireturn 1]]
def kX12_count : List (List (Option mR)) := [[mi (.iconst 0) 1, mi (.istore 2) 1, mi (.iload 1) 1, mi (.tableswitch 262 0 13 #[69, 74, 79, 84, 89, 94, 99, 104, 109, 114, 150, 186, 191, 226]) 69, mz, mz, mz, mz, mz, mz, mz, mz, mz, mz, mz, mz],
  [mz, mz, mz, mz, mz, mz, mz, mz, mz, mz, mz, mz, mz, mz, mz, mz],
  [mz, mz, mz, mz, mz, mz, mz, mz, mz, mz, mz, mz, mz, mz, mz, mz],
  [mz, mz, mz, mz, mz, mz, mz, mz, mz, mz, mz, mz, mz, mz, mz, mz],
  [mz, mz, mz, mz, mz, mz, mz, mz, mi (.aload 0) 1, mj (.getfield 231) 3 12 2 72, mz, mz, mi .ireturn 1, mi (.aload 0) 1, mj (.getfield 249) 3 12 7 78, mz],
  [mz, mi .ireturn 1, mi (.aload 0) 1, mj (.getfield 252) 3 12 15 79, mz, mz, mi .ireturn 1, mi (.aload 0) 1, mj (.getfield 299) 3 12 45 95, mz, mz, mi .ireturn 1, mi (.aload 0) 1, mj (.getfield 302) 3 12 48 96, mz, mz],
  [mi .ireturn 1, mi (.aload 0) 1, mj (.getfield 228) 3 12 1 71, mz, mz, mi .ireturn 1, mi (.aload 0) 1, mj (.getfield 481) 3 12 78 156, mz, mz, mi .ireturn 1, mi (.aload 0) 1, mj (.getfield 290) 3 12 33 92, mz, mz, mi .ireturn 1],
  [mi (.aload 0) 1, mj (.getfield 293) 3 12 41 93, mz, mz, mi .ireturn 1, mi (.iconst 0) 1, mi (.istore 3) 1, mi (.iload 3) 1, mi (.aload 0) 1, mj (.getfield 252) 3 12 15 79, mz, mz, mi (.if_icmp .ge 27) 3, mz, mz, mi (.iload 2) 1],
  [mi (.aload 0) 1, mj (.getfield 50) 3 12 18 14, mz, mz, mi (.iload 3) 1, mi .iaload 1, mi (.iconst 2) 1, mi (.if_icmp .ne 7) 3, mz, mz, mi (.iconst 1) 1, mi (.goto 4) 3, mz, mz, mi (.iconst 0) 1, mi .iadd 1],
  [mi (.istore 2) 1, mi (.iinc 3 1) 3, mz, mz, mi (.goto (-29)) 3, mz, mz, mi (.iload 2) 1, mi .ireturn 1, mi (.iconst 0) 1, mi (.istore 3) 1, mi (.iload 3) 1, mi (.aload 0) 1, mj (.getfield 252) 3 12 15 79, mz, mz],
  [mi (.if_icmp .ge 27) 3, mz, mz, mi (.iload 2) 1, mi (.aload 0) 1, mj (.getfield 50) 3 12 18 14, mz, mz, mi (.iload 3) 1, mi .iaload 1, mi (.iconst 1) 1, mi (.if_icmp .ne 7) 3, mz, mz, mi (.iconst 1) 1, mi (.goto 4) 3],
  [mz, mz, mi (.iconst 0) 1, mi .iadd 1, mi (.istore 2) 1, mi (.iinc 3 1) 3, mz, mz, mi (.goto (-29)) 3, mz, mz, mi (.iload 2) 1, mi .ireturn 1, mi (.aload 0) 1, mj (.getfield 391) 3 12 77 125, mz],
  [mz, mi .ireturn 1, mi (.iconst 0) 1, mi (.istore 3) 1, mi (.iload 3) 1, mi (.aload 0) 1, mj (.getfield 302) 3 12 48 96, mz, mz, mi (.if_icmp .ge 26) 3, mz, mz, mi (.iload 2) 1, mi (.aload 0) 1, mj (.getfield 143) 3 12 55 45, mz],
  [mz, mi (.iload 3) 1, mi .iaload 1, mi (.ifCond .ne 7) 3, mz, mz, mi (.iconst 1) 1, mi (.goto 4) 3, mz, mz, mi (.iconst 0) 1, mi .iadd 1, mi (.istore 2) 1, mi (.iinc 3 1) 3, mz, mz],
  [mi (.goto (-28)) 3, mz, mz, mi (.iload 2) 1, mi .ireturn 1, mi (.iconst 0) 1, mi (.istore 3) 1, mi (.iload 3) 1, mi (.aload 0) 1, mj (.getfield 302) 3 12 48 96, mz, mz, mi (.if_icmp .ge 27) 3, mz, mz, mi (.iload 2) 1],
  [mi (.aload 0) 1, mj (.getfield 143) 3 12 55 45, mz, mz, mi (.iload 3) 1, mi .iaload 1, mi (.iconst 3) 1, mi (.if_icmp .ne 7) 3, mz, mz, mi (.iconst 1) 1, mi (.goto 4) 3, mz, mz, mi (.iconst 0) 1, mi .iadd 1],
  [mi (.istore 2) 1, mi (.iinc 3 1) 3, mz, mz, mi (.goto (-29)) 3, mz, mz, mi (.iload 2) 1, mi .ireturn 1, mi (.iconst (-1)) 1, mi .ireturn 1]]
def kJ7_fill_d0a16 : List (List (Option mR)) := [[mi (.iconst 0) 1, mi (.istore 3) 1, mi (.aload 0) 1, mi .arraylength 1, mi (.istore 4) 2, mz, mi (.iload 3) 1, mi (.iload 4) 2, mz, mi (.if_icmp .ge 13) 3, mz, mz, mi (.aload 0) 1, mi (.iload 3) 1, mi (.lload 1) 1, mi .lastore 1],
  [mi (.iinc 3 1) 3, mz, mz, mi (.goto (-13)) 3, mz, mz, mi .return_ 1]]
def kJ7_copyOf_59c91 : List (List (Option mR)) := [[mi (.iload 1) 1, mi (.aload 0) 1, mi .arraylength 1, mi (.if_icmp .ne 11) 3, mz, mz, mi (.aload 0) 1, mj .fmul 3 0 0 0, mz, mz, mj .fdiv 3 0 0 1, mz, mz, mi .areturn 1, mi (.iload 1) 1, mi (.newarray .int) 2],
  [mz, mi (.astore 2) 1, mi (.aload 0) 1, mi (.iconst 0) 1, mi (.aload 2) 1, mi (.iconst 0) 1, mi (.aload 0) 1, mi .arraylength 1, mi (.iload 1) 1, mj .fsub 3 0 0 2, mz, mz, mj .frem 3 0 0 3, mz, mz, mi (.aload 2) 1],
  [mi .areturn 1]]
def kL_law : List (List (Option mR)) := [[mj (.new 7) 3 11 0 0, mz, mz, mi .dup 1, mj (.invokespecial 9) 3 117 0 1, mz, mz, mi (.astore 1) 1, mj (.new 10) 3 12 0 2, mz, mz, mi .dup 1, mj (.invokespecial 12) 3 179 0 3, mz, mz, mi (.astore 2) 1],
  [mi (.iconst 0) 1, mi (.istore 3) 1, mi (.iload 3) 1, mi (.aload 0) 1, mi .arraylength 1, mi (.iconst 6) 2, mz, mi .isub 1, mi (.if_icmp .gt 1846) 3, mz, mz, mi (.aload 0) 1, mi (.iload 3) 1, mi .iaload 1, mi (.iconst 63) 2, mz],
  [mi .iand 1, mi (.tableswitch 1831 0 47 #[207, 230, 273, 306, 329, 362, 415, 458, 501, 544, 587, 620, 653, 686, 719, 752, 785, 818, 851, 914, 947, 970, 983, 996, 1009, 1032, 1055, 1078, 1111, 1134, 1167, 1210, 1243, 1276, 1339, 1362, 1395, 1438, 1481, 1514, 1557, 1600, 1633, 1666, 1709, 1742, 1785, 1808]) 207, mz, mz, mz, mz, mz, mz, mz, mz, mz, mz, mz, mz, mz, mz],
  [mz, mz, mz, mz, mz, mz, mz, mz, mz, mz, mz, mz, mz, mz, mz, mz],
  [mz, mz, mz, mz, mz, mz, mz, mz, mz, mz, mz, mz, mz, mz, mz, mz],
  [mz, mz, mz, mz, mz, mz, mz, mz, mz, mz, mz, mz, mz, mz, mz, mz],
  [mz, mz, mz, mz, mz, mz, mz, mz, mz, mz, mz, mz, mz, mz, mz, mz],
  [mz, mz, mz, mz, mz, mz, mz, mz, mz, mz, mz, mz, mz, mz, mz, mz],
  [mz, mz, mz, mz, mz, mz, mz, mz, mz, mz, mz, mz, mz, mz, mz, mz],
  [mz, mz, mz, mz, mz, mz, mz, mz, mz, mz, mz, mz, mz, mz, mz, mz],
  [mz, mz, mz, mz, mz, mz, mz, mz, mz, mz, mz, mz, mz, mz, mz, mz],
  [mz, mz, mz, mz, mz, mz, mz, mz, mz, mz, mz, mz, mz, mz, mz, mz],
  [mz, mz, mz, mz, mz, mz, mz, mz, mz, mz, mz, mz, mz, mz, mz, mz],
  [mz, mz, mz, mz, mz, mz, mz, mz, mz, mz, mz, mz, mz, mz, mz, mz],
  [mz, mz, mz, mz, mz, mz, mz, mz, mz, mz, mz, mz, mz, mz, mz, mz],
  [mi (.aload 1) 1, mi (.aload 0) 1, mi (.iload 3) 1, mi (.iconst 1) 1, mi .iadd 1, mi .iaload 1, mj (.invokevirtual 13) 3 118 1 4, mz, mz, mi .pop 1, mi (.aload 2) 1, mi (.aload 0) 1, mi (.iload 3) 1, mi (.iconst 1) 1, mi .iadd 1, mi .iaload 1],
  [mj (.invokevirtual 17) 3 186 1 5, mz, mz, mi .pop 1, mi (.goto 1604) 3, mz, mz, mi (.aload 1) 1, mi (.aload 0) 1, mi (.iload 3) 1, mi (.iconst 1) 1, mi .iadd 1, mi .iaload 1, mi (.aload 0) 1, mi (.iload 3) 1, mi (.iconst 2) 1],
  [mi .iadd 1, mi .iaload 1, mi (.aload 0) 1, mi (.iload 3) 1, mi (.iconst 3) 1, mi .iadd 1, mi .iaload 1, mj (.invokevirtual 18) 3 119 3 6, mz, mz, mi .pop 1, mi (.aload 2) 1, mi (.aload 0) 1, mi (.iload 3) 1, mi (.iconst 1) 1, mi .iadd 1],
  [mi .iaload 1, mi (.aload 0) 1, mi (.iload 3) 1, mi (.iconst 2) 1, mi .iadd 1, mi .iaload 1, mi (.aload 0) 1, mi (.iload 3) 1, mi (.iconst 3) 1, mi .iadd 1, mi .iaload 1, mj (.invokevirtual 22) 3 187 3 7, mz, mz, mi .pop 1, mi (.goto 1561) 3],
  [mz, mz, mi (.aload 1) 1, mi (.aload 0) 1, mi (.iload 3) 1, mi (.iconst 1) 1, mi .iadd 1, mi .iaload 1, mi (.aload 0) 1, mi (.iload 3) 1, mi (.iconst 2) 1, mi .iadd 1, mi .iaload 1, mj (.invokevirtual 23) 3 120 2 8, mz, mz],
  [mi .pop 1, mi (.aload 2) 1, mi (.aload 0) 1, mi (.iload 3) 1, mi (.iconst 1) 1, mi .iadd 1, mi .iaload 1, mi (.aload 0) 1, mi (.iload 3) 1, mi (.iconst 2) 1, mi .iadd 1, mi .iaload 1, mj (.invokevirtual 27) 3 188 2 9, mz, mz, mi .pop 1],
  [mi (.goto 1528) 3, mz, mz, mi (.aload 1) 1, mi (.aload 0) 1, mi (.iload 3) 1, mi (.iconst 1) 1, mi .iadd 1, mi .iaload 1, mj (.invokevirtual 28) 3 121 1 10, mz, mz, mi .pop 1, mi (.aload 2) 1, mi (.aload 0) 1, mi (.iload 3) 1],
  [mi (.iconst 1) 1, mi .iadd 1, mi .iaload 1, mj (.invokevirtual 31) 3 212 1 11, mz, mz, mi .pop 1, mi (.goto 1505) 3, mz, mz, mi (.aload 1) 1, mi (.aload 0) 1, mi (.iload 3) 1, mi (.iconst 1) 1, mi .iadd 1, mi .iaload 1],
  [mi (.aload 0) 1, mi (.iload 3) 1, mi (.iconst 2) 1, mi .iadd 1, mi .iaload 1, mj (.invokevirtual 32) 3 122 2 12, mz, mz, mi .pop 1, mi (.aload 2) 1, mi (.aload 0) 1, mi (.iload 3) 1, mi (.iconst 1) 1, mi .iadd 1, mi .iaload 1, mi (.aload 0) 1],
  [mi (.iload 3) 1, mi (.iconst 2) 1, mi .iadd 1, mi .iaload 1, mj (.invokevirtual 35) 3 189 2 13, mz, mz, mi .pop 1, mi (.goto 1472) 3, mz, mz, mi (.aload 1) 1, mi (.aload 0) 1, mi (.iload 3) 1, mi (.iconst 1) 1, mi .iadd 1],
  [mi .iaload 1, mi (.aload 0) 1, mi (.iload 3) 1, mi (.iconst 2) 1, mi .iadd 1, mi .iaload 1, mi (.aload 0) 1, mi (.iload 3) 1, mi (.iconst 3) 1, mi .iadd 1, mi .iaload 1, mi (.aload 0) 1, mi (.iload 3) 1, mi (.iconst 4) 1, mi .iadd 1, mi .iaload 1],
  [mj (.invokevirtual 36) 3 123 4 14, mz, mz, mi .pop 1, mi (.aload 2) 1, mi (.aload 0) 1, mi (.iload 3) 1, mi (.iconst 1) 1, mi .iadd 1, mi .iaload 1, mi (.aload 0) 1, mi (.iload 3) 1, mi (.iconst 2) 1, mi .iadd 1, mi .iaload 1, mi (.aload 0) 1],
  [mi (.iload 3) 1, mi (.iconst 3) 1, mi .iadd 1, mi .iaload 1, mi (.aload 0) 1, mi (.iload 3) 1, mi (.iconst 4) 1, mi .iadd 1, mi .iaload 1, mj (.invokevirtual 40) 3 192 4 15, mz, mz, mi .pop 1, mi (.goto 1419) 3, mz, mz],
  [mi (.aload 1) 1, mi (.aload 0) 1, mi (.iload 3) 1, mi (.iconst 1) 1, mi .iadd 1, mi .iaload 1, mi (.aload 0) 1, mi (.iload 3) 1, mi (.iconst 2) 1, mi .iadd 1, mi .iaload 1, mi (.aload 0) 1, mi (.iload 3) 1, mi (.iconst 3) 1, mi .iadd 1, mi .iaload 1],
  [mj (.invokevirtual 41) 3 124 3 16, mz, mz, mi .pop 1, mi (.aload 2) 1, mi (.aload 0) 1, mi (.iload 3) 1, mi (.iconst 1) 1, mi .iadd 1, mi .iaload 1, mi (.aload 0) 1, mi (.iload 3) 1, mi (.iconst 2) 1, mi .iadd 1, mi .iaload 1, mi (.aload 0) 1],
  [mi (.iload 3) 1, mi (.iconst 3) 1, mi .iadd 1, mi .iaload 1, mj (.invokevirtual 44) 3 193 3 17, mz, mz, mi .pop 1, mi (.goto 1376) 3, mz, mz, mi (.aload 1) 1, mi (.aload 0) 1, mi (.iload 3) 1, mi (.iconst 1) 1, mi .iadd 1],
  [mi .iaload 1, mi (.aload 0) 1, mi (.iload 3) 1, mi (.iconst 2) 1, mi .iadd 1, mi .iaload 1, mi (.aload 0) 1, mi (.iload 3) 1, mi (.iconst 3) 1, mi .iadd 1, mi .iaload 1, mj (.invokevirtual 45) 3 125 3 18, mz, mz, mi .pop 1, mi (.aload 2) 1],
  [mi (.aload 0) 1, mi (.iload 3) 1, mi (.iconst 1) 1, mi .iadd 1, mi .iaload 1, mi (.aload 0) 1, mi (.iload 3) 1, mi (.iconst 2) 1, mi .iadd 1, mi .iaload 1, mi (.aload 0) 1, mi (.iload 3) 1, mi (.iconst 3) 1, mi .iadd 1, mi .iaload 1, mj (.invokevirtual 48) 3 194 3 19],
  [mz, mz, mi .pop 1, mi (.goto 1333) 3, mz, mz, mi (.aload 1) 1, mi (.aload 0) 1, mi (.iload 3) 1, mi (.iconst 1) 1, mi .iadd 1, mi .iaload 1, mi (.aload 0) 1, mi (.iload 3) 1, mi (.iconst 2) 1, mi .iadd 1],
  [mi .iaload 1, mi (.aload 0) 1, mi (.iload 3) 1, mi (.iconst 3) 1, mi .iadd 1, mi .iaload 1, mj (.invokevirtual 49) 3 126 3 20, mz, mz, mi .pop 1, mi (.aload 2) 1, mi (.aload 0) 1, mi (.iload 3) 1, mi (.iconst 1) 1, mi .iadd 1, mi .iaload 1],
  [mi (.aload 0) 1, mi (.iload 3) 1, mi (.iconst 2) 1, mi .iadd 1, mi .iaload 1, mi (.aload 0) 1, mi (.iload 3) 1, mi (.iconst 3) 1, mi .iadd 1, mi .iaload 1, mj (.invokevirtual 52) 3 198 3 21, mz, mz, mi .pop 1, mi (.goto 1290) 3, mz],
  [mz, mi (.aload 1) 1, mi (.aload 0) 1, mi (.iload 3) 1, mi (.iconst 1) 1, mi .iadd 1, mi .iaload 1, mi (.aload 0) 1, mi (.iload 3) 1, mi (.iconst 2) 1, mi .iadd 1, mi .iaload 1, mi (.aload 0) 1, mi (.iload 3) 1, mi (.iconst 3) 1, mi .iadd 1],
  [mi .iaload 1, mj (.invokevirtual 53) 3 127 3 22, mz, mz, mi .pop 1, mi (.aload 2) 1, mi (.aload 0) 1, mi (.iload 3) 1, mi (.iconst 1) 1, mi .iadd 1, mi .iaload 1, mi (.aload 0) 1, mi (.iload 3) 1, mi (.iconst 2) 1, mi .iadd 1, mi .iaload 1],
  [mi (.aload 0) 1, mi (.iload 3) 1, mi (.iconst 3) 1, mi .iadd 1, mi .iaload 1, mj (.invokevirtual 56) 3 199 3 23, mz, mz, mi .pop 1, mi (.goto 1247) 3, mz, mz, mi (.aload 1) 1, mi (.aload 0) 1, mi (.iload 3) 1, mi (.iconst 1) 1],
  [mi .iadd 1, mi .iaload 1, mi (.aload 0) 1, mi (.iload 3) 1, mi (.iconst 2) 1, mi .iadd 1, mi .iaload 1, mj (.invokevirtual 57) 3 128 2 24, mz, mz, mi .pop 1, mi (.aload 2) 1, mi (.aload 0) 1, mi (.iload 3) 1, mi (.iconst 1) 1, mi .iadd 1],
  [mi .iaload 1, mi (.aload 0) 1, mi (.iload 3) 1, mi (.iconst 2) 1, mi .iadd 1, mi .iaload 1, mj (.invokevirtual 60) 3 203 2 25, mz, mz, mi .pop 1, mi (.goto 1214) 3, mz, mz, mi (.aload 1) 1, mi (.aload 0) 1, mi (.iload 3) 1],
  [mi (.iconst 1) 1, mi .iadd 1, mi .iaload 1, mi (.aload 0) 1, mi (.iload 3) 1, mi (.iconst 2) 1, mi .iadd 1, mi .iaload 1, mj (.invokevirtual 61) 3 129 2 26, mz, mz, mi .pop 1, mi (.aload 2) 1, mi (.aload 0) 1, mi (.iload 3) 1, mi (.iconst 1) 1],
  [mi .iadd 1, mi .iaload 1, mi (.aload 0) 1, mi (.iload 3) 1, mi (.iconst 2) 1, mi .iadd 1, mi .iaload 1, mj (.invokevirtual 64) 3 205 2 27, mz, mz, mi .pop 1, mi (.goto 1181) 3, mz, mz, mi (.aload 1) 1, mi (.aload 0) 1],
  [mi (.iload 3) 1, mi (.iconst 1) 1, mi .iadd 1, mi .iaload 1, mi (.aload 0) 1, mi (.iload 3) 1, mi (.iconst 2) 1, mi .iadd 1, mi .iaload 1, mj (.invokevirtual 65) 3 130 2 28, mz, mz, mi .pop 1, mi (.aload 2) 1, mi (.aload 0) 1, mi (.iload 3) 1],
  [mi (.iconst 1) 1, mi .iadd 1, mi .iaload 1, mi (.aload 0) 1, mi (.iload 3) 1, mi (.iconst 2) 1, mi .iadd 1, mi .iaload 1, mj (.invokevirtual 68) 3 207 2 29, mz, mz, mi .pop 1, mi (.goto 1148) 3, mz, mz, mi (.aload 1) 1],
  [mi (.aload 0) 1, mi (.iload 3) 1, mi (.iconst 1) 1, mi .iadd 1, mi .iaload 1, mi (.aload 0) 1, mi (.iload 3) 1, mi (.iconst 2) 1, mi .iadd 1, mi .iaload 1, mj (.invokevirtual 69) 3 131 2 30, mz, mz, mi .pop 1, mi (.aload 2) 1, mi (.aload 0) 1],
  [mi (.iload 3) 1, mi (.iconst 1) 1, mi .iadd 1, mi .iaload 1, mi (.aload 0) 1, mi (.iload 3) 1, mi (.iconst 2) 1, mi .iadd 1, mi .iaload 1, mj (.invokevirtual 72) 3 208 2 31, mz, mz, mi .pop 1, mi (.goto 1115) 3, mz, mz],
  [mi (.aload 1) 1, mi (.aload 0) 1, mi (.iload 3) 1, mi (.iconst 1) 1, mi .iadd 1, mi .iaload 1, mi (.aload 0) 1, mi (.iload 3) 1, mi (.iconst 2) 1, mi .iadd 1, mi .iaload 1, mj (.invokevirtual 73) 3 132 2 32, mz, mz, mi .pop 1, mi (.aload 2) 1],
  [mi (.aload 0) 1, mi (.iload 3) 1, mi (.iconst 1) 1, mi .iadd 1, mi .iaload 1, mi (.aload 0) 1, mi (.iload 3) 1, mi (.iconst 2) 1, mi .iadd 1, mi .iaload 1, mj (.invokevirtual 76) 3 209 2 33, mz, mz, mi .pop 1, mi (.goto 1082) 3, mz],
  [mz, mi (.aload 1) 1, mi (.aload 0) 1, mi (.iload 3) 1, mi (.iconst 1) 1, mi .iadd 1, mi .iaload 1, mi (.aload 0) 1, mi (.iload 3) 1, mi (.iconst 2) 1, mi .iadd 1, mi .iaload 1, mj (.invokevirtual 77) 3 133 2 34, mz, mz, mi .pop 1],
  [mi (.aload 2) 1, mi (.aload 0) 1, mi (.iload 3) 1, mi (.iconst 1) 1, mi .iadd 1, mi .iaload 1, mi (.aload 0) 1, mi (.iload 3) 1, mi (.iconst 2) 1, mi .iadd 1, mi .iaload 1, mj (.invokevirtual 80) 3 210 2 35, mz, mz, mi .pop 1, mi (.goto 1049) 3],
  [mz, mz, mi (.aload 1) 1, mi (.aload 0) 1, mi (.iload 3) 1, mi (.iconst 1) 1, mi .iadd 1, mi .iaload 1, mi (.aload 0) 1, mi (.iload 3) 1, mi (.iconst 2) 1, mi .iadd 1, mi .iaload 1, mj (.invokevirtual 81) 3 134 2 36, mz, mz],
  [mi .pop 1, mi (.aload 2) 1, mi (.aload 0) 1, mi (.iload 3) 1, mi (.iconst 1) 1, mi .iadd 1, mi .iaload 1, mi (.aload 0) 1, mi (.iload 3) 1, mi (.iconst 2) 1, mi .iadd 1, mi .iaload 1, mj (.invokevirtual 84) 3 211 2 37, mz, mz, mi .pop 1],
  [mi (.goto 1016) 3, mz, mz, mi (.aload 1) 1, mi (.aload 0) 1, mi (.iload 3) 1, mi (.iconst 1) 1, mi .iadd 1, mi .iaload 1, mi (.aload 0) 1, mi (.iload 3) 1, mi (.iconst 2) 1, mi .iadd 1, mi .iaload 1, mj (.invokevirtual 85) 3 135 2 38, mz],
  [mz, mi .pop 1, mi (.aload 2) 1, mi (.aload 0) 1, mi (.iload 3) 1, mi (.iconst 1) 1, mi .iadd 1, mi .iaload 1, mi (.aload 0) 1, mi (.iload 3) 1, mi (.iconst 2) 1, mi .iadd 1, mi .iaload 1, mj (.invokevirtual 88) 3 217 2 39, mz, mz],
  [mi .pop 1, mi (.goto 983) 3, mz, mz, mi (.aload 1) 1, mi (.aload 0) 1, mi (.iload 3) 1, mi (.iconst 1) 1, mi .iadd 1, mi .iaload 1, mi (.aload 0) 1, mi (.iload 3) 1, mi (.iconst 2) 1, mi .iadd 1, mi .iaload 1, mi (.aload 0) 1],
  [mi (.iload 3) 1, mi (.iconst 3) 1, mi .iadd 1, mi .iaload 1, mi (.aload 0) 1, mi (.iload 3) 1, mi (.iconst 4) 1, mi .iadd 1, mi .iaload 1, mi (.aload 0) 1, mi (.iload 3) 1, mi (.iconst 5) 1, mi .iadd 1, mi .iaload 1, mj (.invokevirtual 89) 3 136 5 40, mz],
  [mz, mi .pop 1, mi (.aload 2) 1, mi (.aload 0) 1, mi (.iload 3) 1, mi (.iconst 1) 1, mi .iadd 1, mi .iaload 1, mi (.aload 0) 1, mi (.iload 3) 1, mi (.iconst 2) 1, mi .iadd 1, mi .iaload 1, mi (.aload 0) 1, mi (.iload 3) 1, mi (.iconst 3) 1],
  [mi .iadd 1, mi .iaload 1, mi (.aload 0) 1, mi (.iload 3) 1, mi (.iconst 4) 1, mi .iadd 1, mi .iaload 1, mi (.aload 0) 1, mi (.iload 3) 1, mi (.iconst 5) 1, mi .iadd 1, mi .iaload 1, mj (.invokevirtual 93) 3 218 5 41, mz, mz, mi .pop 1],
  [mi (.goto 920) 3, mz, mz, mi (.aload 1) 1, mi (.aload 0) 1, mi (.iload 3) 1, mi (.iconst 1) 1, mi .iadd 1, mi .iaload 1, mi (.aload 0) 1, mi (.iload 3) 1, mi (.iconst 2) 1, mi .iadd 1, mi .iaload 1, mj (.invokevirtual 94) 3 137 2 42, mz],
  [mz, mi .pop 1, mi (.aload 2) 1, mi (.aload 0) 1, mi (.iload 3) 1, mi (.iconst 1) 1, mi .iadd 1, mi .iaload 1, mi (.aload 0) 1, mi (.iload 3) 1, mi (.iconst 2) 1, mi .iadd 1, mi .iaload 1, mj (.invokevirtual 97) 3 221 2 43, mz, mz],
  [mi .pop 1, mi (.goto 887) 3, mz, mz, mi (.aload 1) 1, mi (.aload 0) 1, mi (.iload 3) 1, mi (.iconst 1) 1, mi .iadd 1, mi .iaload 1, mj (.invokevirtual 98) 3 138 1 44, mz, mz, mi .pop 1, mi (.aload 2) 1, mi (.aload 0) 1],
  [mi (.iload 3) 1, mi (.iconst 1) 1, mi .iadd 1, mi .iaload 1, mj (.invokevirtual 101) 3 222 1 45, mz, mz, mi .pop 1, mi (.goto 864) 3, mz, mz, mi (.aload 1) 1, mj (.invokevirtual 102) 3 139 0 46, mz, mz, mi .pop 1],
  [mi (.aload 2) 1, mj (.invokevirtual 106) 3 227 0 47, mz, mz, mi .pop 1, mi (.goto 851) 3, mz, mz, mi (.aload 1) 1, mj (.invokevirtual 107) 3 140 0 48, mz, mz, mi .pop 1, mi (.aload 2) 1, mj (.invokevirtual 110) 3 228 0 49, mz],
  [mz, mi .pop 1, mi (.goto 838) 3, mz, mz, mi (.aload 1) 1, mj (.invokevirtual 111) 3 141 0 50, mz, mz, mi .pop 1, mi (.aload 2) 1, mj (.invokevirtual 114) 3 233 0 51, mz, mz, mi .pop 1, mi (.goto 825) 3],
  [mz, mz, mi (.aload 1) 1, mi (.aload 0) 1, mi (.iload 3) 1, mi (.iconst 1) 1, mi .iadd 1, mi .iaload 1, mj (.invokevirtual 115) 3 142 1 52, mz, mz, mi .pop 1, mi (.aload 2) 1, mi (.aload 0) 1, mi (.iload 3) 1, mi (.iconst 1) 1],
  [mi .iadd 1, mi .iaload 1, mj (.invokevirtual 118) 3 230 1 53, mz, mz, mi .pop 1, mi (.goto 802) 3, mz, mz, mi (.aload 1) 1, mi (.aload 0) 1, mi (.iload 3) 1, mi (.iconst 1) 1, mi .iadd 1, mi .iaload 1, mj (.invokevirtual 119) 3 143 1 54],
  [mz, mz, mi .pop 1, mi (.aload 2) 1, mi (.aload 0) 1, mi (.iload 3) 1, mi (.iconst 1) 1, mi .iadd 1, mi .iaload 1, mj (.invokevirtual 122) 3 234 1 55, mz, mz, mi .pop 1, mi (.goto 779) 3, mz, mz],
  [mi (.aload 1) 1, mi (.aload 0) 1, mi (.iload 3) 1, mi (.iconst 1) 1, mi .iadd 1, mi .iaload 1, mj (.invokevirtual 123) 3 144 1 56, mz, mz, mi .pop 1, mi (.aload 2) 1, mi (.aload 0) 1, mi (.iload 3) 1, mi (.iconst 1) 1, mi .iadd 1, mi .iaload 1],
  [mj (.invokevirtual 126) 3 235 1 57, mz, mz, mi .pop 1, mi (.goto 756) 3, mz, mz, mi (.aload 1) 1, mi (.aload 0) 1, mi (.iload 3) 1, mi (.iconst 1) 1, mi .iadd 1, mi .iaload 1, mi (.aload 0) 1, mi (.iload 3) 1, mi (.iconst 2) 1],
  [mi .iadd 1, mi .iaload 1, mj (.invokevirtual 127) 3 145 2 58, mz, mz, mi .pop 1, mi (.aload 2) 1, mi (.aload 0) 1, mi (.iload 3) 1, mi (.iconst 1) 1, mi .iadd 1, mi .iaload 1, mi (.aload 0) 1, mi (.iload 3) 1, mi (.iconst 2) 1, mi .iadd 1],
  [mi .iaload 1, mj (.invokevirtual 130) 3 237 2 59, mz, mz, mi .pop 1, mi (.goto 723) 3, mz, mz, mi (.aload 1) 1, mi (.aload 0) 1, mi (.iload 3) 1, mi (.iconst 1) 1, mi .iadd 1, mi .iaload 1, mj (.invokevirtual 131) 3 146 1 60, mz],
  [mz, mi .pop 1, mi (.aload 2) 1, mi (.aload 0) 1, mi (.iload 3) 1, mi (.iconst 1) 1, mi .iadd 1, mi .iaload 1, mj (.invokevirtual 134) 3 238 1 61, mz, mz, mi .pop 1, mi (.goto 700) 3, mz, mz, mi (.aload 1) 1],
  [mi (.aload 0) 1, mi (.iload 3) 1, mi (.iconst 1) 1, mi .iadd 1, mi .iaload 1, mi (.aload 0) 1, mi (.iload 3) 1, mi (.iconst 2) 1, mi .iadd 1, mi .iaload 1, mj (.invokevirtual 135) 3 147 2 62, mz, mz, mi .pop 1, mi (.aload 2) 1, mi (.aload 0) 1],
  [mi (.iload 3) 1, mi (.iconst 1) 1, mi .iadd 1, mi .iaload 1, mi (.aload 0) 1, mi (.iload 3) 1, mi (.iconst 2) 1, mi .iadd 1, mi .iaload 1, mj (.invokevirtual 138) 3 239 2 63, mz, mz, mi .pop 1, mi (.goto 667) 3, mz, mz],
  [mi (.aload 1) 1, mi (.aload 0) 1, mi (.iload 3) 1, mi (.iconst 1) 1, mi .iadd 1, mi .iaload 1, mi (.aload 0) 1, mi (.iload 3) 1, mi (.iconst 2) 1, mi .iadd 1, mi .iaload 1, mi (.aload 0) 1, mi (.iload 3) 1, mi (.iconst 3) 1, mi .iadd 1, mi .iaload 1],
  [mj (.invokevirtual 139) 3 148 3 64, mz, mz, mi .pop 1, mi (.aload 2) 1, mi (.aload 0) 1, mi (.iload 3) 1, mi (.iconst 1) 1, mi .iadd 1, mi .iaload 1, mi (.aload 0) 1, mi (.iload 3) 1, mi (.iconst 2) 1, mi .iadd 1, mi .iaload 1, mi (.aload 0) 1],
  [mi (.iload 3) 1, mi (.iconst 3) 1, mi .iadd 1, mi .iaload 1, mj (.invokevirtual 142) 3 242 3 65, mz, mz, mi .pop 1, mi (.goto 624) 3, mz, mz, mi (.aload 1) 1, mi (.aload 0) 1, mi (.iload 3) 1, mi (.iconst 1) 1, mi .iadd 1],
  [mi .iaload 1, mi (.aload 0) 1, mi (.iload 3) 1, mi (.iconst 2) 1, mi .iadd 1, mi .iaload 1, mj (.invokevirtual 143) 3 149 2 66, mz, mz, mi .pop 1, mi (.aload 2) 1, mi (.aload 0) 1, mi (.iload 3) 1, mi (.iconst 1) 1, mi .iadd 1, mi .iaload 1],
  [mi (.aload 0) 1, mi (.iload 3) 1, mi (.iconst 2) 1, mi .iadd 1, mi .iaload 1, mj (.invokevirtual 146) 3 245 2 67, mz, mz, mi .pop 1, mi (.goto 591) 3, mz, mz, mi (.aload 1) 1, mi (.aload 0) 1, mi (.iload 3) 1, mi (.iconst 1) 1],
  [mi .iadd 1, mi .iaload 1, mi (.aload 0) 1, mi (.iload 3) 1, mi (.iconst 2) 1, mi .iadd 1, mi .iaload 1, mj (.invokevirtual 147) 3 150 2 68, mz, mz, mi .pop 1, mi (.aload 2) 1, mi (.aload 0) 1, mi (.iload 3) 1, mi (.iconst 1) 1, mi .iadd 1],
  [mi .iaload 1, mi (.aload 0) 1, mi (.iload 3) 1, mi (.iconst 2) 1, mi .iadd 1, mi .iaload 1, mj (.invokevirtual 150) 3 246 2 69, mz, mz, mi .pop 1, mi (.goto 558) 3, mz, mz, mi (.aload 1) 1, mi (.aload 0) 1, mi (.iload 3) 1],
  [mi (.iconst 1) 1, mi .iadd 1, mi .iaload 1, mi (.aload 0) 1, mi (.iload 3) 1, mi (.iconst 2) 1, mi .iadd 1, mi .iaload 1, mi (.aload 0) 1, mi (.iload 3) 1, mi (.iconst 3) 1, mi .iadd 1, mi .iaload 1, mi (.aload 0) 1, mi (.iload 3) 1, mi (.iconst 4) 1],
  [mi .iadd 1, mi .iaload 1, mi (.aload 0) 1, mi (.iload 3) 1, mi (.iconst 5) 1, mi .iadd 1, mi .iaload 1, mj (.invokevirtual 151) 3 151 5 70, mz, mz, mi .pop 1, mi (.aload 2) 1, mi (.aload 0) 1, mi (.iload 3) 1, mi (.iconst 1) 1, mi .iadd 1],
  [mi .iaload 1, mi (.aload 0) 1, mi (.iload 3) 1, mi (.iconst 2) 1, mi .iadd 1, mi .iaload 1, mi (.aload 0) 1, mi (.iload 3) 1, mi (.iconst 3) 1, mi .iadd 1, mi .iaload 1, mi (.aload 0) 1, mi (.iload 3) 1, mi (.iconst 4) 1, mi .iadd 1, mi .iaload 1],
  [mi (.aload 0) 1, mi (.iload 3) 1, mi (.iconst 5) 1, mi .iadd 1, mi .iaload 1, mj (.invokevirtual 154) 3 247 5 71, mz, mz, mi .pop 1, mi (.goto 495) 3, mz, mz, mi (.aload 1) 1, mi (.aload 0) 1, mi (.iload 3) 1, mi (.iconst 1) 1],
  [mi .iadd 1, mi .iaload 1, mj (.invokevirtual 155) 3 152 1 72, mz, mz, mi .pop 1, mi (.aload 2) 1, mi (.aload 0) 1, mi (.iload 3) 1, mi (.iconst 1) 1, mi .iadd 1, mi .iaload 1, mj (.invokevirtual 158) 3 249 1 73, mz, mz, mi .pop 1],
  [mi (.goto 472) 3, mz, mz, mi (.aload 1) 1, mi (.aload 0) 1, mi (.iload 3) 1, mi (.iconst 1) 1, mi .iadd 1, mi .iaload 1, mi (.aload 0) 1, mi (.iload 3) 1, mi (.iconst 2) 1, mi .iadd 1, mi .iaload 1, mj (.invokevirtual 159) 3 153 2 74, mz],
  [mz, mi .pop 1, mi (.aload 2) 1, mi (.aload 0) 1, mi (.iload 3) 1, mi (.iconst 1) 1, mi .iadd 1, mi .iaload 1, mi (.aload 0) 1, mi (.iload 3) 1, mi (.iconst 2) 1, mi .iadd 1, mi .iaload 1, mj (.invokevirtual 162) 3 264 2 75, mz, mz],
  [mi .pop 1, mi (.goto 439) 3, mz, mz, mi (.aload 1) 1, mi (.aload 0) 1, mi (.iload 3) 1, mi (.iconst 1) 1, mi .iadd 1, mi .iaload 1, mi (.aload 0) 1, mi (.iload 3) 1, mi (.iconst 2) 1, mi .iadd 1, mi .iaload 1, mi (.aload 0) 1],
  [mi (.iload 3) 1, mi (.iconst 3) 1, mi .iadd 1, mi .iaload 1, mj (.invokevirtual 163) 3 154 3 76, mz, mz, mi .pop 1, mi (.aload 2) 1, mi (.aload 0) 1, mi (.iload 3) 1, mi (.iconst 1) 1, mi .iadd 1, mi .iaload 1, mi (.aload 0) 1, mi (.iload 3) 1],
  [mi (.iconst 2) 1, mi .iadd 1, mi .iaload 1, mi (.aload 0) 1, mi (.iload 3) 1, mi (.iconst 3) 1, mi .iadd 1, mi .iaload 1, mj (.invokevirtual 166) 3 274 3 77, mz, mz, mi .pop 1, mi (.goto 396) 3, mz, mz, mi (.aload 1) 1],
  [mi (.aload 0) 1, mi (.iload 3) 1, mi (.iconst 1) 1, mi .iadd 1, mi .iaload 1, mi (.aload 0) 1, mi (.iload 3) 1, mi (.iconst 2) 1, mi .iadd 1, mi .iaload 1, mi (.aload 0) 1, mi (.iload 3) 1, mi (.iconst 3) 1, mi .iadd 1, mi .iaload 1, mj (.invokevirtual 167) 3 155 3 78],
  [mz, mz, mi .pop 1, mi (.aload 2) 1, mi (.aload 0) 1, mi (.iload 3) 1, mi (.iconst 1) 1, mi .iadd 1, mi .iaload 1, mi (.aload 0) 1, mi (.iload 3) 1, mi (.iconst 2) 1, mi .iadd 1, mi .iaload 1, mi (.aload 0) 1, mi (.iload 3) 1],
  [mi (.iconst 3) 1, mi .iadd 1, mi .iaload 1, mj (.invokevirtual 170) 3 276 3 79, mz, mz, mi .pop 1, mi (.goto 353) 3, mz, mz, mi (.aload 1) 1, mi (.aload 0) 1, mi (.iload 3) 1, mi (.iconst 1) 1, mi .iadd 1, mi .iaload 1],
  [mi (.aload 0) 1, mi (.iload 3) 1, mi (.iconst 2) 1, mi .iadd 1, mi .iaload 1, mj (.invokevirtual 171) 3 156 2 80, mz, mz, mi .pop 1, mi (.aload 2) 1, mi (.aload 0) 1, mi (.iload 3) 1, mi (.iconst 1) 1, mi .iadd 1, mi .iaload 1, mi (.aload 0) 1],
  [mi (.iload 3) 1, mi (.iconst 2) 1, mi .iadd 1, mi .iaload 1, mj (.invokevirtual 174) 3 277 2 81, mz, mz, mi .pop 1, mi (.goto 320) 3, mz, mz, mi (.aload 1) 1, mi (.aload 0) 1, mi (.iload 3) 1, mi (.iconst 1) 1, mi .iadd 1],
  [mi .iaload 1, mi (.aload 0) 1, mi (.iload 3) 1, mi (.iconst 2) 1, mi .iadd 1, mi .iaload 1, mi (.aload 0) 1, mi (.iload 3) 1, mi (.iconst 3) 1, mi .iadd 1, mi .iaload 1, mj (.invokevirtual 175) 3 157 3 82, mz, mz, mi .pop 1, mi (.aload 2) 1],
  [mi (.aload 0) 1, mi (.iload 3) 1, mi (.iconst 1) 1, mi .iadd 1, mi .iaload 1, mi (.aload 0) 1, mi (.iload 3) 1, mi (.iconst 2) 1, mi .iadd 1, mi .iaload 1, mi (.aload 0) 1, mi (.iload 3) 1, mi (.iconst 3) 1, mi .iadd 1, mi .iaload 1, mj (.invokevirtual 178) 3 279 3 83],
  [mz, mz, mi .pop 1, mi (.goto 277) 3, mz, mz, mi (.aload 1) 1, mi (.aload 0) 1, mi (.iload 3) 1, mi (.iconst 1) 1, mi .iadd 1, mi .iaload 1, mi (.aload 0) 1, mi (.iload 3) 1, mi (.iconst 2) 1, mi .iadd 1],
  [mi .iaload 1, mi (.aload 0) 1, mi (.iload 3) 1, mi (.iconst 3) 1, mi .iadd 1, mi .iaload 1, mj (.invokevirtual 179) 3 158 3 84, mz, mz, mi .pop 1, mi (.aload 2) 1, mi (.aload 0) 1, mi (.iload 3) 1, mi (.iconst 1) 1, mi .iadd 1, mi .iaload 1],
  [mi (.aload 0) 1, mi (.iload 3) 1, mi (.iconst 2) 1, mi .iadd 1, mi .iaload 1, mi (.aload 0) 1, mi (.iload 3) 1, mi (.iconst 3) 1, mi .iadd 1, mi .iaload 1, mj (.invokevirtual 182) 3 280 3 85, mz, mz, mi .pop 1, mi (.goto 234) 3, mz],
  [mz, mi (.aload 1) 1, mi (.aload 0) 1, mi (.iload 3) 1, mi (.iconst 1) 1, mi .iadd 1, mi .iaload 1, mi (.aload 0) 1, mi (.iload 3) 1, mi (.iconst 2) 1, mi .iadd 1, mi .iaload 1, mj (.invokevirtual 183) 3 159 2 86, mz, mz, mi .pop 1],
  [mi (.aload 2) 1, mi (.aload 0) 1, mi (.iload 3) 1, mi (.iconst 1) 1, mi .iadd 1, mi .iaload 1, mi (.aload 0) 1, mi (.iload 3) 1, mi (.iconst 2) 1, mi .iadd 1, mi .iaload 1, mj (.invokevirtual 186) 3 281 2 87, mz, mz, mi .pop 1, mi (.goto 201) 3],
  [mz, mz, mi (.aload 1) 1, mi (.aload 0) 1, mi (.iload 3) 1, mi (.iconst 1) 1, mi .iadd 1, mi .iaload 1, mi (.aload 0) 1, mi (.iload 3) 1, mi (.iconst 2) 1, mi .iadd 1, mi .iaload 1, mj (.invokevirtual 187) 3 160 2 88, mz, mz],
  [mi .pop 1, mi (.aload 2) 1, mi (.aload 0) 1, mi (.iload 3) 1, mi (.iconst 1) 1, mi .iadd 1, mi .iaload 1, mi (.aload 0) 1, mi (.iload 3) 1, mi (.iconst 2) 1, mi .iadd 1, mi .iaload 1, mj (.invokevirtual 190) 3 282 2 89, mz, mz, mi .pop 1],
  [mi (.goto 168) 3, mz, mz, mi (.aload 1) 1, mi (.aload 0) 1, mi (.iload 3) 1, mi (.iconst 1) 1, mi .iadd 1, mi .iaload 1, mi (.aload 0) 1, mi (.iload 3) 1, mi (.iconst 2) 1, mi .iadd 1, mi .iaload 1, mi (.aload 0) 1, mi (.iload 3) 1],
  [mi (.iconst 3) 1, mi .iadd 1, mi .iaload 1, mj (.invokevirtual 191) 3 161 3 90, mz, mz, mi .pop 1, mi (.aload 2) 1, mi (.aload 0) 1, mi (.iload 3) 1, mi (.iconst 1) 1, mi .iadd 1, mi .iaload 1, mi (.aload 0) 1, mi (.iload 3) 1, mi (.iconst 2) 1],
  [mi .iadd 1, mi .iaload 1, mi (.aload 0) 1, mi (.iload 3) 1, mi (.iconst 3) 1, mi .iadd 1, mi .iaload 1, mj (.invokevirtual 194) 3 283 3 91, mz, mz, mi .pop 1, mi (.goto 125) 3, mz, mz, mi (.aload 1) 1, mi (.aload 0) 1],
  [mi (.iload 3) 1, mi (.iconst 1) 1, mi .iadd 1, mi .iaload 1, mi (.aload 0) 1, mi (.iload 3) 1, mi (.iconst 2) 1, mi .iadd 1, mi .iaload 1, mj (.invokevirtual 195) 3 162 2 92, mz, mz, mi (.aload 2) 1, mi (.aload 0) 1, mi (.iload 3) 1, mi (.iconst 1) 1],
  [mi .iadd 1, mi .iaload 1, mi (.aload 0) 1, mi (.iload 3) 1, mi (.iconst 2) 1, mi .iadd 1, mi .iaload 1, mj (.invokevirtual 198) 3 284 2 93, mz, mz, mi (.if_icmp .eq 94) 3, mz, mz, mi (.iconst 0) 1, mi .ireturn 1, mi (.aload 1) 1],
  [mi (.aload 0) 1, mi (.iload 3) 1, mi (.iconst 1) 1, mi .iadd 1, mi .iaload 1, mi (.aload 0) 1, mi (.iload 3) 1, mi (.iconst 2) 1, mi .iadd 1, mi .iaload 1, mi (.aload 0) 1, mi (.iload 3) 1, mi (.iconst 3) 1, mi .iadd 1, mi .iaload 1, mj (.invokevirtual 199) 3 163 3 94],
  [mz, mz, mi .pop 1, mi (.aload 2) 1, mi (.aload 0) 1, mi (.iload 3) 1, mi (.iconst 1) 1, mi .iadd 1, mi .iaload 1, mi (.aload 0) 1, mi (.iload 3) 1, mi (.iconst 2) 1, mi .iadd 1, mi .iaload 1, mi (.aload 0) 1, mi (.iload 3) 1],
  [mi (.iconst 3) 1, mi .iadd 1, mi .iaload 1, mj (.invokevirtual 202) 3 287 3 95, mz, mz, mi .pop 1, mi (.goto 49) 3, mz, mz, mi (.aload 1) 1, mi (.aload 0) 1, mi (.iload 3) 1, mi (.iconst 1) 1, mi .iadd 1, mi .iaload 1],
  [mj (.invokevirtual 203) 3 164 1 96, mz, mz, mi .pop 1, mi (.aload 2) 1, mi (.aload 0) 1, mi (.iload 3) 1, mi (.iconst 1) 1, mi .iadd 1, mi .iaload 1, mj (.invokevirtual 206) 3 288 1 97, mz, mz, mi .pop 1, mi (.goto 26) 3, mz],
  [mz, mi (.aload 1) 1, mi (.aload 0) 1, mi (.iload 3) 1, mi (.iconst 1) 1, mi .iadd 1, mi .iaload 1, mj (.invokevirtual 207) 3 165 1 98, mz, mz, mi .pop 1, mi (.aload 2) 1, mi (.aload 0) 1, mi (.iload 3) 1, mi (.iconst 1) 1, mi .iadd 1],
  [mi .iaload 1, mj (.invokevirtual 210) 3 289 1 99, mz, mz, mi .pop 1, mi (.goto 3) 3, mz, mz, mi (.iinc 3 6) 3, mz, mz, mi (.goto (-1849)) 3, mz, mz, mi (.iconst 1) 1, mi .ireturn 1]]
/-- a method: name, bytes, locals, what it returns, its owner, static (1), its arguments, its code -/
abbrev mMR : Type := MethodName × ByteArray × Nat × Option FieldType × Nat × Nat × Nat × List (List (Option mR))
def mM_0 : List mMR := [(yX0_init, cX0_init, 1, none, 0, 0, 0, kX0_init),
  (yX0_isFull, cX0_isFull, 1, (some .boolean), 0, 0, 0, kX0_isFull),
  (yX0_has, cX0_has, 2, (some .boolean), 0, 0, 1, kX0_has),
  (yX0_add, cX0_add, 2, (some .int), 0, 0, 1, kX0_add),
  (yX0_learn, cX0_learn, 3, none, 0, 0, 2, kX0_learn),
  (yX0_learnTroubles, cX0_learnTroubles, 8, none, 0, 0, 4, kX0_learnTroubles),
  (yX0_setDays, cX0_setDays, 2, none, 0, 0, 1, kX0_setDays),
  (yX0_setAll, cX0_setAll, 3, none, 0, 0, 2, kX0_setAll),
  (yX0_amount, cX0_amount, 3, (some .int), 0, 0, 1, kX0_amount),
  (yX0_inForce, cX0_inForce, 8, (some .int), 0, 0, 3, kX0_inForce),
  (yX1_init, cX1_init, 6, none, 1, 0, 5, kX1_init),
  (yX1_standsFor, cX1_standsFor, 2, (some .boolean), 1, 0, 1, kX1_standsFor),
  (yX2_init, cX2_init, 1, none, 2, 0, 0, kX2_init),
  (yX2_addTrack, cX2_addTrack, 4, (some .int), 2, 0, 3, kX2_addTrack),
  (yX2_countsFor, cX2_countsFor, 3, (some .boolean), 2, 0, 2, kX2_countsFor),
  (yX2_elsewhere, cX2_elsewhere, 3, (some .int), 2, 0, 1, kX2_elsewhere)]
def mM_1 : List mMR := [(yX2_firstElsewhere, cX2_firstElsewhere, 3, (some .int), 2, 0, 1, kX2_firstElsewhere),
  (yX2_lastThere, cX2_lastThere, 3, (some .int), 2, 0, 1, kX2_lastThere),
  (yX2_beginBreak, cX2_beginBreak, 3, (some .boolean), 2, 0, 2, kX2_beginBreak),
  (yX2_endBreak, cX2_endBreak, 4, none, 2, 0, 2, kX2_endBreak),
  (yX2_hoursBroken, cX2_hoursBroken, 7, (some .int), 2, 0, 3, kX2_hoursBroken),
  (yX3_init, cX3_init, 1, none, 3, 0, 0, kX3_init),
  (yX3_isPromised, cX3_isPromised, 1, (some .boolean), 3, 1, 1, kX3_isPromised),
  (yX3_joins, cX3_joins, 3, (some .boolean), 3, 0, 1, kX3_joins),
  (yX3_add, cX3_add, 2, (some .int), 3, 0, 1, kX3_add),
  (yX3_drive, cX3_drive, 8, (some .int), 3, 0, 1, kX3_drive),
  (yX3_rowAt, cX3_rowAt, 2, (some (.object "HireYard$Machine")), 3, 0, 1, kX3_rowAt),
  (yX3_dropOthers, cX3_dropOthers, 3, none, 3, 0, 0, kX3_dropOthers),
  (yX3_weight, cX3_weight, 4, (some .int), 3, 0, 1, kX3_weight),
  (yX3_sortByNumber, cX3_sortByNumber, 6, none, 3, 0, 1, kX3_sortByNumber),
  (yX3_rowMiles, cX3_rowMiles, 9, (some .int), 3, 0, 3, kX3_rowMiles),
  (yX3_customerTown, cX3_customerTown, 3, (some .int), 3, 0, 1, kX3_customerTown)]
def mM_2 : List mMR := [(yX3_keepRow, cX3_keepRow, 3, none, 3, 0, 1, kX3_keepRow),
  (yX3_nextTurn, cX3_nextTurn, 6, (some .boolean), 3, 0, 1, kX3_nextTurn),
  (yX3_swapTurns, cX3_swapTurns, 4, none, 3, 0, 2, kX3_swapTurns),
  (yX4_init, cX4_init, 6, none, 4, 0, 5, kX4_init),
  (yX4_isFree, cX4_isFree, 1, (some .boolean), 4, 0, 0, kX4_isFree),
  (yX4_sinceLook, cX4_sinceLook, 1, (some .int), 4, 0, 0, kX4_sinceLook),
  (yX4_hoursToLook, cX4_hoursToLook, 1, (some .int), 4, 0, 0, kX4_hoursToLook),
  (yX4_lookDue, cX4_lookDue, 1, (some .boolean), 4, 0, 0, kX4_lookDue),
  (yX4_lookLapses, cX4_lookLapses, 2, (some .boolean), 4, 0, 1, kX4_lookLapses),
  (yX4_beginLook, cX4_beginLook, 2, none, 4, 0, 1, kX4_beginLook),
  (yX4_load, cX4_load, 4, none, 4, 0, 3, kX4_load),
  (yX4_settle, cX4_settle, 2, none, 4, 0, 1, kX4_settle),
  (yX4_leave, cX4_leave, 3, none, 4, 0, 2, kX4_leave),
  (yX4_addLink, cX4_addLink, 3, (some .int), 4, 0, 2, kX4_addLink),
  (yX4_ownerOf, cX4_ownerOf, 2, (some .int), 4, 0, 1, kX4_ownerOf),
  (yX4_rateOf, cX4_rateOf, 2, (some .int), 4, 0, 1, kX4_rateOf)]
def mM_3 : List mMR := [(yX5_init, cX5_init, 1, none, 5, 0, 0, kX5_init),
  (yX5_isListed, cX5_isListed, 3, (some .boolean), 5, 0, 1, kX5_isListed),
  (yX5_add, cX5_add, 2, (some .int), 5, 0, 1, kX5_add),
  (yX5_begin, cX5_begin, 1, none, 5, 0, 0, kX5_begin),
  (yX5_offer, cX5_offer, 8, none, 5, 0, 3, kX5_offer),
  (yX5_costOf, cX5_costOf, 7, (some .long), 5, 1, 5, kX5_costOf),
  (yX5_leastCost, cX5_leastCost, 7, (some .long), 5, 0, 0, kX5_leastCost),
  (yX5_promise, cX5_promise, 9, (some .int), 5, 0, 2, kX5_promise),
  (yX6_init, cX6_init, 3, none, 6, 0, 2, kX6_init),
  (yX6_size, cX6_size, 1, (some .int), 6, 0, 0, kX6_size),
  (yX6_last, cX6_last, 1, (some .int), 6, 0, 0, kX6_last),
  (yX6_valueAt, cX6_valueAt, 2, (some .int), 6, 0, 1, kX6_valueAt),
  (yX6_toldAt, cX6_toldAt, 2, (some .boolean), 6, 0, 1, kX6_toldAt),
  (yX6_isAnother, cX6_isAnother, 2, (some .boolean), 6, 0, 1, kX6_isAnother),
  (yX6_tell, cX6_tell, 3, none, 6, 0, 2, kX6_tell),
  (yX6_grow, cX6_grow, 1, none, 6, 0, 0, kX6_grow)]
def mM_4 : List mMR := [(yX6_latestUpTo, cX6_latestUpTo, 6, (some .int), 6, 0, 1, kX6_latestUpTo),
  (yX6_earliestFrom, cX6_earliestFrom, 2, (some .int), 6, 0, 1, kX6_earliestFrom),
  (yX7_init, cX7_init, 7, none, 7, 0, 6, kX7_init),
  (yX7_objection, cX7_objection, 5, (some .int), 7, 0, 3, kX7_objection),
  (yX7_begun, cX7_begun, 2, (some .boolean), 7, 0, 1, kX7_begun),
  (yX7_isSubstitute, cX7_isSubstitute, 1, (some .boolean), 7, 0, 0, kX7_isSubstitute),
  (yX7_promise, cX7_promise, 2, none, 7, 0, 1, kX7_promise),
  (yX7_finish, cX7_finish, 2, none, 7, 0, 1, kX7_finish),
  (yX7_loseMachine, cX7_loseMachine, 2, none, 7, 0, 1, kX7_loseMachine),
  (yX7_endBy, cX7_endBy, 2, (some .int), 7, 0, 1, kX7_endBy),
  (yX7_dayCount, cX7_dayCount, 2, (some .int), 7, 0, 1, kX7_dayCount),
  (yX7_knownOfDay, cX7_knownOfDay, 11, (some .int), 7, 0, 2, kX7_knownOfDay),
  (yX7_daysWorked, cX7_daysWorked, 8, (some .int), 7, 0, 2, kX7_daysWorked),
  (yX7_hoursWorked, cX7_hoursWorked, 4, (some .int), 7, 0, 1, kX7_hoursWorked),
  (yX7_mayTell, cX7_mayTell, 2, (some .boolean), 7, 0, 1, kX7_mayTell),
  (yX7_tell, cX7_tell, 4, (some .int), 7, 0, 3, kX7_tell)]
def mM_5 : List mMR := [(yX7_newMarks, cX7_newMarks, 1, (some .int), 7, 0, 0, kX7_newMarks),
  (yX7_harmCoins, cX7_harmCoins, 4, (some .int), 7, 0, 0, kX7_harmCoins),
  (yX7_litresMissing, cX7_litresMissing, 1, (some .int), 7, 0, 0, kX7_litresMissing),
  (yX8_init, cX8_init, 1, none, 8, 0, 0, kX8_init),
  (yX8_found, cX8_found, 3, (some .int), 8, 0, 1, kX8_found),
  (yX8_has, cX8_has, 2, (some .boolean), 8, 0, 1, kX8_has),
  (yX8_hasYard, cX8_hasYard, 2, (some .boolean), 8, 0, 1, kX8_hasYard),
  (yX8_lay, cX8_lay, 6, (some .int), 8, 0, 3, kX8_lay),
  (yX8_shorten, cX8_shorten, 7, none, 8, 0, 5, kX8_shorten),
  (yX8_way, cX8_way, 3, (some .int), 8, 0, 2, kX8_way),
  (yX8_rideHours, cX8_rideHours, 4, (some .int), 8, 0, 2, kX8_rideHours),
  (yX9_init, cX9_init, 1, none, 9, 0, 0, kX9_init),
  (yX9_hasRoom, cX9_hasRoom, 1, (some .boolean), 9, 0, 0, kX9_hasRoom),
  (yX9_append, cX9_append, 3, none, 9, 0, 1, kX9_append),
  (yX9_compile, cX9_compile, 3, (some .int), 9, 0, 0, kX9_compile),
  (yX9_copyOfCode, cX9_copyOfCode, 1, (some (.array .int)), 9, 0, 0, kX9_copyOfCode)]
def mM_6 : List mMR := [(yX9_cut, cX9_cut, 4, none, 9, 0, 0, kX9_cut),
  (yX9_isLetter, cX9_isLetter, 2, (some .boolean), 9, 0, 1, kX9_isLetter),
  (yX9_isDigit, cX9_isDigit, 2, (some .boolean), 9, 0, 1, kX9_isDigit),
  (yX9_addToken, cX9_addToken, 4, none, 9, 0, 3, kX9_addToken),
  (yX9_numberOf, cX9_numberOf, 5, (some .int), 9, 0, 2, kX9_numberOf),
  (yX9_wordSort, cX9_wordSort, 8, (some .int), 9, 0, 2, kX9_wordSort),
  (yX9_sort, cX9_sort, 1, (some .int), 9, 0, 0, kX9_sort),
  (yX9_take, cX9_take, 2, (some .boolean), 9, 0, 1, kX9_take),
  (yX9_need, cX9_need, 2, none, 9, 0, 1, kX9_need),
  (yX9_fail, cX9_fail, 1, none, 9, 0, 0, kX9_fail),
  (yX9_number, cX9_number, 1, (some .int), 9, 0, 0, kX9_number),
  (yX9_emit, cX9_emit, 2, none, 9, 0, 1, kX9_emit),
  (yX9_step, cX9_step, 4, none, 9, 0, 0, kX9_step),
  (yX9_sum, cX9_sum, 4, none, 9, 0, 1, kX9_sum),
  (yX9_product, cX9_product, 4, none, 9, 0, 1, kX9_product),
  (yX9_operand, cX9_operand, 4, none, 9, 0, 1, kX9_operand)]
def mM_7 : List mMR := [(yX10_init, cX10_init, 5, none, 10, 0, 4, kX10_init),
  (yX10_inForce, cX10_inForce, 4, (some .boolean), 10, 0, 3, kX10_inForce),
  (yX10_give, cX10_give, 7, (some .int), 10, 0, 2, kX10_give),
  (yX10_run, cX10_run, 8, (some .int), 10, 0, 4, kX10_run),
  (yX10_work, cX10_work, 3, (some .int), 10, 1, 3, kX10_work),
  (yX11_init, cX11_init, 1, none, 11, 0, 0, kX11_init),
  (yX11_town, cX11_town, 2, (some .int), 11, 0, 1, kX11_town),
  (yX11_road, cX11_road, 4, (some .int), 11, 0, 3, kX11_road),
  (yX11_far, cX11_far, 4, (some .int), 11, 0, 2, kX11_far),
  (yX11_hours, cX11_hours, 4, (some .int), 11, 0, 1, kX11_hours),
  (yX11_rain, cX11_rain, 4, (some .int), 11, 0, 2, kX11_rain),
  (yX11_type, cX11_type, 6, (some .int), 11, 0, 4, kX11_type),
  (yX11_instead, cX11_instead, 6, (some .int), 11, 0, 3, kX11_instead),
  (yX11_mark, cX11_mark, 6, (some .int), 11, 0, 3, kX11_mark),
  (yX11_machine, cX11_machine, 5, (some .int), 11, 0, 3, kX11_machine),
  (yX11_link, cX11_link, 5, (some .int), 11, 0, 3, kX11_link)]
def mM_8 : List mMR := [(yX11_ofMachine, cX11_ofMachine, 4, (some .int), 11, 0, 2, kX11_ofMachine),
  (yX11_look, cX11_look, 4, (some .int), 11, 0, 2, kX11_look),
  (yX11_broken, cX11_broken, 4, (some .int), 11, 0, 2, kX11_broken),
  (yX11_gone, cX11_gone, 4, (some .int), 11, 0, 2, kX11_gone),
  (yX11_read, cX11_read, 5, (some .int), 11, 0, 2, kX11_read),
  (yX11_track, cX11_track, 3, (some .int), 11, 0, 2, kX11_track),
  (yX11_theft, cX11_theft, 4, (some .int), 11, 0, 2, kX11_theft),
  (yX11_customer, cX11_customer, 3, (some .int), 11, 0, 2, kX11_customer),
  (yX11_order, cX11_order, 9, (some .int), 11, 0, 5, kX11_order),
  (yX11_why, cX11_why, 5, (some .int), 11, 0, 2, kX11_why),
  (yX11_list, cX11_list, 3, (some .int), 11, 0, 1, kX11_list),
  (yX11_best, cX11_best, 3, (some .int), 11, 0, 0, kX11_best),
  (yX11_miles, cX11_miles, 1, (some .int), 11, 0, 0, kX11_miles),
  (yX11_round, cX11_round, 1, (some .int), 11, 0, 0, kX11_round),
  (yX11_stop, cX11_stop, 3, (some .int), 11, 0, 1, kX11_stop),
  (yX11_stopped, cX11_stopped, 3, (some .int), 11, 0, 1, kX11_stopped)]
def mM_9 : List mMR := [(yX11_send, cX11_send, 5, (some .int), 11, 0, 1, kX11_send),
  (yX11_fetch, cX11_fetch, 6, (some .int), 11, 0, 2, kX11_fetch),
  (yX11_off, cX11_off, 3, (some .int), 11, 0, 1, kX11_off),
  (yX11_ofOrder, cX11_ofOrder, 4, (some .int), 11, 0, 2, kX11_ofOrder),
  (yX11_said, cX11_said, 5, (some .int), 11, 0, 3, kX11_said),
  (yX11_days, cX11_days, 4, (some .int), 11, 0, 2, kX11_days),
  (yX11_dayOf, cX11_dayOf, 4, (some .int), 11, 0, 2, kX11_dayOf),
  (yX11_feed, cX11_feed, 6, (some .int), 11, 0, 5, kX11_feed),
  (yX11_end, cX11_end, 2, (some .int), 11, 0, 1, kX11_end),
  (yX11_terms, cX11_terms, 4, (some .int), 11, 0, 2, kX11_terms),
  (yX11_gives, cX11_gives, 5, (some .int), 11, 0, 3, kX11_gives),
  (yX11_bill, cX11_bill, 6, (some .int), 11, 0, 3, kX11_bill),
  (yX11_next, cX11_next, 6, (some .int), 11, 0, 2, kX11_next),
  (yX11_looked, cX11_looked, 5, (some .int), 11, 0, 3, kX11_looked),
  (yX11_fuel, cX11_fuel, 5, (some .int), 11, 0, 3, kX11_fuel),
  (yX11_harm, cX11_harm, 4, (some .int), 11, 0, 2, kX11_harm)]
def mM_10 : List mMR := [(yX11_share, cX11_share, 5, (some .int), 11, 0, 2, kX11_share),
  (yX11_chain, cX11_chain, 5, (some .int), 11, 0, 3, kX11_chain),
  (yX11_rank, cX11_rank, 4, (some .int), 11, 0, 2, kX11_rank),
  (yX11_idle, cX11_idle, 5, (some .int), 11, 0, 3, kX11_idle),
  (yX11_move, cX11_move, 9, (some .int), 11, 0, 1, kX11_move),
  (yX11_count, cX11_count, 2, (some .int), 11, 0, 1, kX11_count),
  (yX11_within, cX11_within, 3, (some .boolean), 11, 1, 3, kX11_within),
  (yX11_isFlag, cX11_isFlag, 1, (some .boolean), 11, 1, 1, kX11_isFlag),
  (yX11_kindOf, cX11_kindOf, 2, (some (.object "HireYard$Kind")), 11, 0, 1, kX11_kindOf),
  (yX11_machineOf, cX11_machineOf, 2, (some (.object "HireYard$Machine")), 11, 0, 1, kX11_machineOf),
  (yX11_orderOf, cX11_orderOf, 2, (some (.object "HireYard$Order")), 11, 0, 1, kX11_orderOf),
  (yX11_isCustomer, cX11_isCustomer, 2, (some .boolean), 11, 0, 1, kX11_isCustomer),
  (yX11_begunOrder, cX11_begunOrder, 3, (some (.object "HireYard$Order")), 11, 0, 1, kX11_begunOrder),
  (yX11_learn, cX11_learn, 2, none, 11, 0, 1, kX11_learn),
  (yX11_priceOf, cX11_priceOf, 3, (some .int), 11, 0, 2, kX11_priceOf),
  (yX11_idleIn, cX11_idleIn, 6, (some .int), 11, 0, 2, kX11_idleIn)]
def mM_11 : List mMR := [(yX11_wantedIn, cX11_wantedIn, 6, (some .int), 11, 0, 2, kX11_wantedIn),
  (yX11_machinesThatAre, cX11_machinesThatAre, 5, (some .int), 11, 0, 1, kX11_machinesThatAre),
  (yX11_ordersThatAre, cX11_ordersThatAre, 5, (some .int), 11, 0, 1, kX11_ordersThatAre),
  (yX12_init, cX12_init, 1, none, 12, 0, 0, kX12_init),
  (yX12_in, cX12_in, 3, (some .boolean), 12, 1, 3, kX12_in),
  (yX12_isDay, cX12_isDay, 1, (some .boolean), 12, 1, 1, kX12_isDay),
  (yX12_today, cX12_today, 1, (some .int), 12, 0, 0, kX12_today),
  (yX12_isTown, cX12_isTown, 2, (some .boolean), 12, 0, 1, kX12_isTown),
  (yX12_farOf, cX12_farOf, 3, (some .int), 12, 0, 2, kX12_farOf),
  (yX12_findFars, cX12_findFars, 5, none, 12, 0, 0, kX12_findFars),
  (yX12_town, cX12_town, 2, (some .int), 12, 0, 1, kX12_town),
  (yX12_road, cX12_road, 6, (some .int), 12, 0, 3, kX12_road),
  (yX12_far, cX12_far, 3, (some .int), 12, 0, 2, kX12_far),
  (yX12_rain, cX12_rain, 4, (some .int), 12, 0, 2, kX12_rain),
  (yX12_isType, cX12_isType, 2, (some .boolean), 12, 0, 1, kX12_isType),
  (yX12_isMachine, cX12_isMachine, 2, (some .boolean), 12, 0, 1, kX12_isMachine)]
def mM_12 : List mMR := [(yX12_type, cX12_type, 5, (some .int), 12, 0, 4, kX12_type),
  (yX12_instead, cX12_instead, 5, (some .int), 12, 0, 3, kX12_instead),
  (yX12_mark, cX12_mark, 5, (some .int), 12, 0, 3, kX12_mark),
  (yX12_addReading, cX12_addReading, 3, none, 12, 0, 2, kX12_addReading),
  (yX12_readBy, cX12_readBy, 4, (some .int), 12, 0, 2, kX12_readBy),
  (yX12_readFrom, cX12_readFrom, 4, (some .int), 12, 0, 2, kX12_readFrom),
  (yX12_machine, cX12_machine, 5, (some .int), 12, 0, 3, kX12_machine),
  (yX12_link, cX12_link, 4, (some .int), 12, 0, 3, kX12_link),
  (yX12_sinceLook, cX12_sinceLook, 2, (some .int), 12, 0, 1, kX12_sinceLook),
  (yX12_isDue, cX12_isDue, 2, (some .boolean), 12, 0, 1, kX12_isDue),
  (yX12_lapses, cX12_lapses, 3, (some .boolean), 12, 0, 2, kX12_lapses),
  (yX12_ofMachine, cX12_ofMachine, 4, (some .int), 12, 0, 2, kX12_ofMachine),
  (yX12_isFree, cX12_isFree, 2, (some .boolean), 12, 0, 1, kX12_isFree),
  (yX12_look, cX12_look, 3, (some .int), 12, 0, 2, kX12_look),
  (yX12_endSpan, cX12_endSpan, 3, none, 12, 0, 1, kX12_endSpan),
  (yX12_broken, cX12_broken, 3, (some .int), 12, 0, 2, kX12_broken)]
def mM_13 : List mMR := [(yX12_gone, cX12_gone, 4, (some .int), 12, 0, 2, kX12_gone),
  (yX12_read, cX12_read, 4, (some .int), 12, 0, 2, kX12_read),
  (yX12_track, cX12_track, 3, (some .int), 12, 0, 2, kX12_track),
  (yX12_theft, cX12_theft, 5, (some .int), 12, 0, 2, kX12_theft),
  (yX12_hours, cX12_hours, 3, (some .int), 12, 0, 1, kX12_hours),
  (yX12_arrive, cX12_arrive, 2, none, 12, 0, 1, kX12_arrive),
  (yX12_load, cX12_load, 5, none, 12, 0, 3, kX12_load),
  (yX12_isCustomer, cX12_isCustomer, 2, (some .boolean), 12, 0, 1, kX12_isCustomer),
  (yX12_isOrder, cX12_isOrder, 2, (some .boolean), 12, 0, 1, kX12_isOrder),
  (yX12_customer, cX12_customer, 3, (some .int), 12, 0, 2, kX12_customer),
  (yX12_order, cX12_order, 8, (some .int), 12, 0, 5, kX12_order),
  (yX12_townOfOrder, cX12_townOfOrder, 2, (some .int), 12, 0, 1, kX12_townOfOrder),
  (yX12_whyNot, cX12_whyNot, 5, (some .int), 12, 0, 2, kX12_whyNot),
  (yX12_why, cX12_why, 3, (some .int), 12, 0, 2, kX12_why),
  (yX12_list, cX12_list, 3, (some .int), 12, 0, 1, kX12_list),
  (yX12_mayHave, cX12_mayHave, 3, (some .boolean), 12, 0, 2, kX12_mayHave)]
def mM_14 : List mMR := [(yX12_findWorths, cX12_findWorths, 3, none, 12, 0, 0, kX12_findWorths),
  (yX12_worthBy, cX12_worthBy, 3, (some .long), 12, 0, 2, kX12_worthBy),
  (yX12_most, cX12_most, 8, (some .long), 12, 0, 1, kX12_most),
  (yX12_best, cX12_best, 6, (some .int), 12, 0, 0, kX12_best),
  (yX12_miles, cX12_miles, 1, (some .int), 12, 0, 0, kX12_miles),
  (yX12_isPromised, cX12_isPromised, 2, (some .boolean), 12, 0, 1, kX12_isPromised),
  (yX12_stop, cX12_stop, 3, (some .int), 12, 0, 1, kX12_stop),
  (yX12_milesOfRow, cX12_milesOfRow, 6, (some .int), 12, 0, 1, kX12_milesOfRow),
  (yX12_isUsed, cX12_isUsed, 3, (some .boolean), 12, 0, 1, kX12_isUsed),
  (yX12_round, cX12_round, 7, (some .int), 12, 0, 0, kX12_round),
  (yX12_stopped, cX12_stopped, 2, (some .int), 12, 0, 1, kX12_stopped),
  (yX12_send, cX12_send, 3, (some .int), 12, 0, 1, kX12_send),
  (yX12_hasBegun, cX12_hasBegun, 2, (some .boolean), 12, 0, 1, kX12_hasBegun),
  (yX12_fetch, cX12_fetch, 4, (some .int), 12, 0, 2, kX12_fetch),
  (yX12_off, cX12_off, 2, (some .int), 12, 0, 1, kX12_off),
  (yX12_ofOrder, cX12_ofOrder, 3, (some .int), 12, 0, 2, kX12_ofOrder)]
def mM_15 : List mMR := [(yX12_endOf, cX12_endOf, 2, (some .int), 12, 0, 1, kX12_endOf),
  (yX12_daysOf, cX12_daysOf, 2, (some .int), 12, 0, 1, kX12_daysOf),
  (yX12_said, cX12_said, 4, (some .int), 12, 0, 3, kX12_said),
  (yX12_dayIs, cX12_dayIs, 10, (some .int), 12, 0, 2, kX12_dayIs),
  (yX12_worked, cX12_worked, 6, (some .int), 12, 0, 2, kX12_worked),
  (yX12_days, cX12_days, 3, (some .int), 12, 0, 2, kX12_days),
  (yX12_dayOf, cX12_dayOf, 3, (some .int), 12, 0, 2, kX12_dayOf),
  (yX12_feed, cX12_feed, 6, (some .int), 12, 0, 5, kX12_feed),
  (yX12_feedOne, cX12_feedOne, 3, none, 12, 0, 1, kX12_feedOne),
  (yX12_end, cX12_end, 2, (some .int), 12, 0, 1, kX12_end),
  (yX12_isLetter, cX12_isLetter, 1, (some .boolean), 12, 1, 1, kX12_isLetter),
  (yX12_isDigit, cX12_isDigit, 1, (some .boolean), 12, 1, 1, kX12_isDigit),
  (yX12_nextToken, cX12_nextToken, 1, none, 12, 0, 0, kX12_nextToken),
  (yX12_isWord, cX12_isWord, 6, (some .boolean), 12, 0, 1, kX12_isWord),
  (yX12_wrong, cX12_wrong, 1, none, 12, 0, 0, kX12_wrong),
  (yX12_lay, cX12_lay, 4, none, 12, 0, 3, kX12_lay)]
def mM_16 : List mMR := [(yX12_takes, cX12_takes, 2, (some .boolean), 12, 0, 1, kX12_takes),
  (yX12_opens, cX12_opens, 1, (some .boolean), 12, 0, 0, kX12_opens),
  (yX12_closes, cX12_closes, 1, (some .boolean), 12, 0, 0, kX12_closes),
  (yX12_nameOf, cX12_nameOf, 2, (some .int), 12, 0, 0, kX12_nameOf),
  (yX12_operand, cX12_operand, 2, none, 12, 0, 0, kX12_operand),
  (yX12_product, cX12_product, 2, none, 12, 0, 0, kX12_product),
  (yX12_sum, cX12_sum, 2, none, 12, 0, 0, kX12_sum),
  (yX12_step, cX12_step, 3, none, 12, 0, 0, kX12_step),
  (yX12_terms, cX12_terms, 3, (some .int), 12, 0, 2, kX12_terms),
  (yX12_both, cX12_both, 3, (some .int), 12, 1, 3, kX12_both),
  (yX12_works, cX12_works, 6, (some .int), 12, 0, 1, kX12_works),
  (yX12_hoursOf, cX12_hoursOf, 4, (some .int), 12, 0, 1, kX12_hoursOf),
  (yX12_rainOf, cX12_rainOf, 4, (some .int), 12, 0, 1, kX12_rainOf),
  (yX12_brokenOf, cX12_brokenOf, 7, (some .int), 12, 0, 1, kX12_brokenOf),
  (yX12_marksFound, cX12_marksFound, 2, (some .int), 12, 0, 1, kX12_marksFound),
  (yX12_harmOf, cX12_harmOf, 4, (some .int), 12, 0, 1, kX12_harmOf)]
def mM_17 : List mMR := [(yX12_fuelOf, cX12_fuelOf, 2, (some .int), 12, 0, 1, kX12_fuelOf),
  (yX12_tell, cX12_tell, 6, none, 12, 0, 3, kX12_tell),
  (yX12_gives, cX12_gives, 4, (some .int), 12, 0, 3, kX12_gives),
  (yX12_lesser, cX12_lesser, 8, (some .int), 12, 0, 3, kX12_lesser),
  (yX12_bill, cX12_bill, 5, (some .int), 12, 0, 3, kX12_bill),
  (yX12_next, cX12_next, 5, (some .int), 12, 0, 2, kX12_next),
  (yX12_mayTell, cX12_mayTell, 3, (some .boolean), 12, 0, 2, kX12_mayTell),
  (yX12_looked, cX12_looked, 4, (some .int), 12, 0, 3, kX12_looked),
  (yX12_fuel, cX12_fuel, 4, (some .int), 12, 0, 3, kX12_fuel),
  (yX12_harm, cX12_harm, 3, (some .int), 12, 0, 2, kX12_harm),
  (yX12_share, cX12_share, 5, (some .int), 12, 0, 2, kX12_share),
  (yX12_chain, cX12_chain, 4, (some .int), 12, 0, 3, kX12_chain),
  (yX12_rank, cX12_rank, 3, (some .int), 12, 0, 2, kX12_rank),
  (yX12_idleOf, cX12_idleOf, 5, (some .int), 12, 0, 2, kX12_idleOf),
  (yX12_wantedOf, cX12_wantedOf, 5, (some .int), 12, 0, 2, kX12_wantedOf),
  (yX12_idle, cX12_idle, 4, (some .int), 12, 0, 3, kX12_idle)]
def mM_18 : List mMR := [(yX12_move, cX12_move, 8, (some .int), 12, 0, 1, kX12_move),
  (yX12_count, cX12_count, 4, (some .int), 12, 0, 1, kX12_count),
  (yJ7_fill_d0a16, cJ7_fill_d0a16, 5, none, 15, 1, 2, kJ7_fill_d0a16),
  (yJ7_copyOf_59c91, cJ7_copyOf_59c91, 3, (some (.array .int)), 15, 1, 2, kJ7_copyOf_59c91),
  (yL_law, cL_law, 4, (some .boolean), 13, 1, 1, kL_law)]
def mM : List (List mMR) := [mM_0, mM_1, mM_2, mM_3, mM_4, mM_5, mM_6, mM_7, mM_8, mM_9, mM_10, mM_11, mM_12, mM_13, mM_14, mM_15, mM_16, mM_17, mM_18]
/-- where a method's words stand in lw_tbl: its code, its class's being initialized, static or instanceMethod, selects -/
def mHt_0 : List (Nat × Nat × Nat × Nat) := [(1206, 1031, 1205, 0), (5120, 1031, 4334, 4335), (5276, 1031, 5274, 5275), (5267, 1031, 5265, 5266), (5284, 1031, 5282, 5283), (5316, 1031, 5314, 5315), (5327, 1031, 5325, 5326), (5293, 1031, 5291, 5292), (5331, 1031, 5329, 5330), (5354, 1031, 5352, 5353), (2126, 1033, 2125, 0), (4102, 1033, 4100, 4101), (1087, 1027, 1086, 0), (3192, 1027, 3190, 3191), (3208, 1027, 3207, 6), (3204, 1027, 3203, 5)]
def mHt_1 : List (Nat × Nat × Nat × Nat) := [(3212, 1027, 3210, 3211), (3200, 1027, 3198, 3199), (3128, 1027, 3126, 3127), (3124, 1027, 3122, 3123), (5321, 1027, 5319, 5320), (1145, 1029, 1144, 0), (4189, 1029, 4188, 0), (4230, 1029, 4229, 19), (4226, 1029, 4224, 4225), (4182, 1029, 4180, 4181), (4238, 1029, 4236, 4237), (4186, 1029, 4185, 11), (4193, 1029, 4192, 12), (4197, 1029, 4196, 13), (4201, 1029, 4200, 14), (4205, 1029, 4204, 15)]
def mHt_2 : List (Nat × Nat × Nat × Nat) := [(4210, 1029, 4209, 16), (4214, 1029, 4213, 17), (4218, 1029, 4217, 18), (2185, 1034, 2184, 0), (3112, 1034, 3110, 3111), (3095, 1034, 3093, 3094), (3100, 1034, 3098, 3099), (4106, 1034, 4104, 4105), (4110, 1034, 4108, 4109), (3116, 1034, 3114, 3115), (4248, 1034, 4246, 4247), (2113, 1034, 2111, 2112), (3148, 1034, 3146, 3147), (3078, 1034, 3076, 3077), (6192, 1034, 6190, 6191), (6184, 1034, 6182, 6183)]
def mHt_3 : List (Nat × Nat × Nat × Nat) := [(1119, 1028, 1118, 0), (4127, 1028, 4126, 9), (4123, 1028, 4121, 4122), (4135, 1028, 4133, 4134), (4143, 1028, 4141, 4142), (4146, 1028, 4145, 0), (4163, 1028, 4162, 10), (4159, 1028, 4157, 4158), (2191, 1035, 2190, 0), (4307, 1035, 4305, 4306), (3087, 1035, 3085, 3086), (3091, 1035, 3089, 3090), (3160, 1035, 3159, 3), (3156, 1035, 3154, 3155), (3164, 1035, 3162, 3163), (3168, 1035, 3167, 4)]
def mHt_4 : List (Nat × Nat × Nat × Nat) := [(4301, 1035, 4299, 4300), (4297, 1035, 4295, 4296), (3228, 1039, 3227, 0), (4098, 1039, 4096, 4097), (3140, 1039, 3138, 3139), (5312, 1039, 5310, 5311), (4170, 1039, 4168, 4169), (3144, 1039, 3142, 3143), (3136, 1039, 3134, 3135), (4283, 1039, 4281, 4282), (4279, 1039, 4277, 4278), (4292, 1039, 4290, 4291), (4287, 1039, 4285, 4286), (5288, 1039, 5286, 5287), (6165, 1039, 6164, 40), (6161, 1039, 6159, 6160)]
def mHt_5 : List (Nat × Nat × Nat × Nat) := [(5308, 1039, 5306, 5307), (5304, 1039, 5302, 5303), (5299, 1039, 5297, 5298), (1057, 1026, 1056, 0), (2073, 1026, 2071, 2072), (2081, 1026, 2079, 2080), (2181, 1026, 2179, 2180), (2088, 1026, 2086, 2087), (2093, 1026, 2092, 0), (2101, 1026, 2099, 2100), (4114, 1026, 4112, 4113), (1168, 1030, 1167, 0), (4320, 1030, 4318, 4319), (4324, 1030, 4322, 4323), (5124, 1030, 5122, 5123), (5244, 1030, 5242, 5243)]
def mHt_6 : List (Nat × Nat × Nat × Nat) := [(5128, 1030, 5127, 21), (5132, 1030, 5131, 22), (5193, 1030, 5192, 25), (5189, 1030, 5188, 24), (5197, 1030, 5196, 26), (5136, 1030, 5135, 23), (5210, 1030, 5209, 29), (5206, 1030, 5205, 28), (5222, 1030, 5221, 32), (5218, 1030, 5217, 31), (5214, 1030, 5213, 30), (5226, 1030, 5225, 33), (5201, 1030, 5200, 27), (5230, 1030, 5229, 34), (5234, 1030, 5233, 35), (5238, 1030, 5237, 36)]
def mHt_7 : List (Nat × Nat × Nat × Nat) := [(5248, 1044, 5247, 0), (5358, 1044, 5356, 5357), (5336, 1044, 5334, 5335), (5341, 1044, 5340, 38), (5344, 1044, 5343, 0), (1049, 1025, 1048, 0), (2066, 1025, 2064, 2065), (2077, 1025, 2075, 2076), (2097, 1025, 2095, 2096), (2105, 1025, 2103, 2104), (2117, 1025, 2115, 2116), (2121, 1025, 2119, 2120), (2165, 1025, 2163, 2164), (2173, 1025, 2171, 2172), (2177, 1025, 2175, 2176), (3074, 1025, 3072, 3073)]
def mHt_8 : List (Nat × Nat × Nat × Nat) := [(3082, 1025, 3080, 3081), (3108, 1025, 3106, 3107), (3120, 1025, 3118, 3119), (3132, 1025, 3130, 3131), (3152, 1025, 3150, 3151), (3188, 1025, 3186, 3187), (3196, 1025, 3194, 3195), (3216, 1025, 3214, 3215), (3220, 1025, 3218, 3219), (3306, 1025, 3304, 3305), (4119, 1025, 4117, 4118), (4131, 1025, 4129, 4130), (4174, 1025, 4172, 4173), (4178, 1025, 4176, 4177), (4222, 1025, 4220, 4221), (4234, 1025, 4232, 4233)]
def mHt_9 : List (Nat × Nat × Nat × Nat) := [(4242, 1025, 4240, 4241), (4253, 1025, 4251, 4252), (4259, 1025, 4257, 4258), (4263, 1025, 4261, 4262), (4267, 1025, 4265, 4266), (4271, 1025, 4269, 4270), (4311, 1025, 4309, 4310), (4316, 1025, 4314, 4315), (4328, 1025, 4326, 4327), (4332, 1025, 4330, 4331), (5272, 1025, 5270, 5271), (5350, 1025, 5348, 5349), (6147, 1025, 6145, 6146), (6156, 1025, 6154, 6155), (6169, 1025, 6167, 6168), (6173, 1025, 6171, 6172)]
def mHt_10 : List (Nat × Nat × Nat × Nat) := [(6180, 1025, 6178, 6179), (6188, 1025, 6186, 6187), (6196, 1025, 6194, 6195), (6200, 1025, 6198, 6199), (6212, 1025, 6210, 6211), (6216, 1025, 6214, 6215), (2084, 1025, 2083, 0), (2069, 1025, 2068, 0), (2169, 1025, 2168, 2), (2109, 1025, 2108, 1), (3310, 1025, 3309, 8), (3224, 1025, 3223, 7), (4275, 1025, 4274, 20), (5280, 1025, 5279, 37), (6151, 1025, 6150, 39), (6204, 1025, 6203, 41)]
def mHt_11 : List (Nat × Nat × Nat × Nat) := [(6208, 1025, 6207, 42), (6220, 1025, 6219, 43), (6224, 1025, 6223, 44), (6229, 1032, 6228, 0), (7312, 1032, 7311, 0), (7340, 1032, 7339, 0), (9224, 1032, 9223, 89), (7329, 1032, 7328, 47), (7321, 1032, 7320, 46), (7316, 1032, 7315, 45), (7309, 1032, 7307, 7308), (7325, 1032, 7323, 7324), (7333, 1032, 7331, 7332), (7337, 1032, 7335, 7336), (7353, 1032, 7352, 48), (7373, 1032, 7372, 50)]
def mHt_12 : List (Nat × Nat × Nat × Nat) := [(7344, 1032, 7342, 7343), (7349, 1032, 7347, 7348), (7357, 1032, 7355, 7356), (7365, 1032, 7364, 49), (8198, 1032, 8197, 55), (8353, 1032, 8352, 75), (7361, 1032, 7359, 7360), (7369, 1032, 7367, 7368), (7382, 1032, 7381, 51), (8242, 1032, 8241, 60), (8246, 1032, 8245, 61), (7377, 1032, 7375, 7376), (7390, 1032, 7389, 52), (7386, 1032, 7384, 7385), (7398, 1032, 7397, 53), (7394, 1032, 7392, 7393)]
def mHt_13 : List (Nat × Nat × Nat × Nat) := [(7402, 1032, 7400, 7401), (8194, 1032, 8192, 8193), (8202, 1032, 8200, 8201), (8206, 1032, 8204, 8205), (8210, 1032, 8208, 8209), (8214, 1032, 8213, 56), (8313, 1032, 8312, 70), (8226, 1032, 8225, 57), (8234, 1032, 8233, 58), (8218, 1032, 8216, 8217), (8222, 1032, 8220, 8221), (8250, 1032, 8249, 62), (8238, 1032, 8237, 59), (8230, 1032, 8228, 8229), (8254, 1032, 8252, 8253), (8277, 1032, 8276, 66)]
def mHt_14 : List (Nat × Nat × Nat × Nat) := [(8262, 1032, 8261, 63), (8266, 1032, 8265, 64), (8273, 1032, 8272, 65), (8258, 1032, 8256, 8257), (8281, 1032, 8279, 8280), (8289, 1032, 8288, 67), (8285, 1032, 8283, 8284), (8301, 1032, 8300, 69), (8297, 1032, 8296, 68), (8293, 1032, 8291, 8292), (8305, 1032, 8303, 8304), (8309, 1032, 8307, 8308), (7406, 1032, 7405, 54), (8317, 1032, 8315, 8316), (8321, 1032, 8319, 8320), (8325, 1032, 8323, 8324)]
def mHt_15 : List (Nat × Nat × Nat × Nat) := [(8341, 1032, 8340, 72), (8337, 1032, 8336, 71), (8329, 1032, 8327, 8328), (8349, 1032, 8348, 74), (8345, 1032, 8344, 73), (8333, 1032, 8331, 8332), (8357, 1032, 8355, 8356), (8361, 1032, 8359, 8360), (8365, 1032, 8364, 76), (8369, 1032, 8367, 8368), (8380, 1032, 8379, 0), (8383, 1032, 8382, 0), (8377, 1032, 8376, 77), (8392, 1032, 8391, 79), (8402, 1032, 8401, 81), (8408, 1032, 8407, 82)]
def mHt_16 : List (Nat × Nat × Nat × Nat) := [(8398, 1032, 8397, 80), (9216, 1032, 8431, 87), (9220, 1032, 9219, 88), (8424, 1032, 8423, 86), (8420, 1032, 8419, 85), (8416, 1032, 8415, 84), (8412, 1032, 8411, 83), (8387, 1032, 8386, 78), (8373, 1032, 8371, 8372), (9264, 1032, 9263, 0), (9260, 1032, 9259, 97), (9236, 1032, 9235, 91), (9240, 1032, 9239, 92), (9244, 1032, 9243, 93), (9256, 1032, 9255, 96), (9252, 1032, 9251, 95)]
def mHt_17 : List (Nat × Nat × Nat × Nat) := [(9248, 1032, 9247, 94), (9232, 1032, 9231, 90), (9228, 1032, 9226, 9227), (9272, 1032, 9271, 98), (9268, 1032, 9266, 9267), (9276, 1032, 9274, 9275), (9285, 1032, 9284, 99), (9280, 1032, 9278, 9279), (9289, 1032, 9287, 9288), (9293, 1032, 9291, 9292), (9297, 1032, 9295, 9296), (9301, 1032, 9299, 9300), (9305, 1032, 9303, 9304), (9313, 1032, 9312, 100), (9317, 1032, 9316, 101), (9309, 1032, 9307, 9308)]
def mHt_18 : List (Nat × Nat × Nat × Nat) := [(9321, 1032, 9319, 9320), (9325, 1032, 9323, 9324), (4139, 1037, 4138, 0), (3171, 1037, 3170, 0), (0, 0, 0, 0)]
def mHt : List (List (Nat × Nat × Nat × Nat)) := [mHt_0, mHt_1, mHt_2, mHt_3, mHt_4, mHt_5, mHt_6, mHt_7, mHt_8, mHt_9, mHt_10, mHt_11, mHt_12, mHt_13, mHt_14, mHt_15, mHt_16, mHt_17, mHt_18]
/-- Object.<init>: its two words; the law's number -/
def mOi : Nat × Nat := (1051, 1052)
def mLaw : Nat := 292
/-- a class's pool: index, kind, two numbers, place in lw_tbl, value -/
abbrev mPE : Type := Nat × Nat × Nat × Nat × Nat × Int
def mP_0 : List (List mPE) := [[(3, 9, 0, 0, 1207, 0), (11, 10, 6, 10, 1208, 0), (13, 0, 0, 0, 1210, 0), (19, 0, 0, 2, 1213, 0), (23, 0, 0, 3, 1214, 0), (26, 0, 0, 1, 1211, 0), (30, 2, 1, 0, 5268, 0), (34, 2, 77, 0, 5285, 0), (40, 2, 74, 0, 5289, 0), (43, 2, 7, 0, 5290, 0), (47, 2, 76, 0, 5295, 0), (51, 1, 7, 5, 3242, 0), (55, 1, 1, 3, 2135, 0), (60, 2, 82, 0, 5296, 0), (64, 2, 81, 0, 5301, 0), (67, 1, 7, 10, 3257, 0)],
  [(71, 1, 4, 1, 2214, 0), (74, 1, 1, 5, 2139, 0), (77, 1, 4, 15, 2251, 0), (80, 2, 69, 0, 5309, 0), (83, 2, 73, 0, 5317, 0), (86, 1, 7, 11, 3260, 0), (89, 1, 4, 0, 2209, 0), (92, 2, 20, 0, 5318, 0), (98, 1, 7, 3, 3237, 0), (101, 11, 0, 0, 5294, 0), (106, 2, 2, 0, 5332, 0), (110, 2, 114, 0, 5333, 0), (114, 2, 113, 0, 5355, 0), (118, 2, 8, 0, 5359, 0)]]
def mP_1 : List (List mPE) := [[(3, 9, 0, 0, 2127, 0), (9, 0, 1, 6, 2140, 0), (15, 0, 1, 7, 2143, 0), (19, 0, 1, 0, 2128, 0), (23, 0, 1, 1, 2130, 0), (26, 0, 1, 2, 2132, 0), (29, 0, 1, 3, 2134, 0), (32, 0, 1, 4, 2136, 0), (35, 0, 1, 5, 2138, 0)]]
def mP_2 : List (List mPE) := [[(3, 9, 0, 0, 1088, 0), (11, 0, 2, 0, 1089, 0), (15, 0, 2, 1, 1090, 0), (18, 0, 2, 2, 1091, 0), (21, 0, 2, 4, 1094, 0), (24, 0, 2, 5, 1095, 0), (27, 0, 2, 6, 1096, 0), (30, 0, 2, 3, 1092, 0), (34, 1, 4, 0, 2207, 0), (39, 1, 4, 7, 2236, 0), (42, 1, 4, 12, 2248, 0), (45, 2, 14, 0, 3205, 0), (49, 1, 4, 11, 2245, 0), (52, 2, 15, 0, 3201, 0), (56, 0, 2, 7, 1097, 0), (59, 11, 1, 0, 5322, 0)],
  [(65, 11, 0, 0, 5323, 0)]]
def mP_3 : List (List mPE) := [[(3, 9, 0, 0, 1146, 0), (11, 10, 4, 4, 1147, 0), (13, 0, 3, 0, 1148, 0), (17, 0, 3, 2, 1150, 0), (20, 0, 3, 4, 1152, 0), (24, 1, 4, 9, 2238, 0), (28, 1, 7, 9, 3252, 0), (34, 0, 3, 1, 1149, 0), (37, 1, 4, 4, 2227, 0), (40, 2, 22, 0, 4187, 0), (44, 1, 4, 3, 2223, 0), (47, 2, 23, 0, 4227, 0), (50, 2, 27, 0, 4183, 0), (53, 2, 28, 0, 4190, 0), (57, 2, 29, 0, 4194, 0), (61, 2, 30, 0, 4198, 0)],
  [(65, 2, 32, 0, 4207, 0), (68, 2, 33, 0, 4211, 0), (72, 0, 3, 3, 1151, 0), (75, 1, 4, 1, 2216, 0), (79, 1, 1, 1, 2131, 0), (83, 1, 4, 0, 2210, 0), (86, 2, 31, 0, 4202, 0), (89, 2, 89, 0, 4206, 0), (95, 1, 7, 7, 3248, 0), (96, 2, 34, 0, 4215, 0)]]
def mP_4 : List (List mPE) := [[(3, 9, 0, 0, 2186, 0), (9, 0, 4, 6, 2233, 0), (15, 0, 4, 11, 2244, 0), (18, 0, 4, 12, 2247, 0), (21, 0, 4, 13, 2249, 0), (25, 0, 4, 14, 2250, 0), (28, 0, 4, 0, 2206, 0), (31, 0, 4, 1, 2212, 0), (35, 0, 4, 4, 2225, 0), (38, 0, 4, 7, 2235, 0), (41, 4, 6, 0, 2187, 0), (43, 2, 56, 0, 2189, 0), (46, 0, 4, 2, 2218, 0), (50, 0, 4, 5, 2230, 0), (53, 0, 4, 3, 2221, 0), (56, 0, 4, 9, 2239, 0)],
  [(60, 2, 58, 0, 3096, 0), (64, 0, 4, 8, 2237, 0), (67, 1, 1, 2, 2133, 0), (72, 2, 37, 0, 3101, 0), (75, 11, 0, 0, 3102, 0), (81, 2, 43, 0, 4249, 0), (85, 0, 4, 15, 2252, 0)]]
def mP_5 : List (List mPE) := [[(5, 9, 0, 0, 1120, 0), (11, 10, 5, 7, 1121, 0), (13, 0, 5, 0, 1122, 0), (17, 0, 5, 2, 1125, 0), (21, 0, 5, 3, 1127, 0), (25, 0, 5, 4, 1128, 0), (28, 0, 5, 1, 1123, 0), (31, 1, 7, 9, 3253, 0), (34, 2, 49, 0, 4124, 0), (38, 7, 0, 0, 4136, 4000000000000000000), (40, 2, 290, 0, 4137, 0), (46, 2, 53, 0, 4144, 0), (50, 11, 2, 0, 4153, 0), (56, 2, 67, 0, 4147, 0), (60, 7, 0, 0, 4148, 4542954016328), (62, 1, 4, 4, 2228, 0)],
  [(67, 1, 7, 7, 3247, 0), (68, 2, 89, 0, 4149, 0), (74, 8, 0, 0, 4150, 0), (77, 1, 4, 0, 2208, 0), (80, 1, 4, 1, 2215, 0), (84, 1, 7, 5, 3243, 0), (85, 7, 0, 0, 4152, 567869252041), (87, 7, 0, 0, 4164, 148863517207035904), (89, 7, 0, 0, 4165, 90), (91, 2, 54, 0, 4160, 0), (95, 7, 0, 0, 4166, 91), (97, 2, 70, 0, 4167, 0)]]
def mP_6 : List (List mPE) := [[(1, 9, 0, 0, 2192, 0), (7, 0, 6, 0, 2193, 0), (13, 0, 6, 1, 2194, 0), (16, 0, 6, 2, 2195, 0), (20, 0, 6, 3, 2196, 0), (24, 2, 59, 0, 3088, 0), (28, 2, 60, 0, 3157, 0), (32, 2, 63, 0, 3165, 0), (35, 2, 291, 0, 3169, 0), (41, 2, 64, 0, 4298, 0)]]
def mP_7 : List (List mPE) := [[(3, 9, 0, 0, 3229, 0), (9, 0, 7, 11, 3259, 0), (15, 0, 7, 12, 3262, 0), (18, 0, 7, 13, 3264, 0), (22, 0, 7, 14, 3266, 0), (26, 0, 7, 15, 3268, 0), (29, 0, 7, 0, 3230, 0), (32, 0, 7, 5, 3241, 0), (36, 0, 7, 1, 3232, 0), (39, 0, 7, 2, 3234, 0), (42, 0, 7, 3, 3236, 0), (45, 0, 7, 4, 3239, 0), (48, 1, 4, 5, 2231, 0), (53, 1, 4, 3, 2222, 0), (56, 1, 4, 1, 2213, 0), (57, 2, 11, 0, 4099, 0)],
  [(63, 0, 7, 8, 3250, 0), (66, 1, 1, 4, 2137, 0), (69, 2, 39, 0, 4103, 0), (73, 2, 40, 0, 4107, 0), (77, 1, 4, 4, 2226, 0), (80, 0, 7, 7, 3246, 0), (81, 2, 90, 0, 4111, 0), (87, 1, 4, 9, 2240, 0), (91, 0, 7, 10, 3256, 0), (95, 0, 7, 9, 3254, 0), (96, 2, 68, 0, 3137, 0), (99, 2, 71, 0, 3141, 0), (103, 2, 73, 0, 4280, 0), (107, 1, 4, 2, 2219, 0), (111, 11, 1, 0, 4293, 0), (116, 2, 65, 0, 4294, 0)],
  [(121, 2, 64, 0, 4302, 0), (124, 2, 59, 0, 4303, 0), (127, 2, 57, 0, 4304, 0), (131, 2, 74, 0, 4288, 0), (134, 2, 75, 0, 4289, 0), (137, 1, 4, 10, 2242, 0), (140, 2, 78, 0, 6162, 0), (143, 2, 80, 0, 5305, 0), (146, 1, 1, 6, 2142, 0), (149, 11, 0, 0, 5300, 0)]]
def mP_8 : List (List mPE) := [[(3, 9, 0, 0, 1058, 0), (9, 0, 8, 0, 1061, 0), (15, 5, 0, 0, 1059, 0), (17, 0, 8, 1, 1062, 0), (20, 0, 8, 2, 1063, 0), (23, 0, 8, 3, 1064, 0), (27, 2, 85, 0, 2089, 0), (31, 2, 88, 0, 2090, 0), (35, 2, 89, 0, 4115, 0)]]
def mP_9 : List (List mPE) := [[(3, 9, 0, 0, 1169, 0), (9, 0, 9, 0, 1170, 0), (13, 0, 9, 2, 1173, 0), (16, 0, 9, 3, 1174, 0), (19, 0, 9, 4, 1175, 0), (22, 0, 9, 8, 1179, 0), (25, 0, 9, 1, 1171, 0), (29, 2, 96, 0, 5125, 0), (32, 0, 9, 6, 1177, 0), (35, 0, 9, 7, 1178, 0), (38, 0, 9, 9, 1180, 0), (41, 2, 108, 0, 5198, 0), (44, 2, 103, 0, 5203, 0), (48, 2, 102, 0, 5207, 0), (52, 2, 105, 0, 5215, 0), (55, 2, 291, 0, 5245, 0)],
  [(61, 0, 9, 5, 1176, 0), (64, 2, 97, 0, 5129, 0), (67, 2, 101, 0, 5133, 0), (71, 2, 99, 0, 5186, 0), (75, 2, 98, 0, 5190, 0), (78, 2, 100, 0, 5194, 0), (81, 13, 0, 0, 5137, 0), (83, 11, 3, 0, 5138, 0), (87, 11, 4, 0, 5148, 0), (91, 6, 0, 0, 5202, 999999), (92, 2, 106, 0, 5211, 0), (95, 2, 104, 0, 5219, 0), (99, 2, 107, 0, 5223, 0), (102, 2, 109, 0, 5227, 0), (105, 2, 110, 0, 5231, 0), (108, 2, 111, 0, 5235, 0)]]
def mP_10 : List (List mPE) := [[(1, 9, 0, 0, 5249, 0), (7, 0, 10, 0, 5250, 0), (13, 0, 10, 1, 5251, 0), (16, 0, 10, 2, 5252, 0), (19, 0, 10, 3, 5253, 0), (23, 6, 0, 0, 5337, 9999999), (24, 2, 115, 0, 5338, 0), (28, 11, 1, 0, 5345, 0), (34, 11, 0, 0, 5346, 0), (37, 2, 116, 0, 5342, 0)]]
def mP_11 : List (List mPE) := [[(3, 9, 0, 0, 1050, 0), (9, 0, 11, 2, 1226, 0), (13, 4, 8, 0, 1053, 0), (15, 3, 83, 0, 1055, 0), (16, 0, 11, 3, 1227, 0), (20, 10, 3, 1, 1077, 0), (22, 0, 11, 4, 1228, 0), (26, 10, 4, 4, 1079, 0), (28, 0, 11, 6, 1230, 0), (32, 0, 11, 8, 1232, 0), (36, 0, 11, 9, 1233, 0), (39, 10, 5, 7, 1081, 0), (41, 0, 11, 11, 1235, 0), (45, 4, 2, 0, 1083, 0), (47, 3, 12, 0, 1085, 0), (48, 0, 11, 13, 1237, 0)],
  [(52, 4, 5, 0, 1115, 0), (54, 3, 48, 0, 1117, 0), (55, 0, 11, 14, 1238, 0), (59, 4, 3, 0, 1141, 0), (61, 3, 21, 0, 1143, 0), (62, 0, 11, 15, 1239, 0), (66, 4, 9, 0, 1164, 0), (68, 3, 91, 0, 1166, 0), (69, 0, 11, 16, 1240, 0), (73, 4, 0, 0, 1202, 0), (75, 3, 0, 0, 1204, 0), (76, 0, 11, 17, 1241, 0), (80, 0, 11, 0, 1224, 0), (84, 2, 167, 0, 2067, 0), (88, 2, 84, 0, 2070, 0), (92, 2, 85, 0, 2078, 0)],
  [(95, 2, 166, 0, 2082, 0), (99, 2, 87, 0, 2085, 0), (103, 2, 89, 0, 2098, 0), (107, 2, 169, 0, 2106, 0), (111, 2, 43, 0, 2110, 0), (115, 6, 0, 0, 2122, 99999), (116, 0, 11, 5, 1229, 0), (20, 4, 1, 0, 1077, 0), (119, 2, 10, 0, 2124, 0), (122, 2, 168, 0, 2166, 0), (126, 1, 1, 7, 2144, 0), (129, 1, 1, 6, 2141, 0), (132, 2, 86, 0, 2178, 0), (135, 0, 11, 7, 1231, 0), (26, 4, 4, 0, 1079, 0), (138, 2, 35, 0, 2183, 0)],
  [(141, 2, 45, 0, 3075, 0), (144, 6, 0, 0, 3083, (-2000000000)), (145, 1, 4, 1, 2217, 0), (149, 1, 1, 0, 2129, 0), (152, 1, 4, 2, 2220, 0), (156, 2, 58, 0, 3084, 0), (162, 1, 4, 3, 2224, 0), (165, 1, 4, 4, 2229, 0), (168, 1, 4, 5, 2232, 0), (171, 2, 37, 0, 3092, 0), (174, 1, 4, 6, 2234, 0), (177, 1, 4, 9, 2241, 0), (181, 1, 7, 0, 3231, 0), (182, 1, 4, 15, 2253, 0), (185, 2, 38, 0, 3097, 0), (188, 2, 36, 0, 3109, 0)],
  [(192, 2, 41, 0, 3113, 0), (195, 1, 4, 0, 2211, 0), (196, 2, 19, 0, 3121, 0), (200, 2, 18, 0, 3125, 0), (204, 2, 72, 0, 3133, 0), (207, 2, 44, 0, 3145, 0), (210, 2, 61, 0, 3153, 0), (213, 0, 11, 1, 1225, 0), (216, 2, 62, 0, 3161, 0), (219, 2, 13, 0, 3189, 0), (222, 1, 4, 11, 2246, 0), (225, 2, 17, 0, 3197, 0), (229, 2, 16, 0, 3209, 0), (232, 0, 11, 10, 1234, 0), (235, 2, 171, 0, 3221, 0), (238, 0, 11, 12, 1236, 0)],
  [(39, 4, 7, 0, 1081, 0), (241, 2, 66, 0, 3226, 0), (244, 1, 7, 6, 3245, 0), (247, 1, 7, 7, 3249, 0), (248, 1, 7, 8, 3251, 0), (251, 2, 170, 0, 3307, 0), (255, 2, 67, 0, 3311, 0), (259, 2, 50, 0, 4120, 0), (263, 1, 5, 1, 1124, 0), (266, 2, 51, 0, 4132, 0), (269, 2, 52, 0, 4140, 0), (273, 2, 55, 0, 4156, 0), (277, 1, 5, 2, 1126, 0), (280, 2, 25, 0, 4179, 0), (284, 2, 24, 0, 4223, 0), (286, 2, 26, 0, 4235, 0)],
  [(289, 1, 7, 10, 3258, 0), (293, 1, 7, 9, 3255, 0), (294, 2, 90, 0, 4243, 0), (297, 1, 7, 1, 3233, 0), (300, 11, 0, 0, 4244, 0), (305, 1, 7, 11, 3261, 0), (307, 1, 4, 10, 2243, 0), (310, 2, 42, 0, 4245, 0), (314, 2, 68, 0, 4254, 0), (317, 2, 71, 0, 4255, 0), (320, 1, 7, 5, 3244, 0), (321, 1, 7, 2, 3235, 0), (324, 1, 7, 3, 3238, 0), (327, 1, 7, 12, 3263, 0), (330, 1, 7, 4, 3240, 0), (333, 1, 7, 13, 3265, 0)],
  [(336, 2, 172, 0, 4272, 0), (339, 2, 74, 0, 4276, 0), (342, 2, 76, 0, 4284, 0), (345, 2, 75, 0, 4312, 0), (348, 2, 92, 0, 4317, 0), (351, 2, 93, 0, 4321, 0), (354, 1, 9, 1, 1172, 0), (355, 2, 1, 0, 4333, 0), (358, 2, 94, 0, 5121, 0), (361, 4, 10, 0, 5239, 0), (363, 2, 95, 0, 5241, 0), (367, 2, 112, 0, 5246, 0), (370, 2, 3, 0, 5264, 0), (373, 2, 2, 0, 5273, 0), (374, 2, 173, 0, 5277, 0), (378, 2, 6, 0, 5324, 0)],
  [(381, 2, 8, 0, 5328, 0), (384, 2, 9, 0, 5351, 0), (387, 2, 174, 0, 6148, 0), (391, 6, 0, 0, 6157, 65535), (392, 1, 7, 14, 3267, 0), (395, 2, 79, 0, 6158, 0), (398, 1, 7, 15, 3269, 0), (401, 2, 80, 0, 6174, 0), (404, 2, 81, 0, 6175, 0), (407, 2, 82, 0, 6176, 0), (410, 2, 47, 0, 6181, 0), (413, 2, 46, 0, 6189, 0), (416, 2, 175, 0, 6201, 0), (420, 2, 176, 0, 6205, 0), (423, 1, 8, 3, 1065, 0), (426, 1, 0, 1, 1212, 0)],
  [(429, 1, 2, 3, 1093, 0), (432, 2, 177, 0, 6217, 0), (435, 2, 178, 0, 6221, 0), (438, 2, 4, 0, 5281, 0), (441, 2, 5, 0, 5313, 0), (445, 2, 7, 0, 6152, 0)]]
def mP_12 : List (List mPE) := [[(1, 9, 0, 0, 6230, 0), (7, 0, 12, 3, 6233, 0), (13, 0, 12, 4, 6234, 0), (17, 0, 12, 5, 6235, 0), (20, 0, 12, 6, 6236, 0), (23, 0, 12, 8, 6238, 0), (26, 0, 12, 9, 6239, 0), (29, 0, 12, 10, 6240, 0), (32, 0, 12, 11, 6241, 0), (35, 0, 12, 12, 6242, 0), (38, 0, 12, 13, 6243, 0), (41, 0, 12, 14, 6244, 0), (44, 0, 12, 16, 6246, 0), (47, 0, 12, 17, 6247, 0), (50, 0, 12, 18, 6248, 0), (53, 0, 12, 19, 6249, 0)],
  [(56, 0, 12, 20, 6250, 0), (59, 0, 12, 21, 6251, 0), (62, 0, 12, 22, 6252, 0), (65, 0, 12, 23, 6253, 0), (68, 0, 12, 24, 6254, 0), (71, 0, 12, 25, 6255, 0), (74, 0, 12, 26, 6256, 0), (77, 0, 12, 27, 6257, 0), (80, 0, 12, 28, 6258, 0), (83, 0, 12, 29, 6259, 0), (86, 0, 12, 30, 6260, 0), (89, 0, 12, 31, 6261, 0), (92, 0, 12, 34, 6264, 0), (95, 0, 12, 35, 6265, 0), (98, 0, 12, 36, 6266, 0), (101, 0, 12, 38, 6268, 0)],
  [(104, 0, 12, 39, 6269, 0), (107, 0, 12, 40, 6270, 0), (110, 0, 12, 42, 6272, 0), (113, 0, 12, 43, 6273, 0), (116, 0, 12, 44, 6274, 0), (119, 0, 12, 46, 6276, 0), (122, 0, 12, 47, 6277, 0), (125, 0, 12, 49, 6279, 0), (128, 0, 12, 50, 6280, 0), (131, 0, 12, 51, 6281, 0), (134, 0, 12, 52, 6282, 0), (137, 0, 12, 53, 6283, 0), (140, 0, 12, 54, 6284, 0), (143, 0, 12, 55, 6285, 0), (146, 0, 12, 56, 6286, 0), (149, 0, 12, 57, 6287, 0)],
  [(152, 0, 12, 58, 6288, 0), (155, 0, 12, 59, 6289, 0), (158, 0, 12, 60, 6290, 0), (161, 0, 12, 61, 6291, 0), (164, 0, 12, 63, 6293, 0), (167, 0, 12, 66, 6296, 0), (170, 0, 12, 67, 6297, 0), (173, 0, 12, 68, 6298, 0), (177, 0, 12, 69, 6299, 0), (180, 0, 12, 71, 6301, 0), (183, 0, 12, 72, 6302, 0), (186, 0, 12, 75, 6305, 0), (189, 0, 12, 76, 6306, 0), (193, 0, 12, 79, 6309, 0), (196, 0, 12, 80, 6310, 0), (199, 0, 12, 81, 6311, 0)],
  [(202, 0, 12, 82, 6312, 0), (205, 0, 12, 83, 6313, 0), (208, 0, 12, 84, 6314, 0), (211, 0, 12, 85, 6315, 0), (214, 0, 12, 94, 6324, 0), (217, 0, 12, 95, 6325, 0), (224, 2, 180, 0, 7310, 0), (228, 0, 12, 1, 6231, 0), (231, 0, 12, 2, 6232, 0), (234, 6, 0, 0, 7317, 1000000), (235, 2, 184, 0, 7318, 0), (239, 2, 185, 0, 7313, 0), (242, 2, 183, 0, 7326, 0), (246, 2, 181, 0, 7338, 0), (249, 0, 12, 7, 6237, 0), (252, 0, 12, 15, 6245, 0)],
  [(255, 6, 0, 0, 7345, 99999), (256, 2, 190, 0, 7350, 0), (259, 0, 12, 32, 6262, 0), (262, 2, 195, 0, 7362, 0), (266, 2, 191, 0, 7370, 0), (269, 2, 200, 0, 7379, 0), (273, 6, 0, 0, 7378, (-2000000000)), (274, 2, 204, 0, 7387, 0), (277, 0, 12, 37, 6267, 0), (280, 2, 206, 0, 7395, 0), (284, 2, 236, 0, 7403, 0), (287, 2, 196, 0, 8195, 0), (290, 0, 12, 33, 6263, 0), (293, 0, 12, 41, 6271, 0), (296, 2, 213, 0, 8211, 0), (299, 0, 12, 45, 6275, 0)],
  [(302, 0, 12, 48, 6278, 0), (305, 2, 215, 0, 8223, 0), (308, 2, 201, 0, 8239, 0), (311, 2, 202, 0, 8243, 0), (315, 2, 219, 0, 8247, 0), (318, 2, 216, 0, 8231, 0), (321, 2, 220, 0, 8235, 0), (324, 0, 12, 62, 6292, 0), (327, 2, 225, 0, 8263, 0), (331, 7, 0, 0, 8269, (-1)), (333, 7, 0, 0, 8267, 1000000), (335, 7, 0, 0, 8268, 10), (337, 2, 223, 0, 8274, 0), (340, 2, 224, 0, 8259, 0), (343, 2, 226, 0, 8270, 0), (347, 0, 12, 65, 6295, 0)],
  [(350, 0, 12, 64, 6294, 0), (354, 2, 229, 0, 8286, 0), (357, 0, 12, 70, 6300, 0), (360, 0, 12, 73, 6303, 0), (363, 2, 232, 0, 8294, 0), (366, 2, 231, 0, 8298, 0), (369, 0, 12, 74, 6304, 0), (372, 2, 214, 0, 8310, 0), (376, 2, 240, 0, 8338, 0), (379, 2, 197, 0, 8350, 0), (382, 2, 241, 0, 8334, 0), (385, 2, 243, 0, 8346, 0), (388, 2, 244, 0, 8342, 0), (391, 0, 12, 77, 6307, 0), (394, 2, 248, 0, 8362, 0), (397, 0, 12, 87, 6317, 0)],
  [(400, 0, 12, 86, 6316, 0), (403, 0, 12, 88, 6318, 0), (406, 2, 250, 0, 8378, 0), (409, 2, 251, 0, 8381, 0), (412, 0, 12, 89, 6319, 0), (415, 7, 0, 0, 8393, 27), (417, 7, 0, 0, 8394, 96), (419, 0, 12, 90, 6320, 0), (422, 0, 12, 92, 6322, 0), (425, 0, 12, 93, 6323, 0), (428, 2, 254, 0, 8399, 0), (431, 2, 252, 0, 8374, 0), (434, 0, 12, 91, 6321, 0), (437, 2, 256, 0, 8395, 0), (440, 8, 1, 0, 8425, 0), (443, 2, 253, 0, 8389, 0)],
  [(447, 2, 255, 0, 8405, 0), (451, 2, 259, 0, 8421, 0), (455, 7, 0, 0, 8427, 6476969), (457, 7, 0, 0, 8428, 267347), (459, 2, 257, 0, 8429, 0), (463, 2, 262, 0, 8409, 0), (466, 2, 258, 0, 9217, 0), (469, 2, 260, 0, 8417, 0), (472, 2, 261, 0, 8413, 0), (475, 7, 0, 0, 8388, 131638), (477, 7, 0, 0, 8403, 583), (479, 7, 0, 0, 8404, 555), (481, 0, 12, 78, 6308, 0), (484, 2, 263, 0, 8384, 0), (487, 2, 182, 0, 9221, 0), (490, 6, 0, 0, 9261, 9999999)],
  [(491, 2, 265, 0, 9262, 0), (495, 2, 270, 0, 9253, 0), (498, 2, 267, 0, 9233, 0), (501, 2, 268, 0, 9237, 0), (504, 2, 269, 0, 9241, 0), (507, 2, 272, 0, 9245, 0), (510, 2, 271, 0, 9249, 0), (513, 2, 273, 0, 9229, 0), (516, 2, 266, 0, 9257, 0), (519, 0, 12, 96, 6326, 0), (522, 2, 275, 0, 9269, 0), (525, 6, 0, 0, 9281, 65535), (526, 2, 278, 0, 9282, 0), (529, 2, 285, 0, 9310, 0), (532, 2, 286, 0, 9314, 0)]]
def mP_13 : List (List mPE) := [[(7, 4, 11, 0, 1045, 0), (9, 2, 117, 0, 1047, 0), (10, 4, 12, 0, 6225, 0), (12, 2, 179, 0, 6227, 0), (13, 2, 118, 0, 2063, 0), (17, 2, 186, 0, 7306, 0), (18, 2, 119, 0, 2074, 0), (22, 2, 187, 0, 7322, 0), (23, 2, 120, 0, 2094, 0), (27, 2, 188, 0, 7330, 0), (28, 2, 121, 0, 2102, 0), (31, 2, 212, 0, 8207, 0), (32, 2, 122, 0, 2114, 0), (35, 2, 189, 0, 7334, 0), (36, 2, 123, 0, 2118, 0), (40, 2, 192, 0, 7341, 0)],
  [(41, 2, 124, 0, 2162, 0), (44, 2, 193, 0, 7346, 0), (45, 2, 125, 0, 2170, 0), (48, 2, 194, 0, 7354, 0), (49, 2, 126, 0, 2174, 0), (52, 2, 198, 0, 7358, 0), (53, 2, 127, 0, 2287, 0), (56, 2, 199, 0, 7366, 0), (57, 2, 128, 0, 3079, 0), (60, 2, 203, 0, 7374, 0), (61, 2, 129, 0, 3105, 0), (64, 2, 205, 0, 7383, 0), (65, 2, 130, 0, 3117, 0), (68, 2, 207, 0, 7391, 0), (69, 2, 131, 0, 3129, 0), (72, 2, 208, 0, 7399, 0)],
  [(73, 2, 132, 0, 3149, 0), (76, 2, 209, 0, 7407, 0), (77, 2, 133, 0, 3185, 0), (80, 2, 210, 0, 8199, 0), (81, 2, 134, 0, 3193, 0), (84, 2, 211, 0, 8203, 0), (85, 2, 135, 0, 3213, 0), (88, 2, 217, 0, 8215, 0), (89, 2, 136, 0, 3217, 0), (93, 2, 218, 0, 8219, 0), (94, 2, 137, 0, 3303, 0), (97, 2, 221, 0, 8227, 0), (98, 2, 138, 0, 4116, 0), (101, 2, 222, 0, 8251, 0), (102, 2, 139, 0, 4128, 0), (106, 2, 227, 0, 8255, 0)],
  [(107, 2, 140, 0, 4171, 0), (110, 2, 228, 0, 8278, 0), (111, 2, 141, 0, 4175, 0), (114, 2, 233, 0, 8290, 0), (115, 2, 142, 0, 4219, 0), (118, 2, 230, 0, 8282, 0), (119, 2, 143, 0, 4231, 0), (122, 2, 234, 0, 8302, 0), (123, 2, 144, 0, 4239, 0), (126, 2, 235, 0, 8306, 0), (127, 2, 145, 0, 4250, 0), (130, 2, 237, 0, 8314, 0), (131, 2, 146, 0, 4256, 0), (134, 2, 238, 0, 8318, 0), (135, 2, 147, 0, 4260, 0), (138, 2, 239, 0, 8322, 0)],
  [(139, 2, 148, 0, 4264, 0), (142, 2, 242, 0, 8326, 0), (143, 2, 149, 0, 4268, 0), (146, 2, 245, 0, 8330, 0), (147, 2, 150, 0, 4308, 0), (150, 2, 246, 0, 8354, 0), (151, 2, 151, 0, 4313, 0), (154, 2, 247, 0, 8358, 0), (155, 2, 152, 0, 4325, 0), (158, 2, 249, 0, 8366, 0), (159, 2, 153, 0, 4329, 0), (162, 2, 264, 0, 8370, 0), (163, 2, 154, 0, 5269, 0), (166, 2, 274, 0, 9225, 0), (167, 2, 155, 0, 5347, 0), (170, 2, 276, 0, 9265, 0)],
  [(171, 2, 156, 0, 6144, 0), (174, 2, 277, 0, 9273, 0), (175, 2, 157, 0, 6153, 0), (178, 2, 279, 0, 9277, 0), (179, 2, 158, 0, 6166, 0), (182, 2, 280, 0, 9286, 0), (183, 2, 159, 0, 6170, 0), (186, 2, 281, 0, 9290, 0), (187, 2, 160, 0, 6177, 0), (190, 2, 282, 0, 9294, 0), (191, 2, 161, 0, 6185, 0), (194, 2, 283, 0, 9298, 0), (195, 2, 162, 0, 6193, 0), (198, 2, 284, 0, 9302, 0), (199, 2, 163, 0, 6197, 0), (202, 2, 287, 0, 9306, 0)],
  [(203, 2, 164, 0, 6209, 0), (206, 2, 288, 0, 9318, 0), (207, 2, 165, 0, 6213, 0), (210, 2, 289, 0, 9322, 0)]]
def mP_14 : List (List mPE) := []
def mP_15 : List (List mPE) := [[(316, 11, 5, 0, 3172, 0), (317, 12, 0, 0, 3178, 0), (304, 11, 1, 0, 3179, 0), (150, 11, 6, 0, 3182, 0)]]
def mOw : List (String × List (List mPE)) := [("HireYard$Bills", mP_0), ("HireYard$Kind", mP_1), ("HireYard$Log", mP_2), ("HireYard$Lorry", mP_3), ("HireYard$Machine", mP_4), ("HireYard$Match", mP_5), ("HireYard$Meter", mP_6), ("HireYard$Order", mP_7), ("HireYard$Roads", mP_8), ("HireYard$Tape", mP_9), ("HireYard$Terms", mP_10), ("HireYard", mP_11), ("HireYardModel", mP_12), ("HireYardLaw", mP_13), ("java/lang/Math", mP_14), ("java/util/Arrays", mP_15)]
/-- the array types by number, the class of their places; the arrayClass and arrayOver words' places; the static tables -/
def mAT : List FieldType := [.int, .boolean, .long, (.object "HireYard$Kind"), (.object "HireYard$Machine"), (.object "HireYard$Order"), (.object "HireYard$Terms"), (.array .int), .byte]
def mEl : List (Option Nat) := [none, none, none, some 1, some 4, some 7, some 10, none, none]
def mAh : List Nat := [1076, 1075, 1140, 1078, 1080, 1082, 1209, 1060, 5263]
def mStc : List (String × String × String) := [("HireYard$Match", "DIGIT", "[J"), ("HireYardModel", "NAMES", "[J")]
def mSw : List Nat := [4151, 8426]
def mSi : List Nat := [1028, 1032]
/-- the classes: their names, their fields' types -/
def mCn : List String := ["HireYard$Bills", "HireYard$Kind", "HireYard$Log", "HireYard$Lorry", "HireYard$Machine", "HireYard$Match", "HireYard$Meter", "HireYard$Order", "HireYard$Roads", "HireYard$Tape", "HireYard$Terms", "HireYard", "HireYardModel"]
def mTy : List (List FieldType) := [[(.array (.object "HireYard$Terms")), .int, (.array .int), (.array .int)],
  [.int, .int, .int, .int, .int, .int, (.array .int), (.array .boolean)],
  [(.array .int), (.array .int), (.array .int), .int, (.array .int), (.array .int), (.array .int), .int],
  [(.array (.object "HireYard$Machine")), .int, (.array (.object "HireYard$Machine")), .int, (.array .int)],
  [.int, (.object "HireYard$Kind"), (.object "HireYard$Meter"), .int, .int, .int, .int, .int, .int, (.object "HireYard$Order"), (.object "HireYard$Order"), .int, .int, (.array .int), (.array .int), .int],
  [(.array (.object "HireYard$Order")), .int, .int, (.array .long), (.array .long)],
  [(.array .int), (.array .int), .int, .boolean],
  [.int, .int, .int, .int, .int, (.object "HireYard$Kind"), .int, .int, .int, .int, (.object "HireYard$Machine"), .int, .int, (.array .boolean), (.array .int), (.array .int)],
  [(.array .boolean), (.array (.array .int)), (.array (.array .int)), .int],
  [(.array .int), .int, (.array .int), (.array .int), (.array .int), .int, .int, .int, (.array .int), .int],
  [.int, .int, .int, (.array .int)],
  [.int, .int, (.array .boolean), (.object "HireYard$Roads"), (.array (.object "HireYard$Kind")), .int, (.array (.object "HireYard$Machine")), .int, (.array .int), (.array .int), .int, (.array (.object "HireYard$Order")), .int, (.object "HireYard$Log"), (.object "HireYard$Match"), (.object "HireYard$Lorry"), (.object "HireYard$Tape"), (.object "HireYard$Bills")],
  [.int, .int, .int, (.array .boolean), (.array .int), (.array .int), (.array .boolean), .int, (.array .int), (.array .int), (.array .int), (.array .int), (.array .int), (.array .boolean), (.array .int), .int, (.array .int), (.array .int), (.array .int), (.array .int), (.array .int), (.array .boolean), (.array .int), (.array .int), (.array .int), (.array .int), (.array .int), (.array .int), (.array .int), (.array .int), (.array .int), (.array .int), .int, .int, (.array .int), (.array .int), (.array .int), .int, (.array .int), (.array .int), (.array .int), .int, (.array .int), (.array .int), (.array .int), .int, (.array .int), (.array .int), .int, (.array .int), (.array .int), (.array .int), (.array .int), (.array .int), (.array .int), (.array .int), (.array .int), (.array .int), (.array .int), (.array .int), (.array .int), (.array .int), .int, (.array .int), .boolean, .int, (.array .boolean), (.array .int), (.array .long), (.array .long), .int, (.array .int), (.array .int), .int, .int, (.array .int), (.array .byte), .int, .int, (.array .int), (.array .int), (.array .int), (.array .int), (.array .int), (.array .int), (.array .int), .int, .int, .int, .int, .int, .int, .int, .int, (.array .int), (.array .int), .int]]
/-- a class's words in lw_tbl: instantiable, initialized, its fields -/
def mCh : List (Nat × Nat × List Nat) := [(1203, 1031, [1215, 1217, 1219, 1221]),
  (2123, 1033, [2145, 2147, 2149, 2151, 2153, 2155, 2157, 2159]),
  (1084, 1027, [1098, 1100, 1102, 1104, 1106, 1108, 1110, 1112]),
  (1142, 1029, [1153, 1155, 1157, 1159, 1161]),
  (2182, 1034, [2254, 2256, 2258, 2260, 2262, 2264, 2266, 2268, 2270, 2272, 2274, 2276, 2278, 2280, 2282, 2284]),
  (1116, 1028, [1129, 1131, 1133, 1135, 1137]),
  (2188, 1035, [2197, 2199, 2201, 2203]),
  (3225, 1039, [3270, 3272, 3274, 3276, 3278, 3280, 3282, 3284, 3286, 3288, 3290, 3292, 3294, 3296, 3298, 3300]),
  (1054, 1026, [1066, 1068, 1070, 1072]),
  (1165, 1030, [1181, 1183, 1185, 1187, 1189, 1191, 1193, 1195, 1197, 1199]),
  (5240, 1044, [5254, 5256, 5258, 5260]),
  (1046, 1025, [1242, 1244, 1246, 1248, 1250, 1252, 1254, 1256, 1258, 1260, 1262, 2048, 2050, 2052, 2054, 2056, 2058, 2060]),
  (6226, 1032, [6327, 6329, 6331, 6333, 6335, 6337, 6339, 6341, 6343, 6345, 6347, 6349, 6351, 6353, 6355, 6357, 6359, 6361, 6363, 6365, 6367, 6369, 6371, 6373, 6375, 6377, 6379, 6381, 6383, 7169, 7171, 7173, 7175, 7177, 7179, 7181, 7183, 7185, 7187, 7189, 7191, 7193, 7195, 7197, 7199, 7201, 7203, 7205, 7207, 7209, 7211, 7213, 7215, 7217, 7219, 7221, 7223, 7225, 7227, 7229, 7231, 7233, 7235, 7237, 7239, 7241, 7243, 7245, 7247, 7249, 7251, 7253, 7255, 7257, 7259, 7261, 7263, 7265, 7267, 7269, 7271, 7273, 7275, 7277, 7279, 7281, 7283, 7285, 7287, 7289, 7291, 7293, 7295, 7297, 7299, 7301, 7303])]
def mTb : List (List Jvm.Cond) := [k2_sels lw_privs, tables_1_1, tables_1_2, tables_1_3, tables_1_4, tables_1_5, tables_1_6, tables_1_7, tables_1_8, tables_1_9]
def mwd (q : Nat) : Option Jvm.Cond := match mTb[q / 1024]? with
  | some l => l[q % 1024]?
  | none => none
def mrec (m : Nat) : Option mMR := match mM[m / 16]? with
  | some l => l[m % 16]?
  | none => none
def mrh (m : Nat) : Option (Nat × Nat × Nat × Nat) := match mHt[m / 16]? with
  | some l => l[m % 16]?
  | none => none
def mcd (c : List (List (Option mR))) (pc : Nat) : Option mR := match c[pc / 16]? with
  | some l => (match l[pc % 16]? with
    | some (some r) => some r
    | _ => none)
  | none => none
def mPg (o q : Nat) : Option mPE := match mOw[o]? with
  | some (_, l) => (match l[q / 16]? with
    | some l2 => l2[q % 16]?
    | none => none)
  | none => none
