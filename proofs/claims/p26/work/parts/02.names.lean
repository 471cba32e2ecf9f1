def RX0 : String := "Stablingroad$Diagram"
def TX0 : u_T := fun k => match k with
  | 0 => ("Stablingroad$Diagram", "from", "I", true)
  | 1 => ("Stablingroad$Diagram", "to", "I", true)
  | 2 => ("Stablingroad$Diagram", "km", "I", true)
  | 3 => ("Stablingroad$Diagram", "line", "I", true)
  | 4 => ("Stablingroad$Diagram", "weight", "I", true)
  | _ => ("Stablingroad$Diagram", "pinnedTo", "I", false)
def tyX0 : Nat → FieldType := fun k => match k with
  | 0 => .int
  | 1 => .int
  | 2 => .int
  | 3 => .int
  | 4 => .int
  | _ => .int
abbrev wsX00 : List Cond := u_ws RX0 TX0 6
theorem nmX0 : ∀ a, a < 6 → ∀ b, b < 6 → a ≠ b → (TX0 a).2.1 ≠ (TX0 b).2.1 := by decide +kernel
theorem tyX0_ok : ∀ k, k < 6 → parseFieldDescriptor (TX0 k).2.2.1 = some (tyX0 k) := by decide +kernel
abbrev cX0_init : ByteArray := prog_2_method_1_code
def yX0_init : MethodName := ⟨RX0, "<init>", "(IIIII)V"⟩
abbrev cX0_isOpenTo : ByteArray := prog_2_method_2_code
def yX0_isOpenTo : MethodName := ⟨RX0, "isOpenTo", "(I)Z"⟩
def RX1 : String := "Stablingroad$Exam"
def TX1 : u_T := fun k => match k with
  | 0 => ("Stablingroad$Exam", "limit", "I", false)
  | 1 => ("Stablingroad$Exam", "tolerance", "I", false)
  | _ => ("Stablingroad$Exam", "days", "I", false)
def tyX1 : Nat → FieldType := fun k => match k with
  | 0 => .int
  | 1 => .int
  | _ => .int
abbrev wsX10 : List Cond := u_ws RX1 TX1 3
theorem nmX1 : ∀ a, a < 3 → ∀ b, b < 3 → a ≠ b → (TX1 a).2.1 ≠ (TX1 b).2.1 := by decide +kernel
theorem tyX1_ok : ∀ k, k < 3 → parseFieldDescriptor (TX1 k).2.2.1 = some (tyX1 k) := by decide +kernel
abbrev cX1_init : ByteArray := prog_3_method_1_code
def yX1_init : MethodName := ⟨RX1, "<init>", "(III)V"⟩
abbrev cX1_bound : ByteArray := prog_3_method_2_code
def yX1_bound : MethodName := ⟨RX1, "bound", "()I"⟩
abbrev cX1_isOverdue : ByteArray := prog_3_method_3_code
def yX1_isOverdue : MethodName := ⟨RX1, "isOverdue", "(II)Z"⟩
abbrev cX1_isNear : ByteArray := prog_3_method_4_code
def yX1_isNear : MethodName := ⟨RX1, "isNear", "(I)Z"⟩
def RX2 : String := "Stablingroad$Fault"
def TX2 : u_T := fun k => match k with
  | 0 => ("Stablingroad$Fault", "kind", "I", true)
  | 1 => ("Stablingroad$Fault", "toldOn", "I", true)
  | 2 => ("Stablingroad$Fault", "where", "I", true)
  | _ => ("Stablingroad$Fault", "amount", "I", true)
def tyX2 : Nat → FieldType := fun k => match k with
  | 0 => .int
  | 1 => .int
  | 2 => .int
  | _ => .int
abbrev wsX20 : List Cond := u_ws RX2 TX2 4
theorem nmX2 : ∀ a, a < 4 → ∀ b, b < 4 → a ≠ b → (TX2 a).2.1 ≠ (TX2 b).2.1 := by decide +kernel
theorem tyX2_ok : ∀ k, k < 4 → parseFieldDescriptor (TX2 k).2.2.1 = some (tyX2 k) := by decide +kernel
abbrev cX2_init : ByteArray := prog_4_method_1_code
def yX2_init : MethodName := ⟨RX2, "<init>", "(IIII)V"⟩
abbrev cX2_isGrave : ByteArray := prog_4_method_2_code
def yX2_isGrave : MethodName := ⟨RX2, "isGrave", "()Z"⟩
def RX3 : String := "Stablingroad$Morning"
def TX3 : u_T := fun k => match k with
  | 0 => ("Stablingroad$Morning", "weights", "[I", true)
  | 1 => ("Stablingroad$Morning", "takers", "[I", true)
  | 2 => ("Stablingroad$Morning", "homers", "[I", true)
  | 3 => ("Stablingroad$Morning", "given", "[I", true)
  | 4 => ("Stablingroad$Morning", "trial", "[I", true)
  | 5 => ("Stablingroad$Morning", "leastCosts", "[I", true)
  | 6 => ("Stablingroad$Morning", "unitCount", "I", false)
  | _ => ("Stablingroad$Morning", "diagramCount", "I", false)
def tyX3 : Nat → FieldType := fun k => match k with
  | 0 => .array .int
  | 1 => .array .int
  | 2 => .array .int
  | 3 => .array .int
  | 4 => .array .int
  | 5 => .array .int
  | 6 => .int
  | _ => .int
abbrev wsX30 : List Cond := u_ws RX3 TX3 8
theorem nmX3 : ∀ a, a < 8 → ∀ b, b < 8 → a ≠ b → (TX3 a).2.1 ≠ (TX3 b).2.1 := by decide +kernel
theorem tyX3_ok : ∀ k, k < 8 → parseFieldDescriptor (TX3 k).2.2.1 = some (tyX3 k) := by decide +kernel
abbrev cX3_init : ByteArray := prog_5_method_1_code
def yX3_init : MethodName := ⟨RX3, "<init>", "()V"⟩
abbrev cX3_begin : ByteArray := prog_5_method_2_code
def yX3_begin : MethodName := ⟨RX3, "begin", "(I)V"⟩
abbrev cX3_addDiagram : ByteArray := prog_5_method_3_code
def yX3_addDiagram : MethodName := ⟨RX3, "addDiagram", "(III)V"⟩
abbrev cX3_givenTo : ByteArray := prog_5_method_4_code
def yX3_givenTo : MethodName := ⟨RX3, "givenTo", "(I)I"⟩
abbrev cX3_lackOfGiven : ByteArray := prog_5_method_5_code
def yX3_lackOfGiven : MethodName := ⟨RX3, "lackOfGiven", "()I"⟩
abbrev cX3_at : ByteArray := prog_5_method_6_code
def yX3_at : MethodName := ⟨RX3, "at", "([III)I"⟩
abbrev cX3_put : ByteArray := prog_5_method_7_code
def yX3_put : MethodName := ⟨RX3, "put", "([III)V"⟩
abbrev cX3_has : ByteArray := prog_5_method_8_code
def yX3_has : MethodName := ⟨RX3, "has", "(II)Z"⟩
abbrev cX3_lackOf : ByteArray := prog_5_method_9_code
def yX3_lackOf : MethodName := ⟨RX3, "lackOf", "([I)I"⟩
abbrev cX3_homingOf : ByteArray := prog_5_method_10_code
def yX3_homingOf : MethodName := ⟨RX3, "homingOf", "([I)I"⟩
abbrev cX3_allocateByParts : ByteArray := prog_5_method_11_code
def yX3_allocateByParts : MethodName := ⟨RX3, "allocateByParts", "()V"⟩
abbrev cX3_fillLeastCosts : ByteArray := prog_5_method_12_code
def yX3_fillLeastCosts : MethodName := ⟨RX3, "fillLeastCosts", "()V"⟩
abbrev cX3_leastCostFrom : ByteArray := prog_5_method_13_code
def yX3_leastCostFrom : MethodName := ⟨RX3, "leastCostFrom", "(II)I"⟩
abbrev cX3_lowestOfLeastCost : ByteArray := prog_5_method_14_code
def yX3_lowestOfLeastCost : MethodName := ⟨RX3, "lowestOfLeastCost", "(II)I"⟩
abbrev cX3_costWith : ByteArray := prog_5_method_15_code
def yX3_costWith : MethodName := ⟨RX3, "costWith", "(III)I"⟩
abbrev cX3_without : ByteArray := prog_5_method_16_code
def yX3_without : MethodName := ⟨RX3, "without", "(II)I"⟩
abbrev cX3_allocateByAll : ByteArray := prog_5_method_17_code
def yX3_allocateByAll : MethodName := ⟨RX3, "allocateByAll", "()V"⟩
abbrev cX3_howManyTrials : ByteArray := prog_5_method_18_code
def yX3_howManyTrials : MethodName := ⟨RX3, "howManyTrials", "()I"⟩
abbrev cX3_stepTrial : ByteArray := prog_5_method_19_code
def yX3_stepTrial : MethodName := ⟨RX3, "stepTrial", "()V"⟩
abbrev cX3_firstChoice : ByteArray := prog_5_method_20_code
def yX3_firstChoice : MethodName := ⟨RX3, "firstChoice", "()I"⟩
abbrev cX3_trialIsAllowed : ByteArray := prog_5_method_21_code
def yX3_trialIsAllowed : MethodName := ⟨RX3, "trialIsAllowed", "()Z"⟩
abbrev cX3_trialIsBetter : ByteArray := prog_5_method_22_code
def yX3_trialIsBetter : MethodName := ⟨RX3, "trialIsBetter", "()Z"⟩
def RX4 : String := "Stablingroad$Past"
def TX4 : u_T := fun k => match k with
  | _ => ("Stablingroad$Past", "runners", "[I", true)
def tyX4 : Nat → FieldType := fun k => match k with
  | _ => .array .int
abbrev wsX40 : List Cond := u_ws RX4 TX4 1
theorem nmX4 : ∀ a, a < 1 → ∀ b, b < 1 → a ≠ b → (TX4 a).2.1 ≠ (TX4 b).2.1 := by decide +kernel
theorem tyX4_ok : ∀ k, k < 1 → parseFieldDescriptor (TX4 k).2.2.1 = some (tyX4 k) := by decide +kernel
abbrev cX4_init : ByteArray := prog_6_method_1_code
def yX4_init : MethodName := ⟨RX4, "<init>", "()V"⟩
abbrev cX4_record : ByteArray := prog_6_method_2_code
def yX4_record : MethodName := ⟨RX4, "record", "(III)V"⟩
abbrev cX4_unitThatRan : ByteArray := prog_6_method_3_code
def yX4_unitThatRan : MethodName := ⟨RX4, "unitThatRan", "(II)I"⟩
abbrev cX4_timesThatRan : ByteArray := prog_6_method_4_code
def yX4_timesThatRan : MethodName := ⟨RX4, "timesThatRan", "(II)I"⟩
def RX5 : String := "Stablingroad$Permit"
def TX5 : u_T := fun k => match k with
  | 0 => ("Stablingroad$Permit", "days", "I", false)
  | _ => ("Stablingroad$Permit", "worstLine", "I", false)
def tyX5 : Nat → FieldType := fun k => match k with
  | 0 => .int
  | _ => .int
abbrev wsX50 : List Cond := u_ws RX5 TX5 2
theorem nmX5 : ∀ a, a < 2 → ∀ b, b < 2 → a ≠ b → (TX5 a).2.1 ≠ (TX5 b).2.1 := by decide +kernel
theorem tyX5_ok : ∀ k, k < 2 → parseFieldDescriptor (TX5 k).2.2.1 = some (tyX5 k) := by decide +kernel
abbrev cX5_init : ByteArray := prog_7_method_1_code
def yX5_init : MethodName := ⟨RX5, "<init>", "()V"⟩
abbrev cX5_forbids : ByteArray := prog_7_method_2_code
def yX5_forbids : MethodName := ⟨RX5, "forbids", "(II)Z"⟩
def RX6 : String := "Stablingroad$Row"
def TX6 : u_T := fun k => match k with
  | 0 => ("Stablingroad$Row", "standing", "[I", true)
  | _ => ("Stablingroad$Row", "count", "I", false)
def tyX6 : Nat → FieldType := fun k => match k with
  | 0 => .array .int
  | _ => .int
abbrev wsX60 : List Cond := u_ws RX6 TX6 2
theorem nmX6 : ∀ a, a < 2 → ∀ b, b < 2 → a ≠ b → (TX6 a).2.1 ≠ (TX6 b).2.1 := by decide +kernel
theorem tyX6_ok : ∀ k, k < 2 → parseFieldDescriptor (TX6 k).2.2.1 = some (tyX6 k) := by decide +kernel
abbrev cX6_init : ByteArray := prog_8_method_1_code
def yX6_init : MethodName := ⟨RX6, "<init>", "()V"⟩
abbrev cX6_come : ByteArray := prog_8_method_2_code
def yX6_come : MethodName := ⟨RX6, "come", "(I)V"⟩
abbrev cX6_leave : ByteArray := prog_8_method_3_code
def yX6_leave : MethodName := ⟨RX6, "leave", "(I)V"⟩
abbrev cX6_behind : ByteArray := prog_8_method_4_code
def yX6_behind : MethodName := ⟨RX6, "behind", "(I)I"⟩
abbrev cX6_fromExit : ByteArray := prog_8_method_5_code
def yX6_fromExit : MethodName := ⟨RX6, "fromExit", "(I)I"⟩
def RX7 : String := "Stablingroad$Rules"
def TX7 : u_T := fun k => match k with
  | 0 => ("Stablingroad$Rules", "exams", "[LStablingroad$Exam;", true)
  | _ => ("Stablingroad$Rules", "permits", "[LStablingroad$Permit;", true)
def tyX7 : Nat → FieldType := fun k => match k with
  | 0 => .array (.object "Stablingroad$Exam")
  | _ => .array (.object "Stablingroad$Permit")
abbrev wsX70 : List Cond := u_ws RX7 TX7 2
theorem nmX7 : ∀ a, a < 2 → ∀ b, b < 2 → a ≠ b → (TX7 a).2.1 ≠ (TX7 b).2.1 := by decide +kernel
theorem tyX7_ok : ∀ k, k < 2 → parseFieldDescriptor (TX7 k).2.2.1 = some (tyX7 k) := by decide +kernel
abbrev cX7_init : ByteArray := prog_9_method_1_code
def yX7_init : MethodName := ⟨RX7, "<init>", "()V"⟩
abbrev cX7_examAt : ByteArray := prog_9_method_2_code
def yX7_examAt : MethodName := ⟨RX7, "examAt", "(I)LStablingroad$Exam;"⟩
abbrev cX7_permitAt : ByteArray := prog_9_method_3_code
def yX7_permitAt : MethodName := ⟨RX7, "permitAt", "(I)LStablingroad$Permit;"⟩
abbrev cX7_reasonAgainst : ByteArray := prog_9_method_4_code
def yX7_reasonAgainst : MethodName := ⟨RX7, "reasonAgainst", "(LStablingroad$Unit;LStablingroad$Diagram;I)I"⟩
abbrev cX7_isSoon : ByteArray := prog_9_method_5_code
def yX7_isSoon : MethodName := ⟨RX7, "isSoon", "(LStablingroad$Unit;)Z"⟩
abbrev cX7_overdueBits : ByteArray := prog_9_method_6_code
def yX7_overdueBits : MethodName := ⟨RX7, "overdueBits", "(LStablingroad$Unit;)I"⟩
abbrev cX7_overdueBitsBehind : ByteArray := prog_9_method_7_code
def yX7_overdueBitsBehind : MethodName := ⟨RX7, "overdueBitsBehind", "(LStablingroad$Unit;I)I"⟩
abbrev cX7_listForbids : ByteArray := prog_9_method_8_code
def yX7_listForbids : MethodName := ⟨RX7, "listForbids", "(LStablingroad$Unit;II)Z"⟩
abbrev cX7_faultsAreGrave : ByteArray := prog_9_method_9_code
def yX7_faultsAreGrave : MethodName := ⟨RX7, "faultsAreGrave", "(LStablingroad$Unit;)Z"⟩
abbrev cX7_axlesAreBad : ByteArray := prog_9_method_10_code
def yX7_axlesAreBad : MethodName := ⟨RX7, "axlesAreBad", "(LStablingroad$Unit;)Z"⟩
def RX8 : String := "Stablingroad$Unit"
def TX8 : u_T := fun k => match k with
  | 0 => ("Stablingroad$Unit", "kmTold", "I", true)
  | 1 => ("Stablingroad$Unit", "faults", "Ljava/util/ArrayList;", true)
  | 2 => ("Stablingroad$Unit", "depot", "I", false)
  | 3 => ("Stablingroad$Unit", "km", "I", false)
  | 4 => ("Stablingroad$Unit", "kmClocks", "[I", true)
  | 5 => ("Stablingroad$Unit", "dayClocks", "[I", true)
  | _ => ("Stablingroad$Unit", "axles", "[I", true)
def tyX8 : Nat → FieldType := fun k => match k with
  | 0 => .int
  | 1 => .object "java/util/ArrayList"
  | 2 => .int
  | 3 => .int
  | 4 => .array .int
  | 5 => .array .int
  | _ => .array .int
abbrev wsX80 : List Cond := u_ws RX8 TX8 7
theorem nmX8 : ∀ a, a < 7 → ∀ b, b < 7 → a ≠ b → (TX8 a).2.1 ≠ (TX8 b).2.1 := by decide +kernel
theorem tyX8_ok : ∀ k, k < 7 → parseFieldDescriptor (TX8 k).2.2.1 = some (tyX8 k) := by decide +kernel
abbrev cX8_init : ByteArray := prog_10_method_1_code
def yX8_init : MethodName := ⟨RX8, "<init>", "(II)V"⟩
abbrev cX8_kmSince : ByteArray := prog_10_method_2_code
def yX8_kmSince : MethodName := ⟨RX8, "kmSince", "(I)I"⟩
abbrev cX8_daysSince : ByteArray := prog_10_method_3_code
def yX8_daysSince : MethodName := ⟨RX8, "daysSince", "(I)I"⟩
abbrev cX8_axleSize : ByteArray := prog_10_method_4_code
def yX8_axleSize : MethodName := ⟨RX8, "axleSize", "(I)I"⟩
abbrev cX8_grow : ByteArray := prog_10_method_5_code
def yX8_grow : MethodName := ⟨RX8, "grow", "(I)V"⟩
abbrev cX8_wear : ByteArray := prog_10_method_6_code
def yX8_wear : MethodName := ⟨RX8, "wear", "(II)I"⟩
abbrev cX8_growOlder : ByteArray := prog_10_method_7_code
def yX8_growOlder : MethodName := ⟨RX8, "growOlder", "()V"⟩
abbrev cX8_beginAgain : ByteArray := prog_10_method_8_code
def yX8_beginAgain : MethodName := ⟨RX8, "beginAgain", "(I)V"⟩
abbrev cX8_greatestAxle : ByteArray := prog_10_method_9_code
def yX8_greatestAxle : MethodName := ⟨RX8, "greatestAxle", "()I"⟩
abbrev cX8_leastAxle : ByteArray := prog_10_method_10_code
def yX8_leastAxle : MethodName := ⟨RX8, "leastAxle", "()I"⟩
abbrev cX8_turn : ByteArray := prog_10_method_11_code
def yX8_turn : MethodName := ⟨RX8, "turn", "()I"⟩
abbrev cX8_depthOnAxle : ByteArray := prog_10_method_12_code
def yX8_depthOnAxle : MethodName := ⟨RX8, "depthOnAxle", "(I)I"⟩
abbrev cX8_dropFlats : ByteArray := prog_10_method_13_code
def yX8_dropFlats : MethodName := ⟨RX8, "dropFlats", "()V"⟩
abbrev cX8_faultAtPlace : ByteArray := prog_10_method_14_code
def yX8_faultAtPlace : MethodName := ⟨RX8, "faultAtPlace", "(I)LStablingroad$Fault;"⟩
abbrev cX8_dropFault : ByteArray := prog_10_method_15_code
def yX8_dropFault : MethodName := ⟨RX8, "dropFault", "(I)V"⟩
def RX9 : String := "Stablingroad"
def TX9 : u_T := fun k => match k with
  | 0 => ("Stablingroad", "units", "Ljava/util/ArrayList;", true)
  | 1 => ("Stablingroad", "diagrams", "Ljava/util/ArrayList;", true)
  | 2 => ("Stablingroad", "rows", "[LStablingroad$Row;", true)
  | 3 => ("Stablingroad", "rules", "LStablingroad$Rules;", true)
  | 4 => ("Stablingroad", "morning", "LStablingroad$Morning;", true)
  | 5 => ("Stablingroad", "past", "LStablingroad$Past;", true)
  | 6 => ("Stablingroad", "now", "I", false)
  | 7 => ("Stablingroad", "shuntCount", "I", false)
  | 8 => ("Stablingroad", "pitIsTaken", "Z", false)
  | _ => ("Stablingroad", "latheIsTaken", "Z", false)
def tyX9 : Nat → FieldType := fun k => match k with
  | 0 => .object "java/util/ArrayList"
  | 1 => .object "java/util/ArrayList"
  | 2 => .array (.object "Stablingroad$Row")
  | 3 => .object "Stablingroad$Rules"
  | 4 => .object "Stablingroad$Morning"
  | 5 => .object "Stablingroad$Past"
  | 6 => .int
  | 7 => .int
  | 8 => .boolean
  | _ => .boolean
abbrev wsX90 : List Cond := u_ws RX9 TX9 10
theorem nmX9 : ∀ a, a < 10 → ∀ b, b < 10 → a ≠ b → (TX9 a).2.1 ≠ (TX9 b).2.1 := by decide +kernel
theorem tyX9_ok : ∀ k, k < 10 → parseFieldDescriptor (TX9 k).2.2.1 = some (tyX9 k) := by decide +kernel
abbrev cX9_init : ByteArray := prog_1_method_1_code
def yX9_init : MethodName := ⟨RX9, "<init>", "()V"⟩
abbrev cX9_unit : ByteArray := prog_1_method_2_code
def yX9_unit : MethodName := ⟨RX9, "unit", "(II)I"⟩
abbrev cX9_diagram : ByteArray := prog_1_method_3_code
def yX9_diagram : MethodName := ⟨RX9, "diagram", "(IIIII)I"⟩
abbrev cX9_exam : ByteArray := prog_1_method_4_code
def yX9_exam : MethodName := ⟨RX9, "exam", "(IIII)I"⟩
abbrev cX9_list : ByteArray := prog_1_method_5_code
def yX9_list : MethodName := ⟨RX9, "list", "(III)I"⟩
abbrev cX9_fault : ByteArray := prog_1_method_6_code
def yX9_fault : MethodName := ⟨RX9, "fault", "(IIII)I"⟩
abbrev cX9_pin : ByteArray := prog_1_method_7_code
def yX9_pin : MethodName := ⟨RX9, "pin", "(II)I"⟩
abbrev cX9_whyNot : ByteArray := prog_1_method_8_code
def yX9_whyNot : MethodName := ⟨RX9, "whyNot", "(II)I"⟩
abbrev cX9_allocation : ByteArray := prog_1_method_9_code
def yX9_allocation : MethodName := ⟨RX9, "allocation", "(I)I"⟩
abbrev cX9_allocationAnew : ByteArray := prog_1_method_10_code
def yX9_allocationAnew : MethodName := ⟨RX9, "allocationAnew", "(I)I"⟩
abbrev cX9_lack : ByteArray := prog_1_method_11_code
def yX9_lack : MethodName := ⟨RX9, "lack", "()I"⟩
abbrev cX9_day : ByteArray := prog_1_method_12_code
def yX9_day : MethodName := ⟨RX9, "day", "()I"⟩
abbrev cX9_examine : ByteArray := prog_1_method_13_code
def yX9_examine : MethodName := ⟨RX9, "examine", "(II)I"⟩
abbrev cX9_lathe : ByteArray := prog_1_method_14_code
def yX9_lathe : MethodName := ⟨RX9, "lathe", "(I)I"⟩
abbrev cX9_mend : ByteArray := prog_1_method_15_code
def yX9_mend : MethodName := ⟨RX9, "mend", "(II)I"⟩
abbrev cX9_today : ByteArray := prog_1_method_16_code
def yX9_today : MethodName := ⟨RX9, "today", "()I"⟩
abbrev cX9_about : ByteArray := prog_1_method_17_code
def yX9_about : MethodName := ⟨RX9, "about", "(II)I"⟩
abbrev cX9_clock : ByteArray := prog_1_method_18_code
def yX9_clock : MethodName := ⟨RX9, "clock", "(IIZ)I"⟩
abbrev cX9_axle : ByteArray := prog_1_method_19_code
def yX9_axle : MethodName := ⟨RX9, "axle", "(II)I"⟩
abbrev cX9_faultAt : ByteArray := prog_1_method_20_code
def yX9_faultAt : MethodName := ⟨RX9, "faultAt", "(III)I"⟩
abbrev cX9_stands : ByteArray := prog_1_method_21_code
def yX9_stands : MethodName := ⟨RX9, "stands", "(II)I"⟩
abbrev cX9_shunts : ByteArray := prog_1_method_22_code
def yX9_shunts : MethodName := ⟨RX9, "shunts", "()I"⟩
abbrev cX9_ran : ByteArray := prog_1_method_23_code
def yX9_ran : MethodName := ⟨RX9, "ran", "(II)I"⟩
abbrev cX9_kmAnew : ByteArray := prog_1_method_24_code
def yX9_kmAnew : MethodName := ⟨RX9, "kmAnew", "(I)I"⟩
abbrev cX9_checkNumber : ByteArray := prog_1_method_25_code
def yX9_checkNumber : MethodName := ⟨RX9, "checkNumber", "(II)V"⟩
abbrev cX9_checkRange : ByteArray := prog_1_method_26_code
def yX9_checkRange : MethodName := ⟨RX9, "checkRange", "(III)V"⟩
abbrev cX9_unitAt : ByteArray := prog_1_method_27_code
def yX9_unitAt : MethodName := ⟨RX9, "unitAt", "(I)LStablingroad$Unit;"⟩
abbrev cX9_diagramAt : ByteArray := prog_1_method_28_code
def yX9_diagramAt : MethodName := ⟨RX9, "diagramAt", "(I)LStablingroad$Diagram;"⟩
abbrev cX9_rowAt : ByteArray := prog_1_method_29_code
def yX9_rowAt : MethodName := ⟨RX9, "rowAt", "(I)LStablingroad$Row;"⟩
abbrev cX9_readMorning : ByteArray := prog_1_method_30_code
def yX9_readMorning : MethodName := ⟨RX9, "readMorning", "()V"⟩
abbrev cX9_leaveRows : ByteArray := prog_1_method_31_code
def yX9_leaveRows : MethodName := ⟨RX9, "leaveRows", "()V"⟩
abbrev cX9_comeToDepots : ByteArray := prog_1_method_32_code
def yX9_comeToDepots : MethodName := ⟨RX9, "comeToDepots", "()V"⟩
def RX10 : String := "StablingroadModel"
def TX10 : u_T := fun k => match k with
  | _ => ("", "", "", false)
def tyX10 : Nat → FieldType := fun k => match k with
  | _ => .int
abbrev wsX100 : List Cond := u_ws RX10 TX10 0
theorem nmX10 : ∀ a, a < 0 → ∀ b, b < 0 → a ≠ b → (TX10 a).2.1 ≠ (TX10 b).2.1 := by decide +kernel
theorem tyX10_ok : ∀ k, k < 0 → parseFieldDescriptor (TX10 k).2.2.1 = some (tyX10 k) := by decide +kernel
def RJx145de : String := "java/io/Serializable"
def TJx145de : u_T := fun k => match k with
  | _ => ("", "", "", false)
def tyJx145de : Nat → FieldType := fun k => match k with
  | _ => .int
abbrev wsJx145de0 : List Cond := u_ws RJx145de TJx145de 0
theorem nmJx145de : ∀ a, a < 0 → ∀ b, b < 0 → a ≠ b → (TJx145de a).2.1 ≠ (TJx145de b).2.1 := by decide +kernel
theorem tyJx145de_ok : ∀ k, k < 0 → parseFieldDescriptor (TJx145de k).2.2.1 = some (tyJx145de k) := by decide +kernel
def RJx8e188 : String := "java/lang/Cloneable"
def TJx8e188 : u_T := fun k => match k with
  | _ => ("", "", "", false)
def tyJx8e188 : Nat → FieldType := fun k => match k with
  | _ => .int
abbrev wsJx8e1880 : List Cond := u_ws RJx8e188 TJx8e188 0
theorem nmJx8e188 : ∀ a, a < 0 → ∀ b, b < 0 → a ≠ b → (TJx8e188 a).2.1 ≠ (TJx8e188 b).2.1 := by decide +kernel
theorem tyJx8e188_ok : ∀ k, k < 0 → parseFieldDescriptor (TJx8e188 k).2.2.1 = some (tyJx8e188 k) := by decide +kernel
def RJxab1ab : String := "java/lang/Iterable"
def TJxab1ab : u_T := fun k => match k with
  | _ => ("", "", "", false)
def tyJxab1ab : Nat → FieldType := fun k => match k with
  | _ => .int
abbrev wsJxab1ab0 : List Cond := u_ws RJxab1ab TJxab1ab 0
theorem nmJxab1ab : ∀ a, a < 0 → ∀ b, b < 0 → a ≠ b → (TJxab1ab a).2.1 ≠ (TJxab1ab b).2.1 := by decide +kernel
theorem tyJxab1ab_ok : ∀ k, k < 0 → parseFieldDescriptor (TJxab1ab k).2.2.1 = some (tyJxab1ab k) := by decide +kernel
def RJ9 : String := "java/lang/Math"
def TJ9 : u_T := fun k => match k with
  | _ => ("", "", "", false)
def tyJ9 : Nat → FieldType := fun k => match k with
  | _ => .int
abbrev wsJ90 : List Cond := u_ws RJ9 TJ9 0
theorem nmJ9 : ∀ a, a < 0 → ∀ b, b < 0 → a ≠ b → (TJ9 a).2.1 ≠ (TJ9 b).2.1 := by decide +kernel
theorem tyJ9_ok : ∀ k, k < 0 → parseFieldDescriptor (TJ9 k).2.2.1 = some (tyJ9 k) := by decide +kernel
abbrev cJ9_max_7cf53 : ByteArray := prog_20_method_65_code
def yJ9_max_7cf53 : MethodName := ⟨RJ9, "max", "(II)I"⟩
abbrev cJ9_min_7cf53 : ByteArray := prog_20_method_69_code
def yJ9_min_7cf53 : MethodName := ⟨RJ9, "min", "(II)I"⟩
def RJ0 : String := "java/lang/String"
def TJ0 : u_T := fun k => match k with
  | _ => ("", "", "", false)
def tyJ0 : Nat → FieldType := fun k => match k with
  | _ => .int
abbrev wsJ00 : List Cond := u_ws RJ0 TJ0 0
theorem nmJ0 : ∀ a, a < 0 → ∀ b, b < 0 → a ≠ b → (TJ0 a).2.1 ≠ (TJ0 b).2.1 := by decide +kernel
theorem tyJ0_ok : ∀ k, k < 0 → parseFieldDescriptor (TJ0 k).2.2.1 = some (tyJ0 k) := by decide +kernel
def RJ10 : String := "java/lang/System"
def TJ10 : u_T := fun k => match k with
  | _ => ("", "", "", false)
def tyJ10 : Nat → FieldType := fun k => match k with
  | _ => .int
abbrev wsJ100 : List Cond := u_ws RJ10 TJ10 0
theorem nmJ10 : ∀ a, a < 0 → ∀ b, b < 0 → a ≠ b → (TJ10 a).2.1 ≠ (TJ10 b).2.1 := by decide +kernel
theorem tyJ10_ok : ∀ k, k < 0 → parseFieldDescriptor (TJ10 k).2.2.1 = some (tyJ10 k) := by decide +kernel
def RJxa1e45 : String := "java/util/AbstractCollection"
def TJxa1e45 : u_T := fun k => match k with
  | _ => ("", "", "", false)
def tyJxa1e45 : Nat → FieldType := fun k => match k with
  | _ => .int
abbrev wsJxa1e450 : List Cond := u_ws RJxa1e45 TJxa1e45 0
theorem nmJxa1e45 : ∀ a, a < 0 → ∀ b, b < 0 → a ≠ b → (TJxa1e45 a).2.1 ≠ (TJxa1e45 b).2.1 := by decide +kernel
theorem tyJxa1e45_ok : ∀ k, k < 0 → parseFieldDescriptor (TJxa1e45 k).2.2.1 = some (tyJxa1e45 k) := by decide +kernel
abbrev cJxa1e45_init_da8c8 : ByteArray := prog_25_method_1_code
def yJxa1e45_init_da8c8 : MethodName := ⟨RJxa1e45, "<init>", "()V"⟩
def RJxc12de : String := "java/util/AbstractList"
def TJxc12de : u_T := fun k => match k with
  | _ => ("", "", "", false)
def tyJxc12de : Nat → FieldType := fun k => match k with
  | _ => .int
abbrev wsJxc12de0 : List Cond := u_ws RJxc12de TJxc12de 0
theorem nmJxc12de : ∀ a, a < 0 → ∀ b, b < 0 → a ≠ b → (TJxc12de a).2.1 ≠ (TJxc12de b).2.1 := by decide +kernel
theorem tyJxc12de_ok : ∀ k, k < 0 → parseFieldDescriptor (TJxc12de k).2.2.1 = some (tyJxc12de k) := by decide +kernel
abbrev cJxc12de_init_da8c8 : ByteArray := prog_26_method_1_code
def yJxc12de_init_da8c8 : MethodName := ⟨RJxc12de, "<init>", "()V"⟩
def RJx4a65c : String := "java/util/ArrayList"
def TJx4a65c : u_T := fun k => match k with
  | 0 => ("java/util/AbstractList", "modCount", "I", false)
  | 1 => ("java/util/ArrayList", "elementData", "[Ljava/lang/Object;", false)
  | _ => ("java/util/ArrayList", "size", "I", false)
def tyJx4a65c : Nat → FieldType := fun k => match k with
  | 0 => .int
  | 1 => .array (.object "java/lang/Object")
  | _ => .int
abbrev wsJx4a65c0 : List Cond := u_ws RJx4a65c TJx4a65c 3
theorem nmJx4a65c : ∀ a, a < 3 → ∀ b, b < 3 → a ≠ b → (TJx4a65c a).2.1 ≠ (TJx4a65c b).2.1 := by decide +kernel
theorem tyJx4a65c_ok : ∀ k, k < 3 → parseFieldDescriptor (TJx4a65c k).2.2.1 = some (tyJx4a65c k) := by decide +kernel
abbrev cJx4a65c_init_da8c8 : ByteArray := prog_27_method_2_code
def yJx4a65c_init_da8c8 : MethodName := ⟨RJx4a65c, "<init>", "()V"⟩
abbrev cJx4a65c_grow_92f84 : ByteArray := prog_27_method_6_code
def yJx4a65c_grow_92f84 : MethodName := ⟨RJx4a65c, "grow", "(I)[Ljava/lang/Object;"⟩
abbrev cJx4a65c_grow_d5877 : ByteArray := prog_27_method_7_code
def yJx4a65c_grow_d5877 : MethodName := ⟨RJx4a65c, "grow", "()[Ljava/lang/Object;"⟩
abbrev cJx4a65c_size_8abf5 : ByteArray := prog_27_method_8_code
def yJx4a65c_size_8abf5 : MethodName := ⟨RJx4a65c, "size", "()I"⟩
abbrev cJx4a65c_elementData_915e3 : ByteArray := prog_27_method_18_code
def yJx4a65c_elementData_915e3 : MethodName := ⟨RJx4a65c, "elementData", "(I)Ljava/lang/Object;"⟩
abbrev cJx4a65c_get_915e3 : ByteArray := prog_27_method_20_code
def yJx4a65c_get_915e3 : MethodName := ⟨RJx4a65c, "get", "(I)Ljava/lang/Object;"⟩
abbrev cJx4a65c_add_72be8 : ByteArray := prog_27_method_24_code
def yJx4a65c_add_72be8 : MethodName := ⟨RJx4a65c, "add", "(Ljava/lang/Object;[Ljava/lang/Object;I)V"⟩
abbrev cJx4a65c_add_9ea2d : ByteArray := prog_27_method_25_code
def yJx4a65c_add_9ea2d : MethodName := ⟨RJx4a65c, "add", "(Ljava/lang/Object;)Z"⟩
abbrev cJx4a65c_remove_915e3 : ByteArray := prog_27_method_29_code
def yJx4a65c_remove_915e3 : MethodName := ⟨RJx4a65c, "remove", "(I)Ljava/lang/Object;"⟩
abbrev cJx4a65c_fastRemove_b59b0 : ByteArray := prog_27_method_39_code
def yJx4a65c_fastRemove_b59b0 : MethodName := ⟨RJx4a65c, "fastRemove", "([Ljava/lang/Object;I)V"⟩
def RJ7 : String := "java/util/Arrays"
def TJ7 : u_T := fun k => match k with
  | _ => ("", "", "", false)
def tyJ7 : Nat → FieldType := fun k => match k with
  | _ => .int
abbrev wsJ70 : List Cond := u_ws RJ7 TJ7 0
theorem nmJ7 : ∀ a, a < 0 → ∀ b, b < 0 → a ≠ b → (TJ7 a).2.1 ≠ (TJ7 b).2.1 := by decide +kernel
theorem tyJ7_ok : ∀ k, k < 0 → parseFieldDescriptor (TJ7 k).2.2.1 = some (tyJ7 k) := by decide +kernel
abbrev cJ7_fill_53178 : ByteArray := prog_28_method_103_code
def yJ7_fill_53178 : MethodName := ⟨RJ7, "fill", "([II)V"⟩
abbrev cJ7_copyOf_1904c : ByteArray := prog_28_method_119_code
def yJ7_copyOf_1904c : MethodName := ⟨RJ7, "copyOf", "([Ljava/lang/Object;I)[Ljava/lang/Object;"⟩
abbrev cJ7_copyOf_6403c : ByteArray := prog_28_method_120_code
def yJ7_copyOf_6403c : MethodName := ⟨RJ7, "copyOf", "([Ljava/lang/Object;ILjava/lang/Class;)[Ljava/lang/Object;"⟩
def RJx5ef63 : String := "java/util/Collection"
def TJx5ef63 : u_T := fun k => match k with
  | _ => ("", "", "", false)
def tyJx5ef63 : Nat → FieldType := fun k => match k with
  | _ => .int
abbrev wsJx5ef630 : List Cond := u_ws RJx5ef63 TJx5ef63 0
theorem nmJx5ef63 : ∀ a, a < 0 → ∀ b, b < 0 → a ≠ b → (TJx5ef63 a).2.1 ≠ (TJx5ef63 b).2.1 := by decide +kernel
theorem tyJx5ef63_ok : ∀ k, k < 0 → parseFieldDescriptor (TJx5ef63 k).2.2.1 = some (tyJx5ef63 k) := by decide +kernel
def RJxbd725 : String := "java/util/List"
def TJxbd725 : u_T := fun k => match k with
  | _ => ("", "", "", false)
def tyJxbd725 : Nat → FieldType := fun k => match k with
  | _ => .int
abbrev wsJxbd7250 : List Cond := u_ws RJxbd725 TJxbd725 0
theorem nmJxbd725 : ∀ a, a < 0 → ∀ b, b < 0 → a ≠ b → (TJxbd725 a).2.1 ≠ (TJxbd725 b).2.1 := by decide +kernel
theorem tyJxbd725_ok : ∀ k, k < 0 → parseFieldDescriptor (TJxbd725 k).2.2.1 = some (tyJxbd725 k) := by decide +kernel
def RJ15 : String := "java/util/Objects"
def TJ15 : u_T := fun k => match k with
  | _ => ("", "", "", false)
def tyJ15 : Nat → FieldType := fun k => match k with
  | _ => .int
abbrev wsJ150 : List Cond := u_ws RJ15 TJ15 0
theorem nmJ15 : ∀ a, a < 0 → ∀ b, b < 0 → a ≠ b → (TJ15 a).2.1 ≠ (TJ15 b).2.1 := by decide +kernel
theorem tyJ15_ok : ∀ k, k < 0 → parseFieldDescriptor (TJ15 k).2.2.1 = some (tyJ15 k) := by decide +kernel
abbrev cJ15_checkIndex_7cf53 : ByteArray := prog_31_method_17_code
def yJ15_checkIndex_7cf53 : MethodName := ⟨RJ15, "checkIndex", "(II)I"⟩
def RJxf0a74 : String := "java/util/RandomAccess"
def TJxf0a74 : u_T := fun k => match k with
  | _ => ("", "", "", false)
def tyJxf0a74 : Nat → FieldType := fun k => match k with
  | _ => .int
abbrev wsJxf0a740 : List Cond := u_ws RJxf0a74 TJxf0a74 0
theorem nmJxf0a74 : ∀ a, a < 0 → ∀ b, b < 0 → a ≠ b → (TJxf0a74 a).2.1 ≠ (TJxf0a74 b).2.1 := by decide +kernel
theorem tyJxf0a74_ok : ∀ k, k < 0 → parseFieldDescriptor (TJxf0a74 k).2.2.1 = some (tyJxf0a74 k) := by decide +kernel
def RJxa66e6 : String := "java/util/SequencedCollection"
def TJxa66e6 : u_T := fun k => match k with
  | _ => ("", "", "", false)
def tyJxa66e6 : Nat → FieldType := fun k => match k with
  | _ => .int
abbrev wsJxa66e60 : List Cond := u_ws RJxa66e6 TJxa66e6 0
theorem nmJxa66e6 : ∀ a, a < 0 → ∀ b, b < 0 → a ≠ b → (TJxa66e6 a).2.1 ≠ (TJxa66e6 b).2.1 := by decide +kernel
theorem tyJxa66e6_ok : ∀ k, k < 0 → parseFieldDescriptor (TJxa66e6 k).2.2.1 = some (tyJxa66e6 k) := by decide +kernel
def RJ8 : String := "jdk/internal/util/ArraysSupport"
def TJ8 : u_T := fun k => match k with
  | _ => ("", "", "", false)
def tyJ8 : Nat → FieldType := fun k => match k with
  | _ => .int
abbrev wsJ80 : List Cond := u_ws RJ8 TJ8 0
theorem nmJ8 : ∀ a, a < 0 → ∀ b, b < 0 → a ≠ b → (TJ8 a).2.1 ≠ (TJ8 b).2.1 := by decide +kernel
theorem tyJ8_ok : ∀ k, k < 0 → parseFieldDescriptor (TJ8 k).2.2.1 = some (tyJ8 k) := by decide +kernel
abbrev cJ8_newLength_cabcc : ByteArray := prog_34_method_27_code
def yJ8_newLength_cabcc : MethodName := ⟨RJ8, "newLength", "(III)I"⟩
abbrev cJ8_hugeLength_7cf53 : ByteArray := prog_34_method_28_code
def yJ8_hugeLength_7cf53 : MethodName := ⟨RJ8, "hugeLength", "(II)I"⟩
def RJ3 : String := "jdk/internal/util/Preconditions"
def TJ3 : u_T := fun k => match k with
  | _ => ("", "", "", false)
def tyJ3 : Nat → FieldType := fun k => match k with
  | _ => .int
abbrev wsJ30 : List Cond := u_ws RJ3 TJ3 0
theorem nmJ3 : ∀ a, a < 0 → ∀ b, b < 0 → a ≠ b → (TJ3 a).2.1 ≠ (TJ3 b).2.1 := by decide +kernel
theorem tyJ3_ok : ∀ k, k < 0 → parseFieldDescriptor (TJ3 k).2.2.1 = some (tyJ3 k) := by decide +kernel
abbrev cJ3_checkIndex_8e157 : ByteArray := prog_35_method_11_code
def yJ3_checkIndex_8e157 : MethodName := ⟨RJ3, "checkIndex", "(IILjava/util/function/BiFunction;)I"⟩
def RL : String := "StablingroadLaw"
abbrev cL_up : ByteArray := method_2_code
def yL_up : MethodName := ⟨RL, "up", "(II)I"⟩
abbrev cL_cell : ByteArray := method_3_code
def yL_cell : MethodName := ⟨RL, "cell", "([II)I"⟩
abbrev cL_why : ByteArray := method_4_code
def yL_why : MethodName := ⟨RL, "why", "([I[I[I[I[IIII)I"⟩
abbrev cL_soon : ByteArray := method_5_code
def yL_soon : MethodName := ⟨RL, "soon", "([I[II)Z"⟩
abbrev cL_allocates : ByteArray := method_6_code
def yL_allocates : MethodName := ⟨RL, "allocates", "([I[I[I[I[II[I)I"⟩
abbrev cL_place : ByteArray := method_7_code
def yL_place : MethodName := ⟨RL, "place", "([I[II)I"⟩
abbrev cL_runs : ByteArray := method_8_code
def yL_runs : MethodName := ⟨RL, "runs", "([I[I[I[I)I"⟩
abbrev cL_remove : ByteArray := method_9_code
def yL_remove : MethodName := ⟨RL, "remove", "([I[I[III)V"⟩
abbrev cL_shop : ByteArray := method_10_code
def yL_shop : MethodName := ⟨RL, "shop", "(LStablingroad;III)I"⟩
abbrev cL_told : ByteArray := method_11_code
def yL_told : MethodName := ⟨RL, "told", "(LStablingroad;IIII)I"⟩
abbrev cL_alike : ByteArray := method_12_code
def yL_alike : MethodName := ⟨RL, "alike", "(LStablingroad;[I[I[I[I[I[II[I)Z"⟩
abbrev cL_law : ByteArray := code
def yL_law : MethodName := ⟨RL, "law", "([I)Z"⟩
abbrev vwCl : List vw_C := [(RJx4a65c, TJx4a65c, 3), (RX0, TX0, 6), (RX1, TX1, 3), (RX2, TX2, 4), (RX3, TX3, 8), (RX4, TX4, 1), (RX5, TX5, 2), (RX6, TX6, 2), (RX7, TX7, 2), (RX8, TX8, 7), (RX9, TX9, 10)]
