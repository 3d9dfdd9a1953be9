def xxR : List String := ["SpoonfulMore$Act", "SpoonfulMore$ActRow", "SpoonfulMore$Chances", "SpoonfulMore$Kept", "SpoonfulMore$Planner", "SpoonfulMore$Reader", "SpoonfulMore$Sightings", "SpoonfulMore$Village", "SpoonfulMore", "SpoonfulMoreModel", "SpoonfulMoreLaw", "java/lang/Math", "java/lang/Integer"]
def xcn (o : Nat) : String := (xxR[o]?).getD ""
def TX0 : u_T := fun k => match k with
  | 0 => ("SpoonfulMore$Act", "kind", "I", false)
  | 1 => ("SpoonfulMore$Act", "thing", "I", false)
  | 2 => ("SpoonfulMore$Act", "holder", "I", false)
  | 3 => ("SpoonfulMore$Act", "daysOut", "I", false)
  | 4 => ("SpoonfulMore$Act", "betterments", "I", false)
  | _ => ("SpoonfulMore$Act", "paid", "I", false)
def tyX0 : Nat → FieldType := fun k => match k with
  | 0 => .int
  | 1 => .int
  | 2 => .int
  | 3 => .int
  | 4 => .int
  | _ => .int
theorem nmX0 : ∀ a, a < 6 → ∀ b, b < 6 → a ≠ b → (TX0 a).2.1 ≠ (TX0 b).2.1 := by decide +kernel
theorem tyX0_ok : ∀ k, k < 6 → parseFieldDescriptor (TX0 k).2.2.1 = some (tyX0 k) := by decide +kernel
def TX1 : u_T := fun k => match k with
  | 0 => ("SpoonfulMore$ActRow", "row", "[LSpoonfulMore$Act;", true)
  | _ => ("SpoonfulMore$ActRow", "size", "I", false)
def tyX1 : Nat → FieldType := fun k => match k with
  | 0 => .array (.object "SpoonfulMore$Act")
  | _ => .int
theorem nmX1 : ∀ a, a < 2 → ∀ b, b < 2 → a ≠ b → (TX1 a).2.1 ≠ (TX1 b).2.1 := by decide +kernel
theorem tyX1_ok : ∀ k, k < 2 → parseFieldDescriptor (TX1 k).2.2.1 = some (tyX1 k) := by decide +kernel
def TX2 : u_T := fun k => match k with
  | _ => ("SpoonfulMore$Chances", "ways", "[J", true)
def tyX2 : Nat → FieldType := fun k => match k with
  | _ => .array (.long)
theorem nmX2 : ∀ a, a < 1 → ∀ b, b < 1 → a ≠ b → (TX2 a).2.1 ≠ (TX2 b).2.1 := by decide +kernel
theorem tyX2_ok : ∀ k, k < 1 → parseFieldDescriptor (TX2 k).2.2.1 = some (tyX2 k) := by decide +kernel
def TX3 : u_T := fun k => match k with
  | 0 => ("SpoonfulMore$Kept", "filled", "Z", false)
  | 1 => ("SpoonfulMore$Kept", "dayKept", "I", false)
  | 2 => ("SpoonfulMore$Kept", "coins", "[I", true)
  | 3 => ("SpoonfulMore$Kept", "grade", "[I", true)
  | 4 => ("SpoonfulMore$Kept", "holder", "[I", true)
  | _ => ("SpoonfulMore$Kept", "daysOut", "[I", true)
def tyX3 : Nat → FieldType := fun k => match k with
  | 0 => .boolean
  | 1 => .int
  | 2 => .array (.int)
  | 3 => .array (.int)
  | 4 => .array (.int)
  | _ => .array (.int)
theorem nmX3 : ∀ a, a < 6 → ∀ b, b < 6 → a ≠ b → (TX3 a).2.1 ≠ (TX3 b).2.1 := by decide +kernel
theorem tyX3_ok : ∀ k, k < 6 → parseFieldDescriptor (TX3 k).2.2.1 = some (tyX3 k) := by decide +kernel
def TX4 : u_T := fun k => match k with
  | 0 => ("SpoonfulMore$Planner", "village", "LSpoonfulMore$Village;", false)
  | 1 => ("SpoonfulMore$Planner", "sort", "I", false)
  | 2 => ("SpoonfulMore$Planner", "choices", "I", false)
  | 3 => ("SpoonfulMore$Planner", "choice", "[I", true)
  | 4 => ("SpoonfulMore$Planner", "needs", "I", false)
  | 5 => ("SpoonfulMore$Planner", "needPerson", "[I", true)
  | 6 => ("SpoonfulMore$Planner", "dayStart", "[I", true)
  | 7 => ("SpoonfulMore$Planner", "possible", "Z", false)
  | 8 => ("SpoonfulMore$Planner", "setsFound", "J", false)
  | 9 => ("SpoonfulMore$Planner", "lentSets", "[I", true)
  | 10 => ("SpoonfulMore$Planner", "lentSetCount", "[I", true)
  | 11 => ("SpoonfulMore$Planner", "tallyOf", "[I", true)
  | 12 => ("SpoonfulMore$Planner", "prices", "[I", true)
  | 13 => ("SpoonfulMore$Planner", "remembered", "[I", true)
  | 14 => ("SpoonfulMore$Planner", "plan", "[I", true)
  | 15 => ("SpoonfulMore$Planner", "planLent", "I", false)
  | _ => ("SpoonfulMore$Planner", "planCost", "I", false)
def tyX4 : Nat → FieldType := fun k => match k with
  | 0 => .object "SpoonfulMore$Village"
  | 1 => .int
  | 2 => .int
  | 3 => .array (.int)
  | 4 => .int
  | 5 => .array (.int)
  | 6 => .array (.int)
  | 7 => .boolean
  | 8 => .long
  | 9 => .array (.int)
  | 10 => .array (.int)
  | 11 => .array (.int)
  | 12 => .array (.int)
  | 13 => .array (.int)
  | 14 => .array (.int)
  | 15 => .int
  | _ => .int
theorem nmX4 : ∀ a, a < 17 → ∀ b, b < 17 → a ≠ b → (TX4 a).2.1 ≠ (TX4 b).2.1 := by decide +kernel
theorem tyX4_ok : ∀ k, k < 17 → parseFieldDescriptor (TX4 k).2.2.1 = some (tyX4 k) := by decide +kernel
def TX5 : u_T := fun k => match k with
  | 0 => ("SpoonfulMore$Reader", "village", "LSpoonfulMore$Village;", false)
  | 1 => ("SpoonfulMore$Reader", "text", "[I", false)
  | 2 => ("SpoonfulMore$Reader", "length", "I", false)
  | 3 => ("SpoonfulMore$Reader", "at", "I", false)
  | _ => ("SpoonfulMore$Reader", "stopped", "Z", false)
def tyX5 : Nat → FieldType := fun k => match k with
  | 0 => .object "SpoonfulMore$Village"
  | 1 => .array (.int)
  | 2 => .int
  | 3 => .int
  | _ => .boolean
theorem nmX5 : ∀ a, a < 5 → ∀ b, b < 5 → a ≠ b → (TX5 a).2.1 ≠ (TX5 b).2.1 := by decide +kernel
theorem tyX5_ok : ∀ k, k < 5 → parseFieldDescriptor (TX5 k).2.2.1 = some (tyX5 k) := by decide +kernel
def TX6 : u_T := fun k => match k with
  | 0 => ("SpoonfulMore$Sightings", "size", "I", false)
  | 1 => ("SpoonfulMore$Sightings", "place", "[I", true)
  | 2 => ("SpoonfulMore$Sightings", "who", "[I", true)
  | 3 => ("SpoonfulMore$Sightings", "had", "[Z", true)
  | 4 => ("SpoonfulMore$Sightings", "rowsTo", "[I", false)
  | _ => ("SpoonfulMore$Sightings", "rowsNext", "[I", false)
def tyX6 : Nat → FieldType := fun k => match k with
  | 0 => .int
  | 1 => .array (.int)
  | 2 => .array (.int)
  | 3 => .array (.boolean)
  | 4 => .array (.int)
  | _ => .array (.int)
theorem nmX6 : ∀ a, a < 6 → ∀ b, b < 6 → a ≠ b → (TX6 a).2.1 ≠ (TX6 b).2.1 := by decide +kernel
theorem tyX6_ok : ∀ k, k < 6 → parseFieldDescriptor (TX6 k).2.2.1 = some (tyX6 k) := by decide +kernel
def TX7 : u_T := fun k => match k with
  | 0 => ("SpoonfulMore$Village", "lawNow", "I", false)
  | 1 => ("SpoonfulMore$Village", "capNow", "I", false)
  | 2 => ("SpoonfulMore$Village", "dayNow", "I", false)
  | 3 => ("SpoonfulMore$Village", "people", "I", false)
  | 4 => ("SpoonfulMore$Village", "things", "I", false)
  | 5 => ("SpoonfulMore$Village", "needs", "I", false)
  | 6 => ("SpoonfulMore$Village", "coins", "[I", true)
  | 7 => ("SpoonfulMore$Village", "knows", "[I", true)
  | 8 => ("SpoonfulMore$Village", "owner", "[I", true)
  | 9 => ("SpoonfulMore$Village", "sort", "[I", true)
  | 10 => ("SpoonfulMore$Village", "grade", "[I", true)
  | 11 => ("SpoonfulMore$Village", "holder", "[I", true)
  | 12 => ("SpoonfulMore$Village", "daysOut", "[I", true)
  | 13 => ("SpoonfulMore$Village", "needPerson", "[I", true)
  | 14 => ("SpoonfulMore$Village", "needSort", "[I", true)
  | _ => ("SpoonfulMore$Village", "needDay", "[I", true)
def tyX7 : Nat → FieldType := fun k => match k with
  | 0 => .int
  | 1 => .int
  | 2 => .int
  | 3 => .int
  | 4 => .int
  | 5 => .int
  | 6 => .array (.int)
  | 7 => .array (.int)
  | 8 => .array (.int)
  | 9 => .array (.int)
  | 10 => .array (.int)
  | 11 => .array (.int)
  | 12 => .array (.int)
  | 13 => .array (.int)
  | 14 => .array (.int)
  | _ => .array (.int)
theorem nmX7 : ∀ a, a < 16 → ∀ b, b < 16 → a ≠ b → (TX7 a).2.1 ≠ (TX7 b).2.1 := by decide +kernel
theorem tyX7_ok : ∀ k, k < 16 → parseFieldDescriptor (TX7 k).2.2.1 = some (tyX7 k) := by decide +kernel
def TX8 : u_T := fun k => match k with
  | 0 => ("SpoonfulMore", "text", "[I", true)
  | 1 => ("SpoonfulMore", "length", "I", false)
  | 2 => ("SpoonfulMore", "reader", "LSpoonfulMore$Reader;", true)
  | 3 => ("SpoonfulMore", "here", "LSpoonfulMore$Village;", false)
  | 4 => ("SpoonfulMore", "draft", "LSpoonfulMore$Village;", false)
  | 5 => ("SpoonfulMore", "acts", "LSpoonfulMore$ActRow;", true)
  | 6 => ("SpoonfulMore", "slots", "[LSpoonfulMore$Kept;", true)
  | 7 => ("SpoonfulMore", "planner", "LSpoonfulMore$Planner;", true)
  | 8 => ("SpoonfulMore", "capCosts", "[I", true)
  | 9 => ("SpoonfulMore", "seen", "LSpoonfulMore$Sightings;", true)
  | 10 => ("SpoonfulMore", "chances", "LSpoonfulMore$Chances;", true)
  | 11 => ("SpoonfulMore", "yearGrades", "[I", true)
  | _ => ("SpoonfulMore", "seedNow", "J", false)
def tyX8 : Nat → FieldType := fun k => match k with
  | 0 => .array (.int)
  | 1 => .int
  | 2 => .object "SpoonfulMore$Reader"
  | 3 => .object "SpoonfulMore$Village"
  | 4 => .object "SpoonfulMore$Village"
  | 5 => .object "SpoonfulMore$ActRow"
  | 6 => .array (.object "SpoonfulMore$Kept")
  | 7 => .object "SpoonfulMore$Planner"
  | 8 => .array (.int)
  | 9 => .object "SpoonfulMore$Sightings"
  | 10 => .object "SpoonfulMore$Chances"
  | 11 => .array (.int)
  | _ => .long
theorem nmX8 : ∀ a, a < 13 → ∀ b, b < 13 → a ≠ b → (TX8 a).2.1 ≠ (TX8 b).2.1 := by decide +kernel
theorem tyX8_ok : ∀ k, k < 13 → parseFieldDescriptor (TX8 k).2.2.1 = some (tyX8 k) := by decide +kernel
def TX9 : u_T := fun k => match k with
  | 0 => ("SpoonfulMoreModel", "readCoins", "[I", true)
  | 1 => ("SpoonfulMoreModel", "readKnows", "[I", true)
  | 2 => ("SpoonfulMoreModel", "readThings", "[I", true)
  | 3 => ("SpoonfulMoreModel", "readNeeds", "[I", true)
  | 4 => ("SpoonfulMoreModel", "readPeople", "I", false)
  | 5 => ("SpoonfulMoreModel", "readMany", "I", false)
  | 6 => ("SpoonfulMoreModel", "readWants", "I", false)
  | 7 => ("SpoonfulMoreModel", "readRule", "I", false)
  | 8 => ("SpoonfulMoreModel", "readHighest", "I", false)
  | 9 => ("SpoonfulMoreModel", "knows", "[I", true)
  | 10 => ("SpoonfulMoreModel", "owner", "[I", true)
  | 11 => ("SpoonfulMoreModel", "sort", "[I", true)
  | 12 => ("SpoonfulMoreModel", "needs", "[I", true)
  | 13 => ("SpoonfulMoreModel", "people", "I", false)
  | 14 => ("SpoonfulMoreModel", "many", "I", false)
  | 15 => ("SpoonfulMoreModel", "wants", "I", false)
  | 16 => ("SpoonfulMoreModel", "rule", "I", false)
  | 17 => ("SpoonfulMoreModel", "highest", "I", false)
  | 18 => ("SpoonfulMoreModel", "now", "[I", true)
  | 19 => ("SpoonfulMoreModel", "text", "[I", true)
  | 20 => ("SpoonfulMoreModel", "length", "I", false)
  | 21 => ("SpoonfulMoreModel", "at", "I", false)
  | 22 => ("SpoonfulMoreModel", "faultAt", "I", false)
  | 23 => ("SpoonfulMoreModel", "acts", "I", false)
  | 24 => ("SpoonfulMoreModel", "next", "I", false)
  | 25 => ("SpoonfulMoreModel", "row", "[I", true)
  | 26 => ("SpoonfulMoreModel", "order", "[I", true)
  | 27 => ("SpoonfulMoreModel", "ordered", "I", false)
  | 28 => ("SpoonfulMoreModel", "tried", "[I", true)
  | 29 => ("SpoonfulMoreModel", "found", "[I", true)
  | 30 => ("SpoonfulMoreModel", "grade", "[I", true)
  | 31 => ("SpoonfulMoreModel", "leastCost", "I", false)
  | 32 => ("SpoonfulMoreModel", "seen", "I", false)
  | 33 => ("SpoonfulMoreModel", "seenAt", "[I", true)
  | 34 => ("SpoonfulMoreModel", "seenPerson", "[I", true)
  | 35 => ("SpoonfulMoreModel", "seenHad", "[Z", true)
  | 36 => ("SpoonfulMoreModel", "ways", "[I", true)
  | 37 => ("SpoonfulMoreModel", "then", "[I", true)
  | 38 => ("SpoonfulMoreModel", "seed", "J", false)
  | 39 => ("SpoonfulMoreModel", "isKept", "[Z", true)
  | _ => ("SpoonfulMoreModel", "kept", "[I", true)
def tyX9 : Nat → FieldType := fun k => match k with
  | 0 => .array (.int)
  | 1 => .array (.int)
  | 2 => .array (.int)
  | 3 => .array (.int)
  | 4 => .int
  | 5 => .int
  | 6 => .int
  | 7 => .int
  | 8 => .int
  | 9 => .array (.int)
  | 10 => .array (.int)
  | 11 => .array (.int)
  | 12 => .array (.int)
  | 13 => .int
  | 14 => .int
  | 15 => .int
  | 16 => .int
  | 17 => .int
  | 18 => .array (.int)
  | 19 => .array (.int)
  | 20 => .int
  | 21 => .int
  | 22 => .int
  | 23 => .int
  | 24 => .int
  | 25 => .array (.int)
  | 26 => .array (.int)
  | 27 => .int
  | 28 => .array (.int)
  | 29 => .array (.int)
  | 30 => .array (.int)
  | 31 => .int
  | 32 => .int
  | 33 => .array (.int)
  | 34 => .array (.int)
  | 35 => .array (.boolean)
  | 36 => .array (.int)
  | 37 => .array (.int)
  | 38 => .long
  | 39 => .array (.boolean)
  | _ => .array (.int)
theorem nmX9 : ∀ a, a < 41 → ∀ b, b < 41 → a ≠ b → (TX9 a).2.1 ≠ (TX9 b).2.1 := by decide +kernel
theorem tyX9_ok : ∀ k, k < 41 → parseFieldDescriptor (TX9 k).2.2.1 = some (tyX9 k) := by decide +kernel
abbrev xCl : List vw_C := [("SpoonfulMore$Act", TX0, 6), ("SpoonfulMore$ActRow", TX1, 2), ("SpoonfulMore$Chances", TX2, 1), ("SpoonfulMore$Kept", TX3, 6), ("SpoonfulMore$Planner", TX4, 17), ("SpoonfulMore$Reader", TX5, 5), ("SpoonfulMore$Sightings", TX6, 6), ("SpoonfulMore$Village", TX7, 16), ("SpoonfulMore", TX8, 13), ("SpoonfulMoreModel", TX9, 41)]
abbrev xTy (ci : Nat) : Nat → FieldType := match ci with
  | 0 => tyX0
  | 1 => tyX1
  | 2 => tyX2
  | 3 => tyX3
  | 4 => tyX4
  | 5 => tyX5
  | 6 => tyX6
  | 7 => tyX7
  | 8 => tyX8
  | _ => tyX9
abbrev xM : Type := MethodName × Nat × ByteArray × Nat × Option FieldType × (List Value → Nat)
def xmy (M : xM) : MethodName := M.1
def xmo (M : xM) : Nat := M.2.1
def xmc (M : xM) : ByteArray := M.2.2.1
def xmL (M : xM) : Nat := M.2.2.2.1
def xmr (M : xM) : Option FieldType := M.2.2.2.2.1
def xmk (M : xM) : List Value → Nat := M.2.2.2.2.2
def M_Act_init : xM := (⟨"SpoonfulMore$Act", "<init>", "()V"⟩, 0, prog_2_method_1_code, 1, none, (fun _ => 0))
def M_Act_undoIn : xM := (⟨"SpoonfulMore$Act", "undoIn", "(LSpoonfulMore$Village;)V"⟩, 0, prog_2_method_2_code, 2, none, (fun _ => 2))
def M_ActRow_init : xM := (⟨"SpoonfulMore$ActRow", "<init>", "()V"⟩, 1, prog_3_method_1_code, 2, none, (fun _ => 1))
def M_ActRow_clear : xM := (⟨"SpoonfulMore$ActRow", "clear", "()V"⟩, 1, prog_3_method_2_code, 1, none, (fun _ => 0))
def M_ActRow_next : xM := (⟨"SpoonfulMore$ActRow", "next", "(I)LSpoonfulMore$Act;"⟩, 1, prog_3_method_3_code, 3, some ((Jvm.ClassFile.FieldType.object "SpoonfulMore$Act")), (fun _ => 1))
def M_ActRow_undoLast : xM := (⟨"SpoonfulMore$ActRow", "undoLast", "(LSpoonfulMore$Village;)V"⟩, 1, prog_3_method_4_code, 2, none, (fun _ => 3))
def M_ActRow_forgetFirst : xM := (⟨"SpoonfulMore$ActRow", "forgetFirst", "()V"⟩, 1, prog_3_method_5_code, 3, none, (fun _ => 0))
def M_Chances_init : xM := (⟨"SpoonfulMore$Chances", "<init>", "()V"⟩, 2, prog_4_method_1_code, 1, none, (fun _ => 0))
def M_Chances_spread : xM := (⟨"SpoonfulMore$Chances", "spread", "(II)V"⟩, 2, prog_4_method_2_code, 5, none, (fun _ => 0))
def M_Chances_costInAll : xM := (⟨"SpoonfulMore$Chances", "costInAll", "(III)J"⟩, 2, prog_4_method_3_code, 7, some (Jvm.ClassFile.FieldType.long), (fun _ => 1))
def M_Chances_waysInAll : xM := (⟨"SpoonfulMore$Chances", "waysInAll", "(I)J"⟩, 2, prog_4_method_4_code, 5, some (Jvm.ClassFile.FieldType.long), (fun _ => 0))
def M_Kept_init : xM := (⟨"SpoonfulMore$Kept", "<init>", "()V"⟩, 3, prog_5_method_1_code, 1, none, (fun _ => 0))
def M_Kept_drop : xM := (⟨"SpoonfulMore$Kept", "drop", "()V"⟩, 3, prog_5_method_2_code, 1, none, (fun _ => 0))
def M_Kept_take : xM := (⟨"SpoonfulMore$Kept", "take", "(LSpoonfulMore$Village;)V"⟩, 3, prog_5_method_3_code, 2, none, (fun _ => 0))
def M_Kept_fits : xM := (⟨"SpoonfulMore$Kept", "fits", "(LSpoonfulMore$Village;)Z"⟩, 3, prog_5_method_4_code, 3, some (Jvm.ClassFile.FieldType.boolean), (fun _ => 0))
def M_Kept_giveTo : xM := (⟨"SpoonfulMore$Kept", "giveTo", "(LSpoonfulMore$Village;)V"⟩, 3, prog_5_method_5_code, 2, none, (fun _ => 0))
def M_Planner_init : xM := (⟨"SpoonfulMore$Planner", "<init>", "()V"⟩, 4, prog_6_method_1_code, 2, none, (fun _ => 0))
def M_Planner_gather : xM := (⟨"SpoonfulMore$Planner", "gather", "(LSpoonfulMore$Village;I)V"⟩, 4, prog_6_method_2_code, 4, none, (fun _ => 12))
def M_Planner_leastCost : xM := (⟨"SpoonfulMore$Planner", "leastCost", "(I)I"⟩, 4, prog_6_method_3_code, 2, some (Jvm.ClassFile.FieldType.int), (fun _ => 7))
def M_Planner_firstPlanAt : xM := (⟨"SpoonfulMore$Planner", "firstPlanAt", "(II)I"⟩, 4, prog_6_method_4_code, 5, some (Jvm.ClassFile.FieldType.int), (fun _ => 17))
def M_Planner_gatherThings : xM := (⟨"SpoonfulMore$Planner", "gatherThings", "()V"⟩, 4, prog_6_method_5_code, 2, none, (fun _ => 0))
def M_Planner_gatherNeeds : xM := (⟨"SpoonfulMore$Planner", "gatherNeeds", "()V"⟩, 4, prog_6_method_6_code, 3, none, (fun _ => 0))
def M_Planner_lentFor : xM := (⟨"SpoonfulMore$Planner", "lentFor", "(II)I"⟩, 4, prog_6_method_7_code, 5, some (Jvm.ClassFile.FieldType.int), (fun _ => 1))
def M_Planner_findSets : xM := (⟨"SpoonfulMore$Planner", "findSets", "(IIII)V"⟩, 4, prog_6_method_8_code, 7, none, (fun a => match a with | [_, .int x, _, _, _] => 2 + (9 - x.toNatClampNeg) | _ => 11))
def M_Planner_listSets : xM := (⟨"SpoonfulMore$Planner", "listSets", "(I)V"⟩, 4, prog_6_method_9_code, 3, none, (fun _ => 1))
def M_Planner_hasListedSetIn : xM := (⟨"SpoonfulMore$Planner", "hasListedSetIn", "(II)Z"⟩, 4, prog_6_method_10_code, 4, some (Jvm.ClassFile.FieldType.boolean), (fun _ => 0))
def M_Planner_priceAt : xM := (⟨"SpoonfulMore$Planner", "priceAt", "(I)V"⟩, 4, prog_6_method_11_code, 5, none, (fun _ => 1))
def M_Planner_costOfSet : xM := (⟨"SpoonfulMore$Planner", "costOfSet", "(II)I"⟩, 4, prog_6_method_12_code, 5, some (Jvm.ClassFile.FieldType.int), (fun _ => 0))
def M_Planner_costFrom : xM := (⟨"SpoonfulMore$Planner", "costFrom", "(II)I"⟩, 4, prog_6_method_13_code, 7, some (Jvm.ClassFile.FieldType.int), (fun a => match a with | [_, .int x, _] => 1 + (5 - x.toNatClampNeg) | _ => 6))
def M_Planner_planDay : xM := (⟨"SpoonfulMore$Planner", "planDay", "(IIIII)Z"⟩, 4, prog_6_method_14_code, 8, some (Jvm.ClassFile.FieldType.boolean), (fun a => match a with | [_, _, .int x, _, _, _] => 7 + (9 - x.toNatClampNeg) | _ => 16))
def M_Reader_init : xM := (⟨"SpoonfulMore$Reader", "<init>", "()V"⟩, 5, prog_7_method_1_code, 1, none, (fun _ => 0))
def M_Reader_readInto : xM := (⟨"SpoonfulMore$Reader", "readInto", "(LSpoonfulMore$Village;[II)I"⟩, 5, prog_7_method_2_code, 5, some (Jvm.ClassFile.FieldType.int), (fun _ => 5))
def M_Reader_readHead : xM := (⟨"SpoonfulMore$Reader", "readHead", "()V"⟩, 5, prog_7_method_3_code, 1, none, (fun _ => 1))
def M_Reader_readPart : xM := (⟨"SpoonfulMore$Reader", "readPart", "()V"⟩, 5, prog_7_method_4_code, 2, none, (fun _ => 4))
def M_Reader_mayBegin : xM := (⟨"SpoonfulMore$Reader", "mayBegin", "(I)Z"⟩, 5, prog_7_method_5_code, 2, some (Jvm.ClassFile.FieldType.boolean), (fun _ => 3))
def M_Reader_readPerson : xM := (⟨"SpoonfulMore$Reader", "readPerson", "()V"⟩, 5, prog_7_method_6_code, 3, none, (fun _ => 1))
def M_Reader_readKnowing : xM := (⟨"SpoonfulMore$Reader", "readKnowing", "()V"⟩, 5, prog_7_method_7_code, 3, none, (fun _ => 3))
def M_Reader_readThing : xM := (⟨"SpoonfulMore$Reader", "readThing", "()V"⟩, 5, prog_7_method_8_code, 4, none, (fun _ => 2))
def M_Reader_readNeed : xM := (⟨"SpoonfulMore$Reader", "readNeed", "()V"⟩, 5, prog_7_method_9_code, 4, none, (fun _ => 2))
def M_Reader_figureOf : xM := (⟨"SpoonfulMore$Reader", "figureOf", "(I)I"⟩, 5, prog_7_method_10_code, 3, some (Jvm.ClassFile.FieldType.int), (fun _ => 0))
def M_Reader_strangersOf : xM := (⟨"SpoonfulMore$Reader", "strangersOf", "(I)I"⟩, 5, prog_7_method_11_code, 2, some (Jvm.ClassFile.FieldType.int), (fun _ => 1))
def M_Reader_whoCanKnowMore : xM := (⟨"SpoonfulMore$Reader", "whoCanKnowMore", "()I"⟩, 5, prog_7_method_12_code, 3, some (Jvm.ClassFile.FieldType.int), (fun _ => 2))
def M_Reader_freeDays : xM := (⟨"SpoonfulMore$Reader", "freeDays", "(II)I"⟩, 5, prog_7_method_13_code, 5, some (Jvm.ClassFile.FieldType.int), (fun _ => 0))
def M_Reader_sortsWithFreeDays : xM := (⟨"SpoonfulMore$Reader", "sortsWithFreeDays", "(I)I"⟩, 5, prog_7_method_14_code, 4, some (Jvm.ClassFile.FieldType.int), (fun _ => 1))
def M_Sight_init : xM := (⟨"SpoonfulMore$Sightings", "<init>", "()V"⟩, 6, prog_8_method_1_code, 1, none, (fun _ => 0))
def M_Sight_add : xM := (⟨"SpoonfulMore$Sightings", "add", "(IIZ)V"⟩, 6, prog_8_method_2_code, 4, none, (fun _ => 0))
def M_Sight_rowsWithout : xM := (⟨"SpoonfulMore$Sightings", "rowsWithout", "(ILSpoonfulMore$Village;II)I"⟩, 6, prog_8_method_3_code, 9, some (Jvm.ClassFile.FieldType.int), (fun _ => 2))
def M_Sight_fitting : xM := (⟨"SpoonfulMore$Sightings", "fitting", "(ILSpoonfulMore$Village;)I"⟩, 6, prog_8_method_4_code, 6, some (Jvm.ClassFile.FieldType.int), (fun _ => 1))
def M_Sight_goOn : xM := (⟨"SpoonfulMore$Sightings", "goOn", "(ILSpoonfulMore$Village;)V"⟩, 6, prog_8_method_5_code, 6, none, (fun _ => 1))
def M_Village_init : xM := (⟨"SpoonfulMore$Village", "<init>", "()V"⟩, 7, prog_9_method_1_code, 1, none, (fun _ => 0))
def M_Village_empty : xM := (⟨"SpoonfulMore$Village", "empty", "()V"⟩, 7, prog_9_method_2_code, 1, none, (fun _ => 0))
def M_Village_addPerson : xM := (⟨"SpoonfulMore$Village", "addPerson", "(I)V"⟩, 7, prog_9_method_3_code, 2, none, (fun _ => 0))
def M_Village_addThing : xM := (⟨"SpoonfulMore$Village", "addThing", "(III)V"⟩, 7, prog_9_method_4_code, 4, none, (fun _ => 1))
def M_Village_addNeed : xM := (⟨"SpoonfulMore$Village", "addNeed", "(III)V"⟩, 7, prog_9_method_5_code, 4, none, (fun _ => 0))
def M_Village_hasPerson : xM := (⟨"SpoonfulMore$Village", "hasPerson", "(I)Z"⟩, 7, prog_9_method_6_code, 2, some (Jvm.ClassFile.FieldType.boolean), (fun _ => 0))
def M_Village_hasThing : xM := (⟨"SpoonfulMore$Village", "hasThing", "(I)Z"⟩, 7, prog_9_method_7_code, 2, some (Jvm.ClassFile.FieldType.boolean), (fun _ => 0))
def M_Village_know : xM := (⟨"SpoonfulMore$Village", "know", "(II)Z"⟩, 7, prog_9_method_8_code, 3, some (Jvm.ClassFile.FieldType.boolean), (fun _ => 0))
def M_Village_everybody : xM := (⟨"SpoonfulMore$Village", "everybody", "()I"⟩, 7, prog_9_method_9_code, 1, some (Jvm.ClassFile.FieldType.int), (fun _ => 0))
def M_Village_isOut : xM := (⟨"SpoonfulMore$Village", "isOut", "(I)Z"⟩, 7, prog_9_method_10_code, 2, some (Jvm.ClassFile.FieldType.boolean), (fun _ => 0))
def M_Village_bringHome : xM := (⟨"SpoonfulMore$Village", "bringHome", "(I)V"⟩, 7, prog_9_method_11_code, 2, none, (fun _ => 0))
def M_Village_passDays : xM := (⟨"SpoonfulMore$Village", "passDays", "(I)V"⟩, 7, prog_9_method_12_code, 3, none, (fun _ => 1))
def M_Village_due : xM := (⟨"SpoonfulMore$Village", "due", "(I)I"⟩, 7, prog_9_method_13_code, 2, some (Jvm.ClassFile.FieldType.int), (fun _ => 1))
def M_Village_worth : xM := (⟨"SpoonfulMore$Village", "worth", "(I)I"⟩, 7, prog_9_method_14_code, 2, some (Jvm.ClassFile.FieldType.int), (fun _ => 1))
def M_Village_worthOfAll : xM := (⟨"SpoonfulMore$Village", "worthOfAll", "([I)I"⟩, 7, prog_9_method_15_code, 4, some (Jvm.ClassFile.FieldType.int), (fun _ => 1))
def M_Village_coinsOfAll : xM := (⟨"SpoonfulMore$Village", "coinsOfAll", "()I"⟩, 7, prog_9_method_16_code, 3, some (Jvm.ClassFile.FieldType.int), (fun _ => 0))
def M_Village_thingsOut : xM := (⟨"SpoonfulMore$Village", "thingsOut", "()I"⟩, 7, prog_9_method_17_code, 3, some (Jvm.ClassFile.FieldType.int), (fun _ => 1))
def M_Village_greatestGrade : xM := (⟨"SpoonfulMore$Village", "greatestGrade", "()I"⟩, 7, prog_9_method_18_code, 3, some (Jvm.ClassFile.FieldType.int), (fun _ => 1))
def M_Village_lawAndCap : xM := (⟨"SpoonfulMore$Village", "lawAndCap", "()I"⟩, 7, prog_9_method_19_code, 1, some (Jvm.ClassFile.FieldType.int), (fun _ => 0))
def M_Sp_init : xM := (⟨"SpoonfulMore", "<init>", "()V"⟩, 8, prog_1_method_1_code, 1, none, (fun _ => 2))
def M_Sp_write : xM := (⟨"SpoonfulMore", "write", "(IJ)I"⟩, 8, prog_1_method_2_code, 5, some (Jvm.ClassFile.FieldType.int), (fun _ => 0))
def M_Sp_wipe : xM := (⟨"SpoonfulMore", "wipe", "()I"⟩, 8, prog_1_method_3_code, 2, some (Jvm.ClassFile.FieldType.int), (fun _ => 0))
def M_Sp_fault : xM := (⟨"SpoonfulMore", "fault", "()I"⟩, 8, prog_1_method_4_code, 1, some (Jvm.ClassFile.FieldType.int), (fun _ => 6))
def M_Sp_village : xM := (⟨"SpoonfulMore", "village", "()I"⟩, 8, prog_1_method_5_code, 3, some (Jvm.ClassFile.FieldType.int), (fun _ => 6))
def M_Sp_person : xM := (⟨"SpoonfulMore", "person", "(II)I"⟩, 8, prog_1_method_6_code, 3, some (Jvm.ClassFile.FieldType.int), (fun _ => 1))
def M_Sp_thing : xM := (⟨"SpoonfulMore", "thing", "(II)I"⟩, 8, prog_1_method_7_code, 3, some (Jvm.ClassFile.FieldType.int), (fun _ => 2))
def M_Sp_law : xM := (⟨"SpoonfulMore", "law", "(II)I"⟩, 8, prog_1_method_8_code, 4, some (Jvm.ClassFile.FieldType.int), (fun _ => 2))
def M_Sp_lend : xM := (⟨"SpoonfulMore", "lend", "(II)I"⟩, 8, prog_1_method_9_code, 4, some (Jvm.ClassFile.FieldType.int), (fun _ => 2))
def M_Sp_back : xM := (⟨"SpoonfulMore", "back", "(II)I"⟩, 8, prog_1_method_10_code, 6, some (Jvm.ClassFile.FieldType.int), (fun _ => 2))
def M_Sp_day : xM := (⟨"SpoonfulMore", "day", "()I"⟩, 8, prog_1_method_11_code, 1, some (Jvm.ClassFile.FieldType.int), (fun _ => 2))
def M_Sp_undo : xM := (⟨"SpoonfulMore", "undo", "()I"⟩, 8, prog_1_method_12_code, 1, some (Jvm.ClassFile.FieldType.int), (fun _ => 4))
def M_Sp_least : xM := (⟨"SpoonfulMore", "least", "(I)I"⟩, 8, prog_1_method_13_code, 2, some (Jvm.ClassFile.FieldType.int), (fun _ => 13))
def M_Sp_leastAt : xM := (⟨"SpoonfulMore", "leastAt", "(II)I"⟩, 8, prog_1_method_14_code, 3, some (Jvm.ClassFile.FieldType.int), (fun _ => 18))
def M_Sp_cap : xM := (⟨"SpoonfulMore", "cap", "(I)I"⟩, 8, prog_1_method_15_code, 6, some (Jvm.ClassFile.FieldType.int), (fun _ => 13))
def M_Sp_see : xM := (⟨"SpoonfulMore", "see", "(IIZ)I"⟩, 8, prog_1_method_16_code, 4, some (Jvm.ClassFile.FieldType.int), (fun _ => 1))
def M_Sp_unsee : xM := (⟨"SpoonfulMore", "unsee", "()I"⟩, 8, prog_1_method_17_code, 2, some (Jvm.ClassFile.FieldType.int), (fun _ => 0))
def M_Sp_hands : xM := (⟨"SpoonfulMore", "hands", "(II)I"⟩, 8, prog_1_method_18_code, 3, some (Jvm.ClassFile.FieldType.int), (fun _ => 3))
def M_Sp_surely : xM := (⟨"SpoonfulMore", "surely", "(II)I"⟩, 8, prog_1_method_19_code, 5, some (Jvm.ClassFile.FieldType.int), (fun _ => 3))
def M_Sp_borrow : xM := (⟨"SpoonfulMore", "borrow", "(IIIIZ)J"⟩, 8, prog_1_method_20_code, 12, some (Jvm.ClassFile.FieldType.long), (fun _ => 2))
def M_Sp_seed : xM := (⟨"SpoonfulMore", "seed", "(J)J"⟩, 8, prog_1_method_21_code, 5, some (Jvm.ClassFile.FieldType.long), (fun _ => 0))
def M_Sp_year : xM := (⟨"SpoonfulMore", "year", "(I)I"⟩, 8, prog_1_method_22_code, 5, some (Jvm.ClassFile.FieldType.int), (fun _ => 2))
def M_Sp_keep : xM := (⟨"SpoonfulMore", "keep", "(I)I"⟩, 8, prog_1_method_23_code, 2, some (Jvm.ClassFile.FieldType.int), (fun _ => 1))
def M_Sp_again : xM := (⟨"SpoonfulMore", "again", "(I)I"⟩, 8, prog_1_method_24_code, 2, some (Jvm.ClassFile.FieldType.int), (fun _ => 1))
def M_Sp_count : xM := (⟨"SpoonfulMore", "count", "(I)I"⟩, 8, prog_1_method_25_code, 2, some (Jvm.ClassFile.FieldType.int), (fun _ => 2))
def M_Sp_bitsOf : xM := (⟨"SpoonfulMore", "bitsOf", "([III)I"⟩, 8, prog_1_method_26_code, 5, some (Jvm.ClassFile.FieldType.int), (fun _ => 0))
def M_Sp_costOf : xM := (⟨"SpoonfulMore", "costOf", "(III)I"⟩, 8, prog_1_method_27_code, 5, some (Jvm.ClassFile.FieldType.int), (fun _ => 0))
def M_Sp_greatestDivisor : xM := (⟨"SpoonfulMore", "greatestDivisor", "(JJ)J"⟩, 8, prog_1_method_28_code, 11, some (Jvm.ClassFile.FieldType.long), (fun _ => 0))
def M_Md_init : xM := (⟨"SpoonfulMoreModel", "<init>", "()V"⟩, 9, prog_11_method_1_code, 1, none, (fun _ => 0))
def M_Md_in : xM := (⟨"SpoonfulMoreModel", "in", "(JJJ)Z"⟩, 9, prog_11_method_3_code, 6, some (Jvm.ClassFile.FieldType.boolean), (fun _ => 0))
def M_Md_write : xM := (⟨"SpoonfulMoreModel", "write", "(IJ)I"⟩, 9, prog_11_method_4_code, 5, some (Jvm.ClassFile.FieldType.int), (fun _ => 1))
def M_Md_wipe : xM := (⟨"SpoonfulMoreModel", "wipe", "()I"⟩, 9, prog_11_method_5_code, 2, some (Jvm.ClassFile.FieldType.int), (fun _ => 0))
def M_Md_figure : xM := (⟨"SpoonfulMoreModel", "figure", "(I)I"⟩, 9, prog_11_method_6_code, 3, some (Jvm.ClassFile.FieldType.int), (fun _ => 1))
def M_Md_strangers : xM := (⟨"SpoonfulMoreModel", "strangers", "(I)I"⟩, 9, prog_11_method_7_code, 2, some (Jvm.ClassFile.FieldType.int), (fun _ => 0))
def M_Md_lonely : xM := (⟨"SpoonfulMoreModel", "lonely", "()I"⟩, 9, prog_11_method_8_code, 3, some (Jvm.ClassFile.FieldType.int), (fun _ => 1))
def M_Md_freeDays : xM := (⟨"SpoonfulMoreModel", "freeDays", "(II)I"⟩, 9, prog_11_method_9_code, 5, some (Jvm.ClassFile.FieldType.int), (fun _ => 0))
def M_Md_freeSorts : xM := (⟨"SpoonfulMoreModel", "freeSorts", "(I)I"⟩, 9, prog_11_method_10_code, 4, some (Jvm.ClassFile.FieldType.int), (fun _ => 1))
def M_Md_readText : xM := (⟨"SpoonfulMoreModel", "readText", "()I"⟩, 9, prog_11_method_11_code, 1, some (Jvm.ClassFile.FieldType.int), (fun _ => 4))
def M_Md_readPart : xM := (⟨"SpoonfulMoreModel", "readPart", "(I)V"⟩, 9, prog_11_method_12_code, 4, none, (fun _ => 3))
def M_Md_readNeed : xM := (⟨"SpoonfulMoreModel", "readNeed", "()V"⟩, 9, prog_11_method_13_code, 6, none, (fun _ => 2))
def M_Md_fault : xM := (⟨"SpoonfulMoreModel", "fault", "()I"⟩, 9, prog_11_method_14_code, 1, some (Jvm.ClassFile.FieldType.int), (fun _ => 5))
def M_Md_village : xM := (⟨"SpoonfulMoreModel", "village", "()I"⟩, 9, prog_11_method_15_code, 2, some (Jvm.ClassFile.FieldType.int), (fun _ => 5))
def M_Md_isPerson : xM := (⟨"SpoonfulMoreModel", "isPerson", "(I)Z"⟩, 9, prog_11_method_16_code, 2, some (Jvm.ClassFile.FieldType.boolean), (fun _ => 1))
def M_Md_isThing : xM := (⟨"SpoonfulMoreModel", "isThing", "(I)Z"⟩, 9, prog_11_method_17_code, 2, some (Jvm.ClassFile.FieldType.boolean), (fun _ => 1))
def M_Md_doKnow : xM := (⟨"SpoonfulMoreModel", "doKnow", "(II)Z"⟩, 9, prog_11_method_18_code, 3, some (Jvm.ClassFile.FieldType.boolean), (fun _ => 0))
def M_Md_price : xM := (⟨"SpoonfulMoreModel", "price", "(II)I"⟩, 9, prog_11_method_19_code, 2, some (Jvm.ClassFile.FieldType.int), (fun _ => 0))
def M_Md_prices : xM := (⟨"SpoonfulMoreModel", "prices", "(III)I"⟩, 9, prog_11_method_20_code, 5, some (Jvm.ClassFile.FieldType.int), (fun _ => 1))
def M_Md_worthOf : xM := (⟨"SpoonfulMoreModel", "worthOf", "(I)I"⟩, 9, prog_11_method_21_code, 2, some (Jvm.ClassFile.FieldType.int), (fun _ => 2))
def M_Md_dueOf : xM := (⟨"SpoonfulMoreModel", "dueOf", "(I)I"⟩, 9, prog_11_method_22_code, 4, some (Jvm.ClassFile.FieldType.int), (fun _ => 0))
def M_Md_person : xM := (⟨"SpoonfulMoreModel", "person", "(II)I"⟩, 9, prog_11_method_23_code, 6, some (Jvm.ClassFile.FieldType.int), (fun _ => 2))
def M_Md_thing : xM := (⟨"SpoonfulMoreModel", "thing", "(II)I"⟩, 9, prog_11_method_24_code, 3, some (Jvm.ClassFile.FieldType.int), (fun _ => 3))
def M_Md_greatest : xM := (⟨"SpoonfulMoreModel", "greatest", "()I"⟩, 9, prog_11_method_25_code, 3, some (Jvm.ClassFile.FieldType.int), (fun _ => 0))
def M_Md_law : xM := (⟨"SpoonfulMoreModel", "law", "(II)I"⟩, 9, prog_11_method_26_code, 4, some (Jvm.ClassFile.FieldType.int), (fun _ => 1))
def M_Md_keepAct : xM := (⟨"SpoonfulMoreModel", "keepAct", "()V"⟩, 9, prog_11_method_27_code, 2, none, (fun _ => 0))
def M_Md_lend : xM := (⟨"SpoonfulMoreModel", "lend", "(II)I"⟩, 9, prog_11_method_28_code, 5, some (Jvm.ClassFile.FieldType.int), (fun _ => 2))
def M_Md_back : xM := (⟨"SpoonfulMoreModel", "back", "(II)I"⟩, 9, prog_11_method_29_code, 5, some (Jvm.ClassFile.FieldType.int), (fun _ => 2))
def M_Md_day : xM := (⟨"SpoonfulMoreModel", "day", "()I"⟩, 9, prog_11_method_30_code, 2, some (Jvm.ClassFile.FieldType.int), (fun _ => 1))
def M_Md_undo : xM := (⟨"SpoonfulMoreModel", "undo", "()I"⟩, 9, prog_11_method_31_code, 2, some (Jvm.ClassFile.FieldType.int), (fun _ => 0))
def M_Md_layOrder : xM := (⟨"SpoonfulMoreModel", "layOrder", "(I)V"⟩, 9, prog_11_method_32_code, 4, none, (fun _ => 0))
def M_Md_mayDo : xM := (⟨"SpoonfulMoreModel", "mayDo", "(III)Z"⟩, 9, prog_11_method_33_code, 7, some (Jvm.ClassFile.FieldType.boolean), (fun _ => 1))
def M_Md_costOf : xM := (⟨"SpoonfulMoreModel", "costOf", "(III)I"⟩, 9, prog_11_method_34_code, 8, some (Jvm.ClassFile.FieldType.int), (fun _ => 1))
def M_Md_layLeast : xM := (⟨"SpoonfulMoreModel", "layLeast", "(II)V"⟩, 9, prog_11_method_35_code, 7, none, (fun _ => 2))
def M_Md_least : xM := (⟨"SpoonfulMoreModel", "least", "(I)I"⟩, 9, prog_11_method_36_code, 2, some (Jvm.ClassFile.FieldType.int), (fun _ => 3))
def M_Md_leastAt : xM := (⟨"SpoonfulMoreModel", "leastAt", "(II)I"⟩, 9, prog_11_method_37_code, 3, some (Jvm.ClassFile.FieldType.int), (fun _ => 3))
def M_Md_cap : xM := (⟨"SpoonfulMoreModel", "cap", "(I)I"⟩, 9, prog_11_method_38_code, 7, some (Jvm.ClassFile.FieldType.int), (fun _ => 3))
def M_Md_see : xM := (⟨"SpoonfulMoreModel", "see", "(IIZ)I"⟩, 9, prog_11_method_39_code, 4, some (Jvm.ClassFile.FieldType.int), (fun _ => 2))
def M_Md_unsee : xM := (⟨"SpoonfulMoreModel", "unsee", "()I"⟩, 9, prog_11_method_40_code, 2, some (Jvm.ClassFile.FieldType.int), (fun _ => 0))
def M_Md_fits : xM := (⟨"SpoonfulMoreModel", "fits", "(II)Z"⟩, 9, prog_11_method_41_code, 6, some (Jvm.ClassFile.FieldType.boolean), (fun _ => 2))
def M_Md_rowsBut : xM := (⟨"SpoonfulMoreModel", "rowsBut", "(III)I"⟩, 9, prog_11_method_42_code, 7, some (Jvm.ClassFile.FieldType.int), (fun _ => 3))
def M_Md_hands : xM := (⟨"SpoonfulMoreModel", "hands", "(II)I"⟩, 9, prog_11_method_43_code, 3, some (Jvm.ClassFile.FieldType.int), (fun _ => 4))
def M_Md_surely : xM := (⟨"SpoonfulMoreModel", "surely", "(II)I"⟩, 9, prog_11_method_44_code, 5, some (Jvm.ClassFile.FieldType.int), (fun _ => 4))
def M_Md_part : xM := (⟨"SpoonfulMoreModel", "part", "(JJZ)J"⟩, 9, prog_11_method_45_code, 11, some (Jvm.ClassFile.FieldType.long), (fun _ => 0))
def M_Md_borrow : xM := (⟨"SpoonfulMoreModel", "borrow", "(IIIIZ)J"⟩, 9, prog_11_method_46_code, 16, some (Jvm.ClassFile.FieldType.long), (fun _ => 2))
def M_Md_seed : xM := (⟨"SpoonfulMoreModel", "seed", "(J)J"⟩, 9, prog_11_method_47_code, 5, some (Jvm.ClassFile.FieldType.long), (fun _ => 0))
def M_Md_year : xM := (⟨"SpoonfulMoreModel", "year", "(I)I"⟩, 9, prog_11_method_48_code, 4, some (Jvm.ClassFile.FieldType.int), (fun _ => 2))
def M_Md_keep : xM := (⟨"SpoonfulMoreModel", "keep", "(I)I"⟩, 9, prog_11_method_49_code, 3, some (Jvm.ClassFile.FieldType.int), (fun _ => 1))
def M_Md_again : xM := (⟨"SpoonfulMoreModel", "again", "(I)I"⟩, 9, prog_11_method_50_code, 4, some (Jvm.ClassFile.FieldType.int), (fun _ => 1))
def M_Md_count : xM := (⟨"SpoonfulMoreModel", "count", "(I)I"⟩, 9, prog_11_method_51_code, 6, some (Jvm.ClassFile.FieldType.int), (fun _ => 3))
def M_Int_bitCount : xM := (⟨"java/lang/Integer", "bitCount", "(I)I"⟩, 12, prog_12_method_49_code, 1, some (Jvm.ClassFile.FieldType.int), (fun _ => 0))
def M_law : xM := (⟨"SpoonfulMoreLaw", "law", "([I)Z"⟩, 10, code, 4, some .boolean, (fun _ => 19))
def xGood : List Cond := lw_tbl.filter goodWord
theorem xGood_at {w : Cond} (p : Nat) (h : lw_tbl[p]? = some w) (g : goodWord w = true) : w ∈ xGood := List.mem_filter.mpr ⟨List.mem_of_getElem? h, g⟩
theorem xSub_1 {w : Cond} (p : Nat) (h : tables_1_1[p]? = some w) (g : goodWord w = true) : w ∈ xGood := List.mem_filter.mpr ⟨List.mem_append_right _ (List.mem_append_left _ (List.mem_of_getElem? h)), g⟩
theorem xSub_2 {w : Cond} (p : Nat) (h : tables_1_2[p]? = some w) (g : goodWord w = true) : w ∈ xGood := List.mem_filter.mpr ⟨List.mem_append_right _ (List.mem_append_right _ (List.mem_append_left _ (List.mem_of_getElem? h))), g⟩
theorem xSub_3 {w : Cond} (p : Nat) (h : tables_1_3[p]? = some w) (g : goodWord w = true) : w ∈ xGood := List.mem_filter.mpr ⟨List.mem_append_right _ (List.mem_append_right _ (List.mem_append_right _ (List.mem_append_left _ (List.mem_of_getElem? h)))), g⟩
theorem xSub_4 {w : Cond} (p : Nat) (h : tables_1_4[p]? = some w) (g : goodWord w = true) : w ∈ xGood := List.mem_filter.mpr ⟨List.mem_append_right _ (List.mem_append_right _ (List.mem_append_right _ (List.mem_append_right _ (List.mem_append_left _ (List.mem_of_getElem? h))))), g⟩
theorem xSub_5 {w : Cond} (p : Nat) (h : tables_1_5[p]? = some w) (g : goodWord w = true) : w ∈ xGood := List.mem_filter.mpr ⟨List.mem_append_right _ (List.mem_append_right _ (List.mem_append_right _ (List.mem_append_right _ (List.mem_append_right _ (List.mem_of_getElem? h))))), g⟩
def xCd (M : xM) : Cond := .code (xmy M) (xmc M) (xmL M) (xmr M)
theorem cd_Village_passDays : xCd M_Village_passDays ∈ xGood := xSub_3 61 rfl rfl
theorem cd_Village_bringHome : xCd M_Village_bringHome ∈ xGood := xSub_2 186 rfl rfl
theorem cd_Act_init : xCd M_Act_init ∈ xGood := xSub_1 155 rfl rfl
theorem cd_ActRow_forgetFirst : xCd M_ActRow_forgetFirst ∈ xGood := xSub_3 41 rfl rfl
theorem cd_Act_undoIn : xCd M_Act_undoIn ∈ xGood := xSub_3 73 rfl rfl
theorem cd_Sp_costOf : xCd M_Sp_costOf ∈ xGood := xSub_3 0 rfl rfl
theorem cd_Planner_gatherThings : xCd M_Planner_gatherThings ∈ xGood := xSub_3 87 rfl rfl
theorem cd_Planner_gatherNeeds : xCd M_Planner_gatherNeeds ∈ xGood := xSub_3 91 rfl rfl
theorem cd_Planner_findSets : xCd M_Planner_findSets ∈ xGood := xSub_3 95 rfl rfl
theorem cd_Planner_listSets : xCd M_Planner_listSets ∈ xGood := xSub_3 104 rfl rfl
theorem cd_Planner_priceAt : xCd M_Planner_priceAt ∈ xGood := xSub_3 116 rfl rfl
theorem cd_Planner_costFrom : xCd M_Planner_costFrom ∈ xGood := xSub_3 121 rfl rfl
theorem cd_Planner_planDay : xCd M_Planner_planDay ∈ xGood := xSub_3 139 rfl rfl
theorem cd_Village_know : xCd M_Village_know ∈ xGood := xSub_3 33 rfl rfl
theorem cd_Planner_lentFor : xCd M_Planner_lentFor ∈ xGood := xSub_3 99 rfl rfl
theorem cd_Planner_hasListedSetIn : xCd M_Planner_hasListedSetIn ∈ xGood := xSub_3 108 rfl rfl
theorem cd_Planner_costOfSet : xCd M_Planner_costOfSet ∈ xGood := xSub_3 126 rfl rfl
theorem cd_Village_empty : xCd M_Village_empty ∈ xGood := xSub_2 134 rfl rfl
theorem cd_Reader_readHead : xCd M_Reader_readHead ∈ xGood := xSub_2 138 rfl rfl
theorem cd_Reader_readPart : xCd M_Reader_readPart ∈ xGood := xSub_2 146 rfl rfl
theorem cd_Reader_figureOf : xCd M_Reader_figureOf ∈ xGood := xSub_2 142 rfl rfl
theorem cd_Reader_mayBegin : xCd M_Reader_mayBegin ∈ xGood := xSub_2 150 rfl rfl
theorem cd_Reader_readPerson : xCd M_Reader_readPerson ∈ xGood := xSub_2 166 rfl rfl
theorem cd_Reader_readKnowing : xCd M_Reader_readKnowing ∈ xGood := xSub_2 174 rfl rfl
theorem cd_Reader_readThing : xCd M_Reader_readThing ∈ xGood := xSub_2 178 rfl rfl
theorem cd_Reader_readNeed : xCd M_Reader_readNeed ∈ xGood := xSub_2 190 rfl rfl
theorem cd_Reader_whoCanKnowMore : xCd M_Reader_whoCanKnowMore ∈ xGood := xSub_2 154 rfl rfl
theorem cd_Village_addPerson : xCd M_Village_addPerson ∈ xGood := xSub_2 170 rfl rfl
theorem cd_Reader_strangersOf : xCd M_Reader_strangersOf ∈ xGood := xSub_2 158 rfl rfl
theorem cd_Village_everybody : xCd M_Village_everybody ∈ xGood := xSub_2 162 rfl rfl
theorem cd_Village_addThing : xCd M_Village_addThing ∈ xGood := xSub_2 182 rfl rfl
theorem cd_Reader_sortsWithFreeDays : xCd M_Reader_sortsWithFreeDays ∈ xGood := xSub_2 194 rfl rfl
theorem cd_Reader_freeDays : xCd M_Reader_freeDays ∈ xGood := xSub_2 198 rfl rfl
theorem cd_Village_addNeed : xCd M_Village_addNeed ∈ xGood := xSub_2 202 rfl rfl
theorem cd_Sight_fitting : xCd M_Sight_fitting ∈ xGood := xSub_3 169 rfl rfl
theorem cd_Sight_goOn : xCd M_Sight_goOn ∈ xGood := xSub_3 174 rfl rfl
theorem cd_Village_hasPerson : xCd M_Village_hasPerson ∈ xGood := xSub_2 222 rfl rfl
theorem cd_Village_isOut : xCd M_Village_isOut ∈ xGood := xSub_3 8 rfl rfl
theorem cd_Reader_init : xCd M_Reader_init ∈ xGood := xSub_1 26 rfl rfl
theorem cd_Village_init : xCd M_Village_init ∈ xGood := xSub_1 49 rfl rfl
theorem cd_ActRow_init : xCd M_ActRow_init ∈ xGood := xSub_1 148 rfl rfl
theorem cd_Kept_init : xCd M_Kept_init ∈ xGood := xSub_1 195 rfl rfl
theorem cd_Planner_init : xCd M_Planner_init ∈ xGood := xSub_1 220 rfl rfl
theorem cd_Sight_init : xCd M_Sight_init ∈ xGood := xSub_2 38 rfl rfl
theorem cd_Chances_init : xCd M_Chances_init ∈ xGood := xSub_2 65 rfl rfl
theorem cd_Reader_readInto : xCd M_Reader_readInto ∈ xGood := xSub_2 127 rfl rfl
theorem cd_ActRow_clear : xCd M_ActRow_clear ∈ xGood := xSub_2 210 rfl rfl
theorem cd_Kept_drop : xCd M_Kept_drop ∈ xGood := xSub_2 214 rfl rfl
theorem cd_Sp_bitsOf : xCd M_Sp_bitsOf ∈ xGood := xSub_2 225 rfl rfl
theorem cd_Village_hasThing : xCd M_Village_hasThing ∈ xGood := xSub_2 233 rfl rfl
theorem cd_Village_worth : xCd M_Village_worth ∈ xGood := xSub_2 237 rfl rfl
theorem cd_Village_due : xCd M_Village_due ∈ xGood := xSub_3 4 rfl rfl
theorem cd_Village_greatestGrade : xCd M_Village_greatestGrade ∈ xGood := xSub_3 17 rfl rfl
theorem cd_Village_lawAndCap : xCd M_Village_lawAndCap ∈ xGood := xSub_3 24 rfl rfl
theorem cd_ActRow_next : xCd M_ActRow_next ∈ xGood := xSub_3 37 rfl rfl
theorem cd_Int_bitCount : xCd M_Int_bitCount ∈ xGood := xSub_3 44 rfl rfl
theorem cd_ActRow_undoLast : xCd M_ActRow_undoLast ∈ xGood := xSub_3 69 rfl rfl
theorem cd_Planner_gather : xCd M_Planner_gather ∈ xGood := xSub_3 83 rfl rfl
theorem cd_Planner_leastCost : xCd M_Planner_leastCost ∈ xGood := xSub_3 112 rfl rfl
theorem cd_Planner_firstPlanAt : xCd M_Planner_firstPlanAt ∈ xGood := xSub_3 135 rfl rfl
theorem cd_Sight_add : xCd M_Sight_add ∈ xGood := xSub_3 152 rfl rfl
theorem cd_Sight_rowsWithout : xCd M_Sight_rowsWithout ∈ xGood := xSub_3 164 rfl rfl
theorem cd_Chances_spread : xCd M_Chances_spread ∈ xGood := xSub_3 188 rfl rfl
theorem cd_Chances_costInAll : xCd M_Chances_costInAll ∈ xGood := xSub_3 192 rfl rfl
theorem cd_Chances_waysInAll : xCd M_Chances_waysInAll ∈ xGood := xSub_3 198 rfl rfl
theorem cd_Sp_greatestDivisor : xCd M_Sp_greatestDivisor ∈ xGood := xSub_3 202 rfl rfl
theorem cd_Village_worthOfAll : xCd M_Village_worthOfAll ∈ xGood := xSub_3 222 rfl rfl
theorem cd_Kept_take : xCd M_Kept_take ∈ xGood := xSub_3 230 rfl rfl
theorem cd_Kept_fits : xCd M_Kept_fits ∈ xGood := xSub_3 239 rfl rfl
theorem cd_Kept_giveTo : xCd M_Kept_giveTo ∈ xGood := xSub_4 3 rfl rfl
theorem cd_Village_coinsOfAll : xCd M_Village_coinsOfAll ∈ xGood := xSub_4 11 rfl rfl
theorem cd_Village_thingsOut : xCd M_Village_thingsOut ∈ xGood := xSub_4 15 rfl rfl
theorem cd_Md_in : xCd M_Md_in ∈ xGood := xSub_4 153 rfl rfl
theorem cd_Md_strangers : xCd M_Md_strangers ∈ xGood := xSub_4 183 rfl rfl
theorem cd_Md_freeDays : xCd M_Md_freeDays ∈ xGood := xSub_4 195 rfl rfl
theorem cd_Md_figure : xCd M_Md_figure ∈ xGood := xSub_4 170 rfl rfl
theorem cd_Md_readPart : xCd M_Md_readPart ∈ xGood := xSub_4 175 rfl rfl
theorem cd_Md_lonely : xCd M_Md_lonely ∈ xGood := xSub_4 179 rfl rfl
theorem cd_Md_readNeed : xCd M_Md_readNeed ∈ xGood := xSub_4 187 rfl rfl
theorem cd_Md_freeSorts : xCd M_Md_freeSorts ∈ xGood := xSub_4 191 rfl rfl
theorem cd_Md_readText : xCd M_Md_readText ∈ xGood := xSub_4 166 rfl rfl
theorem cd_Md_price : xCd M_Md_price ∈ xGood := xSub_4 225 rfl rfl
theorem cd_Md_prices : xCd M_Md_prices ∈ xGood := xSub_4 222 rfl rfl
theorem cd_Md_isPerson : xCd M_Md_isPerson ∈ xGood := xSub_4 207 rfl rfl
theorem cd_Md_isThing : xCd M_Md_isThing ∈ xGood := xSub_4 215 rfl rfl
theorem cd_Md_worthOf : xCd M_Md_worthOf ∈ xGood := xSub_4 219 rfl rfl
theorem cd_Md_dueOf : xCd M_Md_dueOf ∈ xGood := xSub_4 229 rfl rfl
theorem cd_Md_greatest : xCd M_Md_greatest ∈ xGood := xSub_4 238 rfl rfl
theorem cd_Md_doKnow : xCd M_Md_doKnow ∈ xGood := xSub_5 6 rfl rfl
theorem cd_Md_keepAct : xCd M_Md_keepAct ∈ xGood := xSub_5 10 rfl rfl
theorem cd_Md_layOrder : xCd M_Md_layOrder ∈ xGood := xSub_5 35 rfl rfl
theorem cd_Md_mayDo : xCd M_Md_mayDo ∈ xGood := xSub_5 39 rfl rfl
theorem cd_Md_costOf : xCd M_Md_costOf ∈ xGood := xSub_5 43 rfl rfl
theorem cd_Md_layLeast : xCd M_Md_layLeast ∈ xGood := xSub_5 31 rfl rfl
theorem cd_Md_fits : xCd M_Md_fits ∈ xGood := xSub_5 72 rfl rfl
theorem cd_Md_rowsBut : xCd M_Md_rowsBut ∈ xGood := xSub_5 68 rfl rfl
theorem cd_Md_part : xCd M_Md_part ∈ xGood := xSub_5 85 rfl rfl
theorem cd_Sp_init : xCd M_Sp_init ∈ xGood := xSub_1 18 rfl rfl
theorem cd_Md_init : xCd M_Md_init ∈ xGood := xSub_4 20 rfl rfl
theorem cd_Sp_write : xCd M_Sp_write ∈ xGood := xSub_2 115 rfl rfl
theorem cd_Md_write : xCd M_Md_write ∈ xGood := xSub_4 149 rfl rfl
theorem cd_Sp_wipe : xCd M_Sp_wipe ∈ xGood := xSub_2 119 rfl rfl
theorem cd_Md_wipe : xCd M_Md_wipe ∈ xGood := xSub_4 158 rfl rfl
theorem cd_Sp_fault : xCd M_Sp_fault ∈ xGood := xSub_2 123 rfl rfl
theorem cd_Md_fault : xCd M_Md_fault ∈ xGood := xSub_4 162 rfl rfl
theorem cd_Sp_village : xCd M_Sp_village ∈ xGood := xSub_2 206 rfl rfl
theorem cd_Md_village : xCd M_Md_village ∈ xGood := xSub_4 199 rfl rfl
theorem cd_Sp_person : xCd M_Sp_person ∈ xGood := xSub_2 218 rfl rfl
theorem cd_Md_person : xCd M_Md_person ∈ xGood := xSub_4 203 rfl rfl
theorem cd_Sp_thing : xCd M_Sp_thing ∈ xGood := xSub_2 229 rfl rfl
theorem cd_Md_thing : xCd M_Md_thing ∈ xGood := xSub_4 211 rfl rfl
theorem cd_Sp_law : xCd M_Sp_law ∈ xGood := xSub_3 13 rfl rfl
theorem cd_Md_law : xCd M_Md_law ∈ xGood := xSub_4 233 rfl rfl
theorem cd_Sp_lend : xCd M_Sp_lend ∈ xGood := xSub_3 28 rfl rfl
theorem cd_Md_lend : xCd M_Md_lend ∈ xGood := xSub_5 2 rfl rfl
theorem cd_Sp_back : xCd M_Sp_back ∈ xGood := xSub_3 51 rfl rfl
theorem cd_Md_back : xCd M_Md_back ∈ xGood := xSub_5 14 rfl rfl
theorem cd_Sp_day : xCd M_Sp_day ∈ xGood := xSub_3 57 rfl rfl
theorem cd_Md_day : xCd M_Md_day ∈ xGood := xSub_5 18 rfl rfl
theorem cd_Sp_undo : xCd M_Sp_undo ∈ xGood := xSub_3 65 rfl rfl
theorem cd_Md_undo : xCd M_Md_undo ∈ xGood := xSub_5 22 rfl rfl
theorem cd_Sp_least : xCd M_Sp_least ∈ xGood := xSub_3 79 rfl rfl
theorem cd_Md_least : xCd M_Md_least ∈ xGood := xSub_5 26 rfl rfl
theorem cd_Sp_leastAt : xCd M_Sp_leastAt ∈ xGood := xSub_3 131 rfl rfl
theorem cd_Md_leastAt : xCd M_Md_leastAt ∈ xGood := xSub_5 47 rfl rfl
theorem cd_Sp_cap : xCd M_Sp_cap ∈ xGood := xSub_3 143 rfl rfl
theorem cd_Md_cap : xCd M_Md_cap ∈ xGood := xSub_5 51 rfl rfl
theorem cd_Sp_see : xCd M_Sp_see ∈ xGood := xSub_3 148 rfl rfl
theorem cd_Md_see : xCd M_Md_see ∈ xGood := xSub_5 56 rfl rfl
theorem cd_Sp_unsee : xCd M_Sp_unsee ∈ xGood := xSub_3 156 rfl rfl
theorem cd_Md_unsee : xCd M_Md_unsee ∈ xGood := xSub_5 60 rfl rfl
theorem cd_Sp_hands : xCd M_Sp_hands ∈ xGood := xSub_3 160 rfl rfl
theorem cd_Md_hands : xCd M_Md_hands ∈ xGood := xSub_5 64 rfl rfl
theorem cd_Sp_surely : xCd M_Sp_surely ∈ xGood := xSub_3 179 rfl rfl
theorem cd_Md_surely : xCd M_Md_surely ∈ xGood := xSub_5 76 rfl rfl
theorem cd_Sp_borrow : xCd M_Sp_borrow ∈ xGood := xSub_3 183 rfl rfl
theorem cd_Md_borrow : xCd M_Md_borrow ∈ xGood := xSub_5 80 rfl rfl
theorem cd_Sp_seed : xCd M_Sp_seed ∈ xGood := xSub_3 209 rfl rfl
theorem cd_Md_seed : xCd M_Md_seed ∈ xGood := xSub_5 89 rfl rfl
theorem cd_Sp_year : xCd M_Sp_year ∈ xGood := xSub_3 213 rfl rfl
theorem cd_Md_year : xCd M_Md_year ∈ xGood := xSub_5 93 rfl rfl
theorem cd_Sp_keep : xCd M_Sp_keep ∈ xGood := xSub_3 226 rfl rfl
theorem cd_Md_keep : xCd M_Md_keep ∈ xGood := xSub_5 100 rfl rfl
theorem cd_Sp_again : xCd M_Sp_again ∈ xGood := xSub_3 235 rfl rfl
theorem cd_Md_again : xCd M_Md_again ∈ xGood := xSub_5 104 rfl rfl
theorem cd_Sp_count : xCd M_Sp_count ∈ xGood := xSub_4 7 rfl rfl
theorem cd_Md_count : xCd M_Md_count ∈ xGood := xSub_5 108 rfl rfl
abbrev xIe : Type := (Nat × Nat) × (Nat × Nat × xM)
abbrev xIvL_0 : List xIe := [((0, 1), (5, 0, M_law)), ((0, 13), (0, 1, M_Village_passDays)), ((0, 22), (0, 1, M_Village_bringHome)), ((1, 3), (5, 0, M_law)), ((1, 17), (4, 0, M_Act_init)), ((1, 22), (0, 0, M_ActRow_forgetFirst)), ((1, 28), (0, 1, M_Act_undoIn)), ((2, 3), (5, 0, M_law)), ((2, 15), (8, 0, M_law)), ((2, 21), (3, 3, M_Sp_costOf)), ((3, 3), (5, 0, M_law)), ((3, 38), (6, 0, M_law)), ((4, 3), (5, 0, M_law)), ((4, 47), (0, 0, M_Planner_gatherThings)), ((4, 50), (0, 0, M_Planner_gatherNeeds)), ((4, 61), (0, 4, M_Planner_findSets)), ((4, 65), (0, 1, M_Planner_listSets)), ((4, 72), (0, 1, M_Planner_priceAt)), ((4, 75), (0, 2, M_Planner_costFrom)), ((4, 82), (0, 5, M_Planner_planDay)), ((4, 110), (0, 2, M_Village_know)), ((4, 114), (0, 2, M_Planner_lentFor)), ((4, 117), (0, 2, M_Planner_hasListedSetIn)), ((4, 123), (3, 3, M_Sp_costOf)), ((4, 128), (0, 2, M_Planner_costOfSet))]
abbrev xIvL_1 : List xIe := [((4, 131), (8, 0, M_law)), ((5, 3), (5, 0, M_law)), ((5, 19), (8, 0, M_law)), ((5, 36), (0, 0, M_Village_empty)), ((5, 41), (0, 0, M_Reader_readHead)), ((5, 44), (0, 0, M_Reader_readPart)), ((5, 47), (0, 1, M_Reader_figureOf)), ((5, 57), (0, 1, M_Reader_mayBegin)), ((5, 61), (0, 0, M_Reader_readPerson)), ((5, 64), (0, 0, M_Reader_readKnowing)), ((5, 67), (0, 0, M_Reader_readThing)), ((5, 70), (0, 0, M_Reader_readNeed)), ((5, 76), (0, 0, M_Reader_whoCanKnowMore)), ((5, 86), (0, 1, M_Village_addPerson)), ((5, 90), (0, 1, M_Reader_strangersOf)), ((5, 96), (0, 0, M_Village_everybody)), ((5, 99), (0, 3, M_Village_addThing)), ((5, 103), (0, 1, M_Reader_sortsWithFreeDays)), ((5, 106), (0, 2, M_Reader_freeDays)), ((5, 109), (0, 3, M_Village_addNeed)), ((6, 3), (5, 0, M_law)), ((6, 32), (0, 0, M_Village_everybody)), ((6, 44), (0, 2, M_Sight_fitting)), ((6, 51), (0, 2, M_Sight_goOn)), ((6, 55), (0, 1, M_Village_hasPerson))]
abbrev xIvL_2 : List xIe := [((6, 59), (0, 2, M_Village_know)), ((7, 3), (5, 0, M_law)), ((7, 61), (0, 1, M_Village_bringHome)), ((7, 65), (0, 1, M_Village_isOut)), ((7, 69), (8, 0, M_law)), ((7, 75), (3, 3, M_Sp_costOf)), ((7, 79), (7, 0, M_law)), ((8, 1), (5, 0, M_law)), ((8, 19), (4, 0, M_Reader_init)), ((8, 26), (2, 0, M_Village_init)), ((8, 36), (2, 0, M_ActRow_init)), ((8, 43), (4, 0, M_Kept_init)), ((8, 50), (2, 0, M_Planner_init)), ((8, 60), (4, 0, M_Sight_init)), ((8, 67), (4, 0, M_Chances_init)), ((8, 79), (0, 3, M_Reader_readInto)), ((8, 83), (0, 0, M_ActRow_clear)), ((8, 86), (0, 0, M_Kept_drop)), ((8, 95), (0, 1, M_Village_hasPerson)), ((8, 108), (1, 3, M_Sp_bitsOf)), ((8, 115), (0, 1, M_Village_hasThing)), ((8, 124), (0, 1, M_Village_worth)), ((8, 128), (0, 1, M_Village_due)), ((8, 134), (0, 0, M_Village_greatestGrade)), ((8, 138), (0, 0, M_Village_lawAndCap))]
abbrev xIvL_3 : List xIe := [((8, 147), (0, 1, M_Village_isOut)), ((8, 150), (0, 2, M_Village_know)), ((8, 156), (0, 1, M_ActRow_next)), ((8, 163), (1, 1, M_Int_bitCount)), ((8, 168), (1, 3, M_Sp_costOf)), ((8, 182), (0, 1, M_Village_bringHome)), ((8, 186), (0, 1, M_Village_passDays)), ((8, 195), (0, 1, M_ActRow_undoLast)), ((8, 199), (0, 2, M_Planner_gather)), ((8, 203), (0, 1, M_Planner_leastCost)), ((8, 206), (0, 2, M_Planner_firstPlanAt)), ((8, 210), (7, 0, M_law)), ((8, 216), (0, 3, M_Sight_add)), ((8, 220), (0, 4, M_Sight_rowsWithout)), ((8, 226), (0, 2, M_Chances_spread)), ((8, 230), (0, 3, M_Chances_costInAll)), ((8, 234), (0, 1, M_Chances_waysInAll)), ((8, 238), (1, 2, M_Sp_greatestDivisor)), ((8, 242), (9, 0, M_law)), ((8, 244), (6, 0, M_law)), ((8, 254), (0, 1, M_Village_worthOfAll)), ((8, 258), (0, 1, M_Kept_take)), ((8, 261), (0, 1, M_Kept_fits)), ((8, 265), (0, 1, M_Kept_giveTo)), ((8, 271), (0, 0, M_Village_coinsOfAll))]
abbrev xIvL_4 : List xIe := [((8, 274), (0, 0, M_Village_thingsOut)), ((9, 1), (5, 0, M_law)), ((9, 83), (1, 3, M_Md_in)), ((9, 103), (0, 1, M_Md_strangers)), ((9, 110), (0, 2, M_Md_freeDays)), ((9, 117), (0, 1, M_Md_figure)), ((9, 126), (0, 1, M_Md_readPart)), ((9, 130), (0, 0, M_Md_lonely)), ((9, 134), (0, 0, M_Md_readNeed)), ((9, 137), (0, 1, M_Md_freeSorts)), ((9, 140), (0, 0, M_Md_readText)), ((9, 158), (1, 2, M_Md_price)), ((9, 161), (1, 3, M_Md_prices)), ((9, 165), (0, 1, M_Md_isPerson)), ((9, 169), (0, 1, M_Md_isThing)), ((9, 172), (0, 1, M_Md_worthOf)), ((9, 175), (0, 1, M_Md_dueOf)), ((9, 180), (0, 0, M_Md_greatest)), ((9, 186), (0, 2, M_Md_doKnow)), ((9, 190), (0, 0, M_Md_keepAct)), ((9, 196), (0, 1, M_Md_layOrder)), ((9, 202), (0, 3, M_Md_mayDo)), ((9, 206), (0, 3, M_Md_costOf)), ((9, 211), (0, 2, M_Md_layLeast)), ((9, 220), (0, 2, M_Md_fits))]
abbrev xIvL_5 : List xIe := [((9, 223), (0, 3, M_Md_rowsBut)), ((9, 230), (1, 3, M_Md_part)), ((10, 9), (2, 0, M_Sp_init)), ((10, 12), (2, 0, M_Md_init)), ((10, 15), (0, 2, M_Sp_write)), ((10, 19), (0, 2, M_Md_write)), ((10, 20), (0, 0, M_Sp_wipe)), ((10, 24), (0, 0, M_Md_wipe)), ((10, 25), (0, 0, M_Sp_fault)), ((10, 28), (0, 0, M_Md_fault)), ((10, 29), (0, 0, M_Sp_village)), ((10, 32), (0, 0, M_Md_village)), ((10, 33), (0, 2, M_Sp_person)), ((10, 37), (0, 2, M_Md_person)), ((10, 38), (0, 2, M_Sp_thing)), ((10, 41), (0, 2, M_Md_thing)), ((10, 42), (0, 2, M_Sp_law)), ((10, 45), (0, 2, M_Md_law)), ((10, 46), (0, 2, M_Sp_lend)), ((10, 49), (0, 2, M_Md_lend)), ((10, 50), (0, 2, M_Sp_back)), ((10, 53), (0, 2, M_Md_back)), ((10, 54), (0, 0, M_Sp_day)), ((10, 57), (0, 0, M_Md_day)), ((10, 58), (0, 0, M_Sp_undo))]
abbrev xIvL_6 : List xIe := [((10, 61), (0, 0, M_Md_undo)), ((10, 62), (0, 1, M_Sp_least)), ((10, 66), (0, 1, M_Md_least)), ((10, 67), (0, 2, M_Sp_leastAt)), ((10, 70), (0, 2, M_Md_leastAt)), ((10, 71), (0, 1, M_Sp_cap)), ((10, 74), (0, 1, M_Md_cap)), ((10, 75), (0, 3, M_Sp_see)), ((10, 79), (0, 3, M_Md_see)), ((10, 80), (0, 0, M_Sp_unsee)), ((10, 83), (0, 0, M_Md_unsee)), ((10, 84), (0, 2, M_Sp_hands)), ((10, 87), (0, 2, M_Md_hands)), ((10, 88), (0, 2, M_Sp_surely)), ((10, 91), (0, 2, M_Md_surely)), ((10, 92), (0, 5, M_Sp_borrow)), ((10, 96), (0, 5, M_Md_borrow)), ((10, 97), (0, 1, M_Sp_seed)), ((10, 101), (0, 1, M_Md_seed)), ((10, 102), (0, 1, M_Sp_year)), ((10, 105), (0, 1, M_Md_year)), ((10, 106), (0, 1, M_Sp_keep)), ((10, 109), (0, 1, M_Md_keep)), ((10, 110), (0, 1, M_Sp_again)), ((10, 113), (0, 1, M_Md_again))]
abbrev xIvL_7 : List xIe := [((10, 114), (0, 1, M_Sp_count)), ((10, 117), (0, 1, M_Md_count))]
def xIvL : List xIe := xIvL_0 ++ (xIvL_1 ++ (xIvL_2 ++ (xIvL_3 ++ (xIvL_4 ++ (xIvL_5 ++ (xIvL_6 ++ (xIvL_7)))))))
def xIvP : List (List Nat) := [[202, 66, 67], [600, 585, 586, 49], [601, 470, 471, 49], [195, 66, 67], [200, 51], [564, 566, 12, 50], [596, 597, 598, 51], [352, 66, 67], [719, 415, 57, 416], [525, 47], [242, 66, 67], [757, 742, 741, 59], [267, 66, 67], [610, 612, 13, 53], [614, 616, 14, 53], [618, 620, 15, 53], [627, 629, 17, 53], [639, 641, 19, 53], [644, 646, 20, 53], [662, 664, 22, 53], [626, 557, 558, 49], [622, 624, 16, 53], [631, 633, 18, 53], [525, 47], [649, 651, 21, 53], [653, 415, 57, 416], [73, 66, 67], [414, 415, 57, 416], [417, 418, 419, 49], [421, 423, 0, 48], [429, 431, 2, 48], [425, 427, 1, 48], [433, 435, 3, 48], [449, 451, 6, 48], [457, 459, 7, 48], [461, 463, 8, 48], [473, 475, 9, 48], [437, 439, 4, 48], [453, 454, 455, 49], [441, 443, 5, 48], [445, 446, 447, 49], [465, 466, 467, 49], [477, 479, 10, 48], [481, 483, 11, 48], [485, 486, 487, 49], [325, 66, 67], [691, 446, 447, 49], [692, 694, 23, 54], [697, 699, 24, 54], [696, 506, 507, 49], [701, 557, 558, 49], [96, 66, 67], [469, 470, 471, 49], [531, 532, 533, 49], [535, 415, 57, 416], [525, 47], [544, 545, 57, 546], [65, 66, 67], [71, 48], [93, 94, 49], [192, 193, 50], [240, 52], [264, 265, 53], [323, 54], [350, 55], [410, 411, 412, 48], [493, 494, 495, 50], [497, 498, 499, 52], [505, 506, 507, 49], [509, 510, 47], [516, 517, 518, 49], [520, 521, 522, 49], [527, 528, 529, 49], [540, 541, 542, 49], [547, 548, 549, 49], [555, 532, 533, 49], [556, 557, 558, 49], [560, 561, 562, 50], [568, 569, 58], [578, 525, 47], [579, 470, 471, 49], [584, 585, 586, 49], [592, 593, 594, 50], [606, 607, 608, 53], [635, 636, 637, 53], [658, 659, 660, 53], [670, 545, 57, 546], [675, 676, 677, 54], [687, 688, 689, 54], [711, 712, 713, 55], [715, 716, 717, 55], [721, 722, 723, 55], [726, 727, 47], [729, 730, 57, 731], [740, 742, 741, 59], [745, 746, 747, 49], [753, 754, 755, 52], [762, 763, 764, 52], [766, 767, 768, 52], [774, 775, 776, 49], [778, 779, 780, 49], [787, 66, 67], [917, 918, 56], [946, 948, 29, 56], [958, 960, 32, 56], [933, 935, 26, 56], [938, 940, 27, 56], [942, 944, 28, 56], [950, 952, 30, 56], [954, 956, 31, 56], [929, 931, 25, 56], [989, 990, 56], [986, 987, 56], [970, 972, 33, 56], [978, 980, 34, 56], [982, 984, 35, 56], [992, 994, 36, 56], [1001, 1003, 37, 56], [1009, 1011, 38, 56], [1013, 1015, 39, 56], [1038, 1040, 41, 56], [1042, 1044, 42, 56], [1046, 1048, 43, 56], [1034, 1036, 40, 56], [1075, 1077, 45, 56], [1071, 1073, 44, 56], [1089, 1090, 56], [62, 63, 47], [784, 785, 56], [398, 399, 400, 47], [912, 913, 914, 56], [402, 403, 404, 47], [921, 922, 923, 56], [406, 407, 408, 47], [925, 926, 927, 56], [489, 490, 491, 47], [962, 963, 964, 56], [501, 502, 503, 47], [966, 967, 968, 56], [512, 513, 514, 47], [974, 975, 976, 56], [536, 537, 538, 47], [996, 997, 998, 56], [551, 552, 553, 47], [1005, 1006, 1007, 56], [574, 575, 576, 47], [1017, 1018, 1019, 56], [580, 581, 582, 47], [1021, 1022, 1023, 56], [588, 589, 590, 47], [1025, 1026, 1027, 56], [602, 603, 604, 47], [1029, 1030, 1031, 56], [654, 655, 656, 47], [1050, 1051, 1052, 56], [666, 667, 668, 47], [1054, 1055, 1056, 56], [671, 672, 673, 47], [1059, 1060, 1061, 56], [679, 680, 681, 47], [1063, 1064, 1065, 56], [683, 684, 685, 47], [1067, 1068, 1069, 56], [702, 703, 704, 47], [1079, 1080, 1081, 56], [706, 707, 708, 47], [1083, 1084, 1085, 56], [732, 733, 734, 47], [1092, 1093, 1094, 56], [736, 737, 738, 47], [1096, 1097, 1098, 56], [749, 750, 751, 47], [1103, 1104, 1105, 56], [758, 759, 760, 47], [1107, 1108, 1109, 56], [770, 771, 772, 47], [1111, 1112, 1113, 56]]
def xIv (o i : Nat) : Option (Nat × Nat × xM) := (xIvL.find? (fun e => e.1.1 == o && e.1.2 == i)).map (·.2)
def xNest : List Cond := [.methodLinkNest "SpoonfulMore$ActRow" 17 M_Act_init.1 "SpoonfulMore", .methodLinkNest "SpoonfulMore$Chances" 21 M_Sp_costOf.1 "SpoonfulMore", .methodLinkNest "SpoonfulMore$Planner" 123 M_Sp_costOf.1 "SpoonfulMore", .methodLinkNest "SpoonfulMore$Village" 75 M_Sp_costOf.1 "SpoonfulMore", .methodLinkNest "SpoonfulMore" 19 M_Reader_init.1 "SpoonfulMore", .methodLinkNest "SpoonfulMore" 43 M_Kept_init.1 "SpoonfulMore", .methodLinkNest "SpoonfulMore" 60 M_Sight_init.1 "SpoonfulMore", .methodLinkNest "SpoonfulMore" 67 M_Chances_init.1 "SpoonfulMore"]
def xNeed (e : xIe) : List Cond :=
  let y := e.2.2.2.1
  match e.2.1 with
  | 0 => [.methodLink (xcn e.1.1) e.1.2 y, .instanceMethod y, .selects y.cls y y, .initialized y.cls]
  | 1 => [.methodLink (xcn e.1.1) e.1.2 y, .static y, .initialized y.cls]
  | 2 => [.methodLink (xcn e.1.1) e.1.2 y, .instanceMethod y, .initialized y.cls]
  | 3 => [.static y, .initialized y.cls]
  | 4 => [.instanceMethod y, .initialized y.cls]
  | 5 => [.methodLink (xcn e.1.1) e.1.2 objectInit, .instanceMethod objectInit, .code objectInit ⟨#[0xb1]⟩ 1 none]
  | 6 => [.methodLink (xcn e.1.1) e.1.2 arraycopyName, .native arraycopyName, .static arraycopyName, .initialized "java/lang/System"]
  | 7 => [.methodLink (xcn e.1.1) e.1.2 Lib.Math.max.name, .static Lib.Math.max.name, .initialized "java/lang/Math", .code Lib.Math.max.name Lib.Math.max.code 2 (some .int)]
  | 8 => [.methodLink (xcn e.1.1) e.1.2 Lib.Math.min.name, .static Lib.Math.min.name, .initialized "java/lang/Math", .code Lib.Math.min.name Lib.Math.min.code 2 (some .int)]
  | _ => [.methodLink (xcn e.1.1) e.1.2 Lib.MathLoose.max_long.x, .static Lib.MathLoose.max_long.x, .initialized "java/lang/Math", .code Lib.MathLoose.max_long.x Lib.MathLoose.max_long.code 4 (some .long)]
def xCdOk (e : xIe) : Prop := e.2.1 < 5 → xCd e.2.2.2 ∈ xGood
theorem xCd_0 {e : xIe} (h : xCd e.2.2.2 ∈ xGood) : xCdOk e := fun _ => h
theorem xCd_1 {e : xIe} (h : 5 ≤ e.2.1) : xCdOk e := fun q => absurd q (by omega)
theorem xCdL_0 : ∀ e ∈ ([((0, 1), (5, 0, M_law)), ((0, 13), (0, 1, M_Village_passDays)), ((0, 22), (0, 1, M_Village_bringHome)), ((1, 3), (5, 0, M_law)), ((1, 17), (4, 0, M_Act_init)), ((1, 22), (0, 0, M_ActRow_forgetFirst)), ((1, 28), (0, 1, M_Act_undoIn)), ((2, 3), (5, 0, M_law)), ((2, 15), (8, 0, M_law)), ((2, 21), (3, 3, M_Sp_costOf)), ((3, 3), (5, 0, M_law)), ((3, 38), (6, 0, M_law)), ((4, 3), (5, 0, M_law)), ((4, 47), (0, 0, M_Planner_gatherThings)), ((4, 50), (0, 0, M_Planner_gatherNeeds)), ((4, 61), (0, 4, M_Planner_findSets)), ((4, 65), (0, 1, M_Planner_listSets)), ((4, 72), (0, 1, M_Planner_priceAt)), ((4, 75), (0, 2, M_Planner_costFrom)), ((4, 82), (0, 5, M_Planner_planDay)), ((4, 110), (0, 2, M_Village_know)), ((4, 114), (0, 2, M_Planner_lentFor)), ((4, 117), (0, 2, M_Planner_hasListedSetIn)), ((4, 123), (3, 3, M_Sp_costOf)), ((4, 128), (0, 2, M_Planner_costOfSet))] : List xIe), xCdOk e := List.forall_mem_cons.mpr ⟨xCd_1 (by decide), List.forall_mem_cons.mpr ⟨xCd_0 cd_Village_passDays, List.forall_mem_cons.mpr ⟨xCd_0 cd_Village_bringHome, List.forall_mem_cons.mpr ⟨xCd_1 (by decide), List.forall_mem_cons.mpr ⟨xCd_0 cd_Act_init, List.forall_mem_cons.mpr ⟨xCd_0 cd_ActRow_forgetFirst, List.forall_mem_cons.mpr ⟨xCd_0 cd_Act_undoIn, List.forall_mem_cons.mpr ⟨xCd_1 (by decide), List.forall_mem_cons.mpr ⟨xCd_1 (by decide), List.forall_mem_cons.mpr ⟨xCd_0 cd_Sp_costOf, List.forall_mem_cons.mpr ⟨xCd_1 (by decide), List.forall_mem_cons.mpr ⟨xCd_1 (by decide), List.forall_mem_cons.mpr ⟨xCd_1 (by decide), List.forall_mem_cons.mpr ⟨xCd_0 cd_Planner_gatherThings, List.forall_mem_cons.mpr ⟨xCd_0 cd_Planner_gatherNeeds, List.forall_mem_cons.mpr ⟨xCd_0 cd_Planner_findSets, List.forall_mem_cons.mpr ⟨xCd_0 cd_Planner_listSets, List.forall_mem_cons.mpr ⟨xCd_0 cd_Planner_priceAt, List.forall_mem_cons.mpr ⟨xCd_0 cd_Planner_costFrom, List.forall_mem_cons.mpr ⟨xCd_0 cd_Planner_planDay, List.forall_mem_cons.mpr ⟨xCd_0 cd_Village_know, List.forall_mem_cons.mpr ⟨xCd_0 cd_Planner_lentFor, List.forall_mem_cons.mpr ⟨xCd_0 cd_Planner_hasListedSetIn, List.forall_mem_cons.mpr ⟨xCd_0 cd_Sp_costOf, List.forall_mem_cons.mpr ⟨xCd_0 cd_Planner_costOfSet, fun _ h => absurd h List.not_mem_nil⟩⟩⟩⟩⟩⟩⟩⟩⟩⟩⟩⟩⟩⟩⟩⟩⟩⟩⟩⟩⟩⟩⟩⟩⟩
theorem xCdL_1 : ∀ e ∈ ([((4, 131), (8, 0, M_law)), ((5, 3), (5, 0, M_law)), ((5, 19), (8, 0, M_law)), ((5, 36), (0, 0, M_Village_empty)), ((5, 41), (0, 0, M_Reader_readHead)), ((5, 44), (0, 0, M_Reader_readPart)), ((5, 47), (0, 1, M_Reader_figureOf)), ((5, 57), (0, 1, M_Reader_mayBegin)), ((5, 61), (0, 0, M_Reader_readPerson)), ((5, 64), (0, 0, M_Reader_readKnowing)), ((5, 67), (0, 0, M_Reader_readThing)), ((5, 70), (0, 0, M_Reader_readNeed)), ((5, 76), (0, 0, M_Reader_whoCanKnowMore)), ((5, 86), (0, 1, M_Village_addPerson)), ((5, 90), (0, 1, M_Reader_strangersOf)), ((5, 96), (0, 0, M_Village_everybody)), ((5, 99), (0, 3, M_Village_addThing)), ((5, 103), (0, 1, M_Reader_sortsWithFreeDays)), ((5, 106), (0, 2, M_Reader_freeDays)), ((5, 109), (0, 3, M_Village_addNeed)), ((6, 3), (5, 0, M_law)), ((6, 32), (0, 0, M_Village_everybody)), ((6, 44), (0, 2, M_Sight_fitting)), ((6, 51), (0, 2, M_Sight_goOn)), ((6, 55), (0, 1, M_Village_hasPerson))] : List xIe), xCdOk e := List.forall_mem_cons.mpr ⟨xCd_1 (by decide), List.forall_mem_cons.mpr ⟨xCd_1 (by decide), List.forall_mem_cons.mpr ⟨xCd_1 (by decide), List.forall_mem_cons.mpr ⟨xCd_0 cd_Village_empty, List.forall_mem_cons.mpr ⟨xCd_0 cd_Reader_readHead, List.forall_mem_cons.mpr ⟨xCd_0 cd_Reader_readPart, List.forall_mem_cons.mpr ⟨xCd_0 cd_Reader_figureOf, List.forall_mem_cons.mpr ⟨xCd_0 cd_Reader_mayBegin, List.forall_mem_cons.mpr ⟨xCd_0 cd_Reader_readPerson, List.forall_mem_cons.mpr ⟨xCd_0 cd_Reader_readKnowing, List.forall_mem_cons.mpr ⟨xCd_0 cd_Reader_readThing, List.forall_mem_cons.mpr ⟨xCd_0 cd_Reader_readNeed, List.forall_mem_cons.mpr ⟨xCd_0 cd_Reader_whoCanKnowMore, List.forall_mem_cons.mpr ⟨xCd_0 cd_Village_addPerson, List.forall_mem_cons.mpr ⟨xCd_0 cd_Reader_strangersOf, List.forall_mem_cons.mpr ⟨xCd_0 cd_Village_everybody, List.forall_mem_cons.mpr ⟨xCd_0 cd_Village_addThing, List.forall_mem_cons.mpr ⟨xCd_0 cd_Reader_sortsWithFreeDays, List.forall_mem_cons.mpr ⟨xCd_0 cd_Reader_freeDays, List.forall_mem_cons.mpr ⟨xCd_0 cd_Village_addNeed, List.forall_mem_cons.mpr ⟨xCd_1 (by decide), List.forall_mem_cons.mpr ⟨xCd_0 cd_Village_everybody, List.forall_mem_cons.mpr ⟨xCd_0 cd_Sight_fitting, List.forall_mem_cons.mpr ⟨xCd_0 cd_Sight_goOn, List.forall_mem_cons.mpr ⟨xCd_0 cd_Village_hasPerson, fun _ h => absurd h List.not_mem_nil⟩⟩⟩⟩⟩⟩⟩⟩⟩⟩⟩⟩⟩⟩⟩⟩⟩⟩⟩⟩⟩⟩⟩⟩⟩
theorem xCdL_2 : ∀ e ∈ ([((6, 59), (0, 2, M_Village_know)), ((7, 3), (5, 0, M_law)), ((7, 61), (0, 1, M_Village_bringHome)), ((7, 65), (0, 1, M_Village_isOut)), ((7, 69), (8, 0, M_law)), ((7, 75), (3, 3, M_Sp_costOf)), ((7, 79), (7, 0, M_law)), ((8, 1), (5, 0, M_law)), ((8, 19), (4, 0, M_Reader_init)), ((8, 26), (2, 0, M_Village_init)), ((8, 36), (2, 0, M_ActRow_init)), ((8, 43), (4, 0, M_Kept_init)), ((8, 50), (2, 0, M_Planner_init)), ((8, 60), (4, 0, M_Sight_init)), ((8, 67), (4, 0, M_Chances_init)), ((8, 79), (0, 3, M_Reader_readInto)), ((8, 83), (0, 0, M_ActRow_clear)), ((8, 86), (0, 0, M_Kept_drop)), ((8, 95), (0, 1, M_Village_hasPerson)), ((8, 108), (1, 3, M_Sp_bitsOf)), ((8, 115), (0, 1, M_Village_hasThing)), ((8, 124), (0, 1, M_Village_worth)), ((8, 128), (0, 1, M_Village_due)), ((8, 134), (0, 0, M_Village_greatestGrade)), ((8, 138), (0, 0, M_Village_lawAndCap))] : List xIe), xCdOk e := List.forall_mem_cons.mpr ⟨xCd_0 cd_Village_know, List.forall_mem_cons.mpr ⟨xCd_1 (by decide), List.forall_mem_cons.mpr ⟨xCd_0 cd_Village_bringHome, List.forall_mem_cons.mpr ⟨xCd_0 cd_Village_isOut, List.forall_mem_cons.mpr ⟨xCd_1 (by decide), List.forall_mem_cons.mpr ⟨xCd_0 cd_Sp_costOf, List.forall_mem_cons.mpr ⟨xCd_1 (by decide), List.forall_mem_cons.mpr ⟨xCd_1 (by decide), List.forall_mem_cons.mpr ⟨xCd_0 cd_Reader_init, List.forall_mem_cons.mpr ⟨xCd_0 cd_Village_init, List.forall_mem_cons.mpr ⟨xCd_0 cd_ActRow_init, List.forall_mem_cons.mpr ⟨xCd_0 cd_Kept_init, List.forall_mem_cons.mpr ⟨xCd_0 cd_Planner_init, List.forall_mem_cons.mpr ⟨xCd_0 cd_Sight_init, List.forall_mem_cons.mpr ⟨xCd_0 cd_Chances_init, List.forall_mem_cons.mpr ⟨xCd_0 cd_Reader_readInto, List.forall_mem_cons.mpr ⟨xCd_0 cd_ActRow_clear, List.forall_mem_cons.mpr ⟨xCd_0 cd_Kept_drop, List.forall_mem_cons.mpr ⟨xCd_0 cd_Village_hasPerson, List.forall_mem_cons.mpr ⟨xCd_0 cd_Sp_bitsOf, List.forall_mem_cons.mpr ⟨xCd_0 cd_Village_hasThing, List.forall_mem_cons.mpr ⟨xCd_0 cd_Village_worth, List.forall_mem_cons.mpr ⟨xCd_0 cd_Village_due, List.forall_mem_cons.mpr ⟨xCd_0 cd_Village_greatestGrade, List.forall_mem_cons.mpr ⟨xCd_0 cd_Village_lawAndCap, fun _ h => absurd h List.not_mem_nil⟩⟩⟩⟩⟩⟩⟩⟩⟩⟩⟩⟩⟩⟩⟩⟩⟩⟩⟩⟩⟩⟩⟩⟩⟩
theorem xCdL_3 : ∀ e ∈ ([((8, 147), (0, 1, M_Village_isOut)), ((8, 150), (0, 2, M_Village_know)), ((8, 156), (0, 1, M_ActRow_next)), ((8, 163), (1, 1, M_Int_bitCount)), ((8, 168), (1, 3, M_Sp_costOf)), ((8, 182), (0, 1, M_Village_bringHome)), ((8, 186), (0, 1, M_Village_passDays)), ((8, 195), (0, 1, M_ActRow_undoLast)), ((8, 199), (0, 2, M_Planner_gather)), ((8, 203), (0, 1, M_Planner_leastCost)), ((8, 206), (0, 2, M_Planner_firstPlanAt)), ((8, 210), (7, 0, M_law)), ((8, 216), (0, 3, M_Sight_add)), ((8, 220), (0, 4, M_Sight_rowsWithout)), ((8, 226), (0, 2, M_Chances_spread)), ((8, 230), (0, 3, M_Chances_costInAll)), ((8, 234), (0, 1, M_Chances_waysInAll)), ((8, 238), (1, 2, M_Sp_greatestDivisor)), ((8, 242), (9, 0, M_law)), ((8, 244), (6, 0, M_law)), ((8, 254), (0, 1, M_Village_worthOfAll)), ((8, 258), (0, 1, M_Kept_take)), ((8, 261), (0, 1, M_Kept_fits)), ((8, 265), (0, 1, M_Kept_giveTo)), ((8, 271), (0, 0, M_Village_coinsOfAll))] : List xIe), xCdOk e := List.forall_mem_cons.mpr ⟨xCd_0 cd_Village_isOut, List.forall_mem_cons.mpr ⟨xCd_0 cd_Village_know, List.forall_mem_cons.mpr ⟨xCd_0 cd_ActRow_next, List.forall_mem_cons.mpr ⟨xCd_0 cd_Int_bitCount, List.forall_mem_cons.mpr ⟨xCd_0 cd_Sp_costOf, List.forall_mem_cons.mpr ⟨xCd_0 cd_Village_bringHome, List.forall_mem_cons.mpr ⟨xCd_0 cd_Village_passDays, List.forall_mem_cons.mpr ⟨xCd_0 cd_ActRow_undoLast, List.forall_mem_cons.mpr ⟨xCd_0 cd_Planner_gather, List.forall_mem_cons.mpr ⟨xCd_0 cd_Planner_leastCost, List.forall_mem_cons.mpr ⟨xCd_0 cd_Planner_firstPlanAt, List.forall_mem_cons.mpr ⟨xCd_1 (by decide), List.forall_mem_cons.mpr ⟨xCd_0 cd_Sight_add, List.forall_mem_cons.mpr ⟨xCd_0 cd_Sight_rowsWithout, List.forall_mem_cons.mpr ⟨xCd_0 cd_Chances_spread, List.forall_mem_cons.mpr ⟨xCd_0 cd_Chances_costInAll, List.forall_mem_cons.mpr ⟨xCd_0 cd_Chances_waysInAll, List.forall_mem_cons.mpr ⟨xCd_0 cd_Sp_greatestDivisor, List.forall_mem_cons.mpr ⟨xCd_1 (by decide), List.forall_mem_cons.mpr ⟨xCd_1 (by decide), List.forall_mem_cons.mpr ⟨xCd_0 cd_Village_worthOfAll, List.forall_mem_cons.mpr ⟨xCd_0 cd_Kept_take, List.forall_mem_cons.mpr ⟨xCd_0 cd_Kept_fits, List.forall_mem_cons.mpr ⟨xCd_0 cd_Kept_giveTo, List.forall_mem_cons.mpr ⟨xCd_0 cd_Village_coinsOfAll, fun _ h => absurd h List.not_mem_nil⟩⟩⟩⟩⟩⟩⟩⟩⟩⟩⟩⟩⟩⟩⟩⟩⟩⟩⟩⟩⟩⟩⟩⟩⟩
theorem xCdL_4 : ∀ e ∈ ([((8, 274), (0, 0, M_Village_thingsOut)), ((9, 1), (5, 0, M_law)), ((9, 83), (1, 3, M_Md_in)), ((9, 103), (0, 1, M_Md_strangers)), ((9, 110), (0, 2, M_Md_freeDays)), ((9, 117), (0, 1, M_Md_figure)), ((9, 126), (0, 1, M_Md_readPart)), ((9, 130), (0, 0, M_Md_lonely)), ((9, 134), (0, 0, M_Md_readNeed)), ((9, 137), (0, 1, M_Md_freeSorts)), ((9, 140), (0, 0, M_Md_readText)), ((9, 158), (1, 2, M_Md_price)), ((9, 161), (1, 3, M_Md_prices)), ((9, 165), (0, 1, M_Md_isPerson)), ((9, 169), (0, 1, M_Md_isThing)), ((9, 172), (0, 1, M_Md_worthOf)), ((9, 175), (0, 1, M_Md_dueOf)), ((9, 180), (0, 0, M_Md_greatest)), ((9, 186), (0, 2, M_Md_doKnow)), ((9, 190), (0, 0, M_Md_keepAct)), ((9, 196), (0, 1, M_Md_layOrder)), ((9, 202), (0, 3, M_Md_mayDo)), ((9, 206), (0, 3, M_Md_costOf)), ((9, 211), (0, 2, M_Md_layLeast)), ((9, 220), (0, 2, M_Md_fits))] : List xIe), xCdOk e := List.forall_mem_cons.mpr ⟨xCd_0 cd_Village_thingsOut, List.forall_mem_cons.mpr ⟨xCd_1 (by decide), List.forall_mem_cons.mpr ⟨xCd_0 cd_Md_in, List.forall_mem_cons.mpr ⟨xCd_0 cd_Md_strangers, List.forall_mem_cons.mpr ⟨xCd_0 cd_Md_freeDays, List.forall_mem_cons.mpr ⟨xCd_0 cd_Md_figure, List.forall_mem_cons.mpr ⟨xCd_0 cd_Md_readPart, List.forall_mem_cons.mpr ⟨xCd_0 cd_Md_lonely, List.forall_mem_cons.mpr ⟨xCd_0 cd_Md_readNeed, List.forall_mem_cons.mpr ⟨xCd_0 cd_Md_freeSorts, List.forall_mem_cons.mpr ⟨xCd_0 cd_Md_readText, List.forall_mem_cons.mpr ⟨xCd_0 cd_Md_price, List.forall_mem_cons.mpr ⟨xCd_0 cd_Md_prices, List.forall_mem_cons.mpr ⟨xCd_0 cd_Md_isPerson, List.forall_mem_cons.mpr ⟨xCd_0 cd_Md_isThing, List.forall_mem_cons.mpr ⟨xCd_0 cd_Md_worthOf, List.forall_mem_cons.mpr ⟨xCd_0 cd_Md_dueOf, List.forall_mem_cons.mpr ⟨xCd_0 cd_Md_greatest, List.forall_mem_cons.mpr ⟨xCd_0 cd_Md_doKnow, List.forall_mem_cons.mpr ⟨xCd_0 cd_Md_keepAct, List.forall_mem_cons.mpr ⟨xCd_0 cd_Md_layOrder, List.forall_mem_cons.mpr ⟨xCd_0 cd_Md_mayDo, List.forall_mem_cons.mpr ⟨xCd_0 cd_Md_costOf, List.forall_mem_cons.mpr ⟨xCd_0 cd_Md_layLeast, List.forall_mem_cons.mpr ⟨xCd_0 cd_Md_fits, fun _ h => absurd h List.not_mem_nil⟩⟩⟩⟩⟩⟩⟩⟩⟩⟩⟩⟩⟩⟩⟩⟩⟩⟩⟩⟩⟩⟩⟩⟩⟩
theorem xCdL_5 : ∀ e ∈ ([((9, 223), (0, 3, M_Md_rowsBut)), ((9, 230), (1, 3, M_Md_part)), ((10, 9), (2, 0, M_Sp_init)), ((10, 12), (2, 0, M_Md_init)), ((10, 15), (0, 2, M_Sp_write)), ((10, 19), (0, 2, M_Md_write)), ((10, 20), (0, 0, M_Sp_wipe)), ((10, 24), (0, 0, M_Md_wipe)), ((10, 25), (0, 0, M_Sp_fault)), ((10, 28), (0, 0, M_Md_fault)), ((10, 29), (0, 0, M_Sp_village)), ((10, 32), (0, 0, M_Md_village)), ((10, 33), (0, 2, M_Sp_person)), ((10, 37), (0, 2, M_Md_person)), ((10, 38), (0, 2, M_Sp_thing)), ((10, 41), (0, 2, M_Md_thing)), ((10, 42), (0, 2, M_Sp_law)), ((10, 45), (0, 2, M_Md_law)), ((10, 46), (0, 2, M_Sp_lend)), ((10, 49), (0, 2, M_Md_lend)), ((10, 50), (0, 2, M_Sp_back)), ((10, 53), (0, 2, M_Md_back)), ((10, 54), (0, 0, M_Sp_day)), ((10, 57), (0, 0, M_Md_day)), ((10, 58), (0, 0, M_Sp_undo))] : List xIe), xCdOk e := List.forall_mem_cons.mpr ⟨xCd_0 cd_Md_rowsBut, List.forall_mem_cons.mpr ⟨xCd_0 cd_Md_part, List.forall_mem_cons.mpr ⟨xCd_0 cd_Sp_init, List.forall_mem_cons.mpr ⟨xCd_0 cd_Md_init, List.forall_mem_cons.mpr ⟨xCd_0 cd_Sp_write, List.forall_mem_cons.mpr ⟨xCd_0 cd_Md_write, List.forall_mem_cons.mpr ⟨xCd_0 cd_Sp_wipe, List.forall_mem_cons.mpr ⟨xCd_0 cd_Md_wipe, List.forall_mem_cons.mpr ⟨xCd_0 cd_Sp_fault, List.forall_mem_cons.mpr ⟨xCd_0 cd_Md_fault, List.forall_mem_cons.mpr ⟨xCd_0 cd_Sp_village, List.forall_mem_cons.mpr ⟨xCd_0 cd_Md_village, List.forall_mem_cons.mpr ⟨xCd_0 cd_Sp_person, List.forall_mem_cons.mpr ⟨xCd_0 cd_Md_person, List.forall_mem_cons.mpr ⟨xCd_0 cd_Sp_thing, List.forall_mem_cons.mpr ⟨xCd_0 cd_Md_thing, List.forall_mem_cons.mpr ⟨xCd_0 cd_Sp_law, List.forall_mem_cons.mpr ⟨xCd_0 cd_Md_law, List.forall_mem_cons.mpr ⟨xCd_0 cd_Sp_lend, List.forall_mem_cons.mpr ⟨xCd_0 cd_Md_lend, List.forall_mem_cons.mpr ⟨xCd_0 cd_Sp_back, List.forall_mem_cons.mpr ⟨xCd_0 cd_Md_back, List.forall_mem_cons.mpr ⟨xCd_0 cd_Sp_day, List.forall_mem_cons.mpr ⟨xCd_0 cd_Md_day, List.forall_mem_cons.mpr ⟨xCd_0 cd_Sp_undo, fun _ h => absurd h List.not_mem_nil⟩⟩⟩⟩⟩⟩⟩⟩⟩⟩⟩⟩⟩⟩⟩⟩⟩⟩⟩⟩⟩⟩⟩⟩⟩
theorem xCdL_6 : ∀ e ∈ ([((10, 61), (0, 0, M_Md_undo)), ((10, 62), (0, 1, M_Sp_least)), ((10, 66), (0, 1, M_Md_least)), ((10, 67), (0, 2, M_Sp_leastAt)), ((10, 70), (0, 2, M_Md_leastAt)), ((10, 71), (0, 1, M_Sp_cap)), ((10, 74), (0, 1, M_Md_cap)), ((10, 75), (0, 3, M_Sp_see)), ((10, 79), (0, 3, M_Md_see)), ((10, 80), (0, 0, M_Sp_unsee)), ((10, 83), (0, 0, M_Md_unsee)), ((10, 84), (0, 2, M_Sp_hands)), ((10, 87), (0, 2, M_Md_hands)), ((10, 88), (0, 2, M_Sp_surely)), ((10, 91), (0, 2, M_Md_surely)), ((10, 92), (0, 5, M_Sp_borrow)), ((10, 96), (0, 5, M_Md_borrow)), ((10, 97), (0, 1, M_Sp_seed)), ((10, 101), (0, 1, M_Md_seed)), ((10, 102), (0, 1, M_Sp_year)), ((10, 105), (0, 1, M_Md_year)), ((10, 106), (0, 1, M_Sp_keep)), ((10, 109), (0, 1, M_Md_keep)), ((10, 110), (0, 1, M_Sp_again)), ((10, 113), (0, 1, M_Md_again))] : List xIe), xCdOk e := List.forall_mem_cons.mpr ⟨xCd_0 cd_Md_undo, List.forall_mem_cons.mpr ⟨xCd_0 cd_Sp_least, List.forall_mem_cons.mpr ⟨xCd_0 cd_Md_least, List.forall_mem_cons.mpr ⟨xCd_0 cd_Sp_leastAt, List.forall_mem_cons.mpr ⟨xCd_0 cd_Md_leastAt, List.forall_mem_cons.mpr ⟨xCd_0 cd_Sp_cap, List.forall_mem_cons.mpr ⟨xCd_0 cd_Md_cap, List.forall_mem_cons.mpr ⟨xCd_0 cd_Sp_see, List.forall_mem_cons.mpr ⟨xCd_0 cd_Md_see, List.forall_mem_cons.mpr ⟨xCd_0 cd_Sp_unsee, List.forall_mem_cons.mpr ⟨xCd_0 cd_Md_unsee, List.forall_mem_cons.mpr ⟨xCd_0 cd_Sp_hands, List.forall_mem_cons.mpr ⟨xCd_0 cd_Md_hands, List.forall_mem_cons.mpr ⟨xCd_0 cd_Sp_surely, List.forall_mem_cons.mpr ⟨xCd_0 cd_Md_surely, List.forall_mem_cons.mpr ⟨xCd_0 cd_Sp_borrow, List.forall_mem_cons.mpr ⟨xCd_0 cd_Md_borrow, List.forall_mem_cons.mpr ⟨xCd_0 cd_Sp_seed, List.forall_mem_cons.mpr ⟨xCd_0 cd_Md_seed, List.forall_mem_cons.mpr ⟨xCd_0 cd_Sp_year, List.forall_mem_cons.mpr ⟨xCd_0 cd_Md_year, List.forall_mem_cons.mpr ⟨xCd_0 cd_Sp_keep, List.forall_mem_cons.mpr ⟨xCd_0 cd_Md_keep, List.forall_mem_cons.mpr ⟨xCd_0 cd_Sp_again, List.forall_mem_cons.mpr ⟨xCd_0 cd_Md_again, fun _ h => absurd h List.not_mem_nil⟩⟩⟩⟩⟩⟩⟩⟩⟩⟩⟩⟩⟩⟩⟩⟩⟩⟩⟩⟩⟩⟩⟩⟩⟩
theorem xCdL_7 : ∀ e ∈ ([((10, 114), (0, 1, M_Sp_count)), ((10, 117), (0, 1, M_Md_count))] : List xIe), xCdOk e := List.forall_mem_cons.mpr ⟨xCd_0 cd_Sp_count, List.forall_mem_cons.mpr ⟨xCd_0 cd_Md_count, fun _ h => absurd h List.not_mem_nil⟩⟩
theorem xCdL_all : ∀ e ∈ xIvL, xCdOk e := by
  show ∀ e ∈ xIvL_0 ++ (xIvL_1 ++ (xIvL_2 ++ (xIvL_3 ++ (xIvL_4 ++ (xIvL_5 ++ (xIvL_6 ++ (xIvL_7))))))), xCdOk e
  exact List.forall_mem_append.mpr ⟨xCdL_0, List.forall_mem_append.mpr ⟨xCdL_1, List.forall_mem_append.mpr ⟨xCdL_2, List.forall_mem_append.mpr ⟨xCdL_3, List.forall_mem_append.mpr ⟨xCdL_4, List.forall_mem_append.mpr ⟨xCdL_5, List.forall_mem_append.mpr ⟨xCdL_6, xCdL_7⟩⟩⟩⟩⟩⟩⟩
def xAtB (w : Cond) (p : Nat) : Bool := decide (lw_tbl[p]? = some w) && goodWord w
def xAllB : List Cond → List Nat → Bool
  | [], _ => true
  | w :: ws, p :: ps => xAtB w p && xAllB ws ps
  | _ :: _, [] => false
def xIvB : List xIe → List (List Nat) → Bool
  | [], _ => true
  | e :: es, ps :: r => xAllB (xNeed e) ps && xIvB es r
  | _ :: _, [] => false
set_option maxRecDepth 100000 in
theorem xIv_tab : xIvB xIvL xIvP = true := by decide +kernel
theorem xAll_mem : ∀ (ws : List Cond) (ps : List Nat), xAllB ws ps = true → ∀ w ∈ ws, w ∈ xGood
  | [], _, _, w, h => by cases h
  | w0 :: ws, p :: ps, hb, w, h => by
    simp only [xAllB, Bool.and_eq_true, xAtB, decide_eq_true_eq] at hb
    rcases List.mem_cons.mp h with rfl | h
    · exact xGood_at p hb.1.1 hb.1.2
    · exact xAll_mem ws ps hb.2 w h
  | _ :: _, [], hb, w, h => by simp [xAllB] at hb
theorem xIvB_mem : ∀ (es : List xIe) (ps : List (List Nat)), xIvB es ps = true → ∀ e ∈ es, ∀ w ∈ xNeed e, w ∈ xGood
  | [], _, _, e, h => by cases h
  | e0 :: es, p :: ps, hb, e, h => by
    simp only [xIvB, Bool.and_eq_true] at hb
    rcases List.mem_cons.mp h with rfl | h
    · exact xAll_mem _ p hb.1
    · exact xIvB_mem es ps hb.2 e h
  | _ :: _, [], hb, e, h => by simp [xIvB] at hb
theorem xIv_need {o i : Nat} {z : Nat × Nat × xM} (h : xIv o i = some z) : ((o, i), z) ∈ xIvL ∧ ∀ w ∈ xNeed ((o, i), z), w ∈ xGood := by
  unfold xIv at h
  cases hf : xIvL.find? (fun e => e.1.1 == o && e.1.2 == i) with
  | none => rw [hf] at h; cases h
  | some e =>
    rw [hf] at h
    have hm := List.mem_of_find?_eq_some hf
    have hp := List.find?_some hf
    simp only [Bool.and_eq_true, beq_iff_eq] at hp
    obtain ⟨⟨o', i'⟩, z'⟩ := e
    obtain ⟨rfl, rfl⟩ := hp
    cases h
    exact ⟨hm, xIvB_mem _ _ xIv_tab _ hm⟩
def xMokB (n : Nat) (M : xM) : Bool := decide (xcn (xmo M) = M.1.cls) && plainName M.1.cls && decide (M.1.cls ≠ "java/lang/invoke/MethodHandle") && decide (M.1.cls ≠ "java/lang/invoke/VarHandle") && decide (xmL M ≤ 20) && decide ((parseMethodDescriptor M.1.desc).map (fun d => d.parameters.length) = some n)
def xKB (e : xIe) : Bool := match e.2.1 with
  | 0 => xMokB e.2.2.1 e.2.2.2
  | 1 => xMokB e.2.2.1 e.2.2.2
  | 2 => xMokB e.2.2.1 e.2.2.2 && decide (e.2.2.2.1.name = "<init>") && decide (xmr e.2.2.2 = none)
  | 3 => xMokB e.2.2.1 e.2.2.2 && decide (Cond.methodLinkNest (xcn e.1.1) e.1.2 e.2.2.2.1 "SpoonfulMore" ∈ xNest)
  | 4 => xMokB e.2.2.1 e.2.2.2 && decide (Cond.methodLinkNest (xcn e.1.1) e.1.2 e.2.2.2.1 "SpoonfulMore" ∈ xNest) && decide (e.2.2.2.1.name = "<init>") && decide (xmr e.2.2.2 = none)
  | _ => true
set_option maxRecDepth 100000 in
theorem xKB_all : xIvL.all xKB = true := by decide +kernel
def xFdL : List ((Nat × Nat) × (Nat × Nat)) := [((0, 7), (0, 0)), ((0, 19), (0, 1)), ((0, 25), (7, 6)), ((0, 29), (0, 2)), ((0, 32), (0, 5)), ((0, 35), (7, 10)), ((0, 38), (0, 4)), ((0, 41), (7, 11)), ((0, 43), (7, 12)), ((0, 46), (0, 3)), ((1, 11), (1, 0)), ((1, 18), (1, 1)), ((1, 25), (0, 0)), ((2, 9), (2, 0)), ((3, 9), (3, 2)), ((3, 15), (3, 3)), ((3, 18), (3, 4)), ((3, 21), (3, 5)), ((3, 24), (3, 0)), ((3, 28), (7, 2)), ((3, 34), (3, 1)), ((3, 37), (7, 6)), ((3, 44), (7, 10)), ((3, 45), (7, 11)), ((3, 46), (7, 12)), ((3, 47), (7, 4)), ((3, 50), (7, 1)), ((4, 9), (4, 3)), ((4, 15), (4, 5)), ((4, 18), (4, 6)), ((4, 21), (4, 9)), ((4, 24), (4, 10)), ((4, 27), (4, 11)), ((4, 30), (4, 12)), ((4, 33), (4, 13)), ((4, 36), (4, 14)), ((4, 39), (4, 0)), ((4, 43), (4, 1)), ((4, 53), (4, 7)), ((4, 57), (4, 8)), ((4, 69), (4, 4)), ((4, 79), (4, 16)), ((4, 86), (4, 15)), ((4, 89), (4, 2)), ((4, 92), (7, 4)), ((4, 97), (7, 9)), ((4, 99), (7, 5)), ((4, 100), (7, 14)), ((4, 103), (7, 15)), ((4, 106), (7, 13)), ((4, 107), (7, 8)), ((4, 120), (7, 10)), ((5, 9), (5, 0)), ((5, 15), (5, 1)), ((5, 25), (5, 2)), ((5, 29), (5, 3)), ((5, 32), (5, 4)), ((5, 51), (7, 0)), ((5, 54), (7, 1)), ((5, 73), (7, 3)), ((5, 80), (7, 4)), ((5, 83), (7, 5)), ((5, 93), (7, 7)), ((5, 112), (7, 13)), ((5, 115), (7, 14)), ((5, 118), (7, 15)), ((6, 9), (6, 1)), ((6, 15), (6, 2)), ((6, 18), (6, 3)), ((6, 22), (6, 4)), ((6, 25), (6, 5)), ((6, 28), (6, 0)), ((6, 38), (7, 7)), ((6, 41), (7, 8)), ((6, 48), (7, 3)), ((7, 9), (7, 6)), ((7, 15), (7, 7)), ((7, 18), (7, 8)), ((7, 21), (7, 9)), ((7, 24), (7, 10)), ((7, 27), (7, 11)), ((7, 30), (7, 12)), ((7, 33), (7, 13)), ((7, 36), (7, 14)), ((7, 39), (7, 15)), ((7, 42), (7, 0)), ((7, 46), (7, 1)), ((7, 49), (7, 2)), ((7, 52), (7, 3)), ((7, 55), (7, 4)), ((7, 58), (7, 5)), ((8, 9), (8, 0)), ((8, 13), (8, 1)), ((8, 20), (8, 2)), ((8, 27), (8, 3)), ((8, 31), (8, 4)), ((8, 37), (8, 5)), ((8, 44), (8, 6)), ((8, 51), (8, 7)), ((8, 55), (8, 8)), ((8, 61), (8, 9)), ((8, 68), (8, 10)), ((8, 72), (8, 11)), ((8, 75), (8, 12)), ((8, 89), (7, 3)), ((8, 92), (7, 4)), ((8, 99), (7, 6)), ((8, 102), (7, 7)), ((8, 105), (7, 8)), ((8, 112), (7, 11)), ((8, 118), (7, 9)), ((8, 121), (7, 10)), ((8, 131), (7, 12)), ((8, 141), (7, 0)), ((8, 144), (7, 1)), ((8, 160), (0, 1)), ((8, 172), (0, 2)), ((8, 174), (0, 3)), ((8, 176), (0, 4)), ((8, 179), (0, 5)), ((8, 189), (7, 2)), ((8, 192), (1, 1)), ((8, 215), (6, 0)), ((8, 268), (7, 5)), ((9, 7), (9, 0)), ((9, 13), (9, 1)), ((9, 16), (9, 2)), ((9, 19), (9, 3)), ((9, 22), (9, 9)), ((9, 25), (9, 10)), ((9, 28), (9, 11)), ((9, 31), (9, 12)), ((9, 34), (9, 18)), ((9, 37), (9, 19)), ((9, 40), (9, 25)), ((9, 43), (9, 26)), ((9, 46), (9, 28)), ((9, 49), (9, 29)), ((9, 52), (9, 30)), ((9, 55), (9, 33)), ((9, 58), (9, 34)), ((9, 61), (9, 35)), ((9, 65), (9, 36)), ((9, 68), (9, 37)), ((9, 71), (9, 39)), ((9, 74), (9, 40)), ((9, 77), (9, 17)), ((9, 87), (9, 20)), ((9, 92), (9, 22)), ((9, 95), (9, 21)), ((9, 100), (9, 4)), ((9, 107), (9, 6)), ((9, 114), (9, 5)), ((9, 120), (9, 7)), ((9, 123), (9, 8)), ((9, 143), (9, 13)), ((9, 146), (9, 14)), ((9, 149), (9, 15)), ((9, 152), (9, 16)), ((9, 155), (9, 23)), ((9, 183), (9, 24)), ((9, 193), (9, 27)), ((9, 199), (9, 31)), ((9, 217), (9, 32)), ((9, 234), (9, 38))]
def xFdP : List Nat := [203, 205, 121, 207, 213, 136, 211, 141, 145, 209, 228, 229, 204, 353, 245, 246, 247, 248, 243, 105, 244, 122, 137, 142, 146, 112, 102, 271, 273, 274, 277, 278, 279, 280, 281, 282, 268, 269, 275, 276, 272, 284, 283, 270, 113, 133, 118, 152, 155, 149, 131, 139, 74, 75, 76, 77, 78, 98, 101, 109, 115, 117, 127, 150, 153, 156, 328, 329, 330, 331, 332, 326, 125, 129, 108, 120, 124, 128, 132, 135, 140, 144, 148, 151, 154, 97, 100, 104, 107, 111, 116, 358, 359, 360, 361, 362, 363, 364, 365, 366, 367, 368, 369, 370, 110, 114, 123, 126, 130, 143, 134, 138, 147, 99, 103, 206, 208, 210, 212, 214, 106, 230, 327, 119, 788, 789, 790, 791, 797, 798, 799, 800, 806, 807, 813, 814, 816, 817, 818, 821, 822, 823, 824, 825, 827, 828, 805, 808, 810, 809, 792, 794, 793, 795, 796, 801, 802, 803, 804, 811, 812, 815, 819, 820, 826]
def xFd (o i : Nat) : Option (Nat × Nat) := (xFdL.find? (fun e => e.1.1 == o && e.1.2 == i)).map (·.2)
def xCT (ci : Nat) : vw_C := (xCl[ci]?).getD ("", TX0, 0)
def xFw (e : (Nat × Nat) × (Nat × Nat)) : Cond := .fieldLink (xcn e.1.1) e.1.2 ((xCT e.2.1).2.1 e.2.2).1 ((xCT e.2.1).2.1 e.2.2).2.1 ((xCT e.2.1).2.1 e.2.2).2.2.1
def xFdB : List ((Nat × Nat) × (Nat × Nat)) → List Nat → Bool
  | [], _ => true
  | e :: es, p :: r => xAtB (xFw e) p && decide (e.2.1 < 10) && decide (e.2.2 < (xCT e.2.1).2.2) && xFdB es r
  | _ :: _, [] => false
set_option maxRecDepth 100000 in
theorem xFd_tab : xFdB xFdL xFdP = true := by decide +kernel
theorem xFdB_mem : ∀ (es : List ((Nat × Nat) × (Nat × Nat))) (ps : List Nat), xFdB es ps = true → ∀ e ∈ es, xFw e ∈ xGood ∧ e.2.1 < 10 ∧ e.2.2 < (xCT e.2.1).2.2
  | [], _, _, e, h => by cases h
  | e0 :: es, p :: ps, hb, e, h => by
    simp only [xFdB, Bool.and_eq_true, xAtB, decide_eq_true_eq] at hb
    rcases List.mem_cons.mp h with rfl | h
    · exact ⟨xGood_at p hb.1.1.1.1 hb.1.1.1.2, hb.1.1.2, hb.1.2⟩
    · exact xFdB_mem es ps hb.2 e h
  | _ :: _, [], hb, e, h => by simp [xFdB] at hb
theorem xFd_spec {o i ci k : Nat} (h : xFd o i = some (ci, k)) : Cond.fieldLink (xcn o) i ((xCT ci).2.1 k).1 ((xCT ci).2.1 k).2.1 ((xCT ci).2.1 k).2.2.1 ∈ xGood ∧ ci < 10 ∧ k < (xCT ci).2.2 := by
  unfold xFd at h
  cases hf : xFdL.find? (fun e => e.1.1 == o && e.1.2 == i) with
  | none => rw [hf] at h; cases h
  | some e =>
    rw [hf] at h
    have hm := List.mem_of_find?_eq_some hf
    have hp := List.find?_some hf
    simp only [Bool.and_eq_true, beq_iff_eq] at hp
    obtain ⟨⟨o', i'⟩, z'⟩ := e
    obtain ⟨rfl, rfl⟩ := hp
    cases h
    exact xFdB_mem _ _ xFd_tab _ hm
def xClP : List (List Nat) := [[215, 217, 219, 221, 223, 225], [231, 233], [354], [249, 251, 253, 255, 257, 259], [285, 287, 289, 291, 293, 295, 297, 299, 301, 303, 305, 307, 309, 311, 313, 315, 317], [79, 81, 83, 85, 87], [333, 335, 337, 339, 341, 343], [157, 159, 161, 163, 165, 167, 169, 171, 173, 175, 177, 179, 181, 183, 185, 187], [371, 373, 375, 377, 379, 381, 383, 385, 387, 389, 391, 393, 395], [829, 831, 833, 835, 837, 839, 841, 843, 845, 847, 849, 851, 853, 855, 857, 859, 861, 863, 865, 867, 869, 871, 873, 875, 877, 879, 881, 883, 885, 887, 889, 891, 893, 895, 897, 899, 901, 903, 905, 907, 909]]
def xClB : List vw_C → List (List Nat) → Bool
  | [], _ => true
  | q :: qs, ps :: r => xAllB (u_ws q.1 q.2.1 q.2.2) ps && xClB qs r
  | _ :: _, [] => false
set_option maxRecDepth 100000 in
theorem xCl_tab : xClB xCl xClP = true := by decide +kernel
theorem xClB_mem : ∀ (es : List vw_C) (ps : List (List Nat)), xClB es ps = true → ∀ e ∈ es, ∀ w ∈ u_ws e.1 e.2.1 e.2.2, w ∈ xGood
  | [], _, _, e, h => by cases h
  | e0 :: es, p :: ps, hb, e, h => by
    simp only [xClB, Bool.and_eq_true] at hb
    rcases List.mem_cons.mp h with rfl | h
    · exact xAll_mem _ p hb.1
    · exact xClB_mem es ps hb.2 e h
  | _ :: _, [], hb, e, h => by simp [xClB] at hb
theorem xCl_in {ci : Nat} {q : vw_C} (h : xCl[ci]? = some q) : ∀ w ∈ u_ws q.1 q.2.1 q.2.2, w ∈ xGood := xClB_mem _ _ xCl_tab q (List.mem_of_getElem? h)
theorem xCl_lt {ci : Nat} (h : ci < 10) : xCl[ci]? = some (xCT ci) := by
  rcases (show ci = 0 ∨ ci = 1 ∨ ci = 2 ∨ ci = 3 ∨ ci = 4 ∨ ci = 5 ∨ ci = 6 ∨ ci = 7 ∨ ci = 8 ∨ ci = 9 by omega) with rfl | rfl | rfl | rfl | rfl | rfl | rfl | rfl | rfl | rfl <;> rfl
theorem xTy_ok {ci : Nat} (h : ci < 10) : ∀ k, k < (xCT ci).2.2 → parseFieldDescriptor ((xCT ci).2.1 k).2.2.1 = some (xTy ci k) := by
  rcases (show ci = 0 ∨ ci = 1 ∨ ci = 2 ∨ ci = 3 ∨ ci = 4 ∨ ci = 5 ∨ ci = 6 ∨ ci = 7 ∨ ci = 8 ∨ ci = 9 by omega) with rfl | rfl | rfl | rfl | rfl | rfl | rfl | rfl | rfl | rfl
  · exact tyX0_ok
  · exact tyX1_ok
  · exact tyX2_ok
  · exact tyX3_ok
  · exact tyX4_ok
  · exact tyX5_ok
  · exact tyX6_ok
  · exact tyX7_ok
  · exact tyX8_ok
  · exact tyX9_ok
theorem xNm_ok {ci : Nat} (h : ci < 10) : ∀ a, a < (xCT ci).2.2 → ∀ b, b < (xCT ci).2.2 → a ≠ b → ((xCT ci).2.1 a).2.1 ≠ ((xCT ci).2.1 b).2.1 := by
  rcases (show ci = 0 ∨ ci = 1 ∨ ci = 2 ∨ ci = 3 ∨ ci = 4 ∨ ci = 5 ∨ ci = 6 ∨ ci = 7 ∨ ci = 8 ∨ ci = 9 by omega) with rfl | rfl | rfl | rfl | rfl | rfl | rfl | rfl | rfl | rfl
  · exact nmX0
  · exact nmX1
  · exact nmX2
  · exact nmX3
  · exact nmX4
  · exact nmX5
  · exact nmX6
  · exact nmX7
  · exact nmX8
  · exact nmX9
def xTyA (t : Nat) : FieldType := match t with
  | 0 => .int
  | 1 => .long
  | 2 => .boolean
  | 3 => .object "SpoonfulMore$Act"
  | _ => .object "SpoonfulMore$Kept"
def xTyC (t : Nat) : String := match t with
  | 3 => "SpoonfulMore$Act"
  | _ => "SpoonfulMore$Kept"
def xNeL : List ((Nat × Nat) × Nat) := [((1, 9), 0), ((8, 17), 5), ((8, 24), 7), ((8, 34), 1), ((8, 41), 3), ((8, 48), 4), ((8, 58), 6), ((8, 65), 2), ((10, 7), 8), ((10, 10), 9)]
def xNeP : List (List Nat) := [[196, 198, 51], [68, 69, 48], [91, 92, 49], [190, 191, 50], [236, 238, 52], [262, 263, 53], [320, 321, 54], [347, 348, 55], [60, 61, 47], [782, 783, 56]]
def xNe (o i : Nat) : Option Nat := (xNeL.find? (fun e => e.1.1 == o && e.1.2 == i)).map (·.2)
def xNeN (e : (Nat × Nat) × Nat) : List Cond := [.classLink (xcn e.1.1) e.1.2 (xCT e.2).1, .instantiable (xCT e.2).1 (xCT e.2).2.2, .initialized (xCT e.2).1]
def xNeB : List ((Nat × Nat) × Nat) → List (List Nat) → Bool
  | [], _ => true
  | e :: es, ps :: r => xAllB (xNeN e) ps && xNeB es r
  | _ :: _, [] => false
set_option maxRecDepth 100000 in
theorem xNe_tab : xNeB xNeL xNeP = true := by decide +kernel
theorem xNeB_mem : ∀ (es : List ((Nat × Nat) × Nat)) (ps : List (List Nat)), xNeB es ps = true → ∀ e ∈ es, ∀ w ∈ xNeN e, w ∈ xGood
  | [], _, _, e, h => by cases h
  | e0 :: es, p :: ps, hb, e, h => by
    simp only [xNeB, Bool.and_eq_true] at hb
    rcases List.mem_cons.mp h with rfl | h
    · exact xAll_mem _ p hb.1
    · exact xNeB_mem es ps hb.2 e h
  | _ :: _, [], hb, e, h => by simp [xNeB] at hb
theorem xNe_mem {o i : Nat} {z : Nat} (h : xNe o i = some z) : ((o, i), z) ∈ xNeL ∧ ∀ w ∈ xNeN ((o, i), z), w ∈ xGood := by
  unfold xNe at h
  cases hf : xNeL.find? (fun e => e.1.1 == o && e.1.2 == i) with
  | none => rw [hf] at h; cases h
  | some e =>
    rw [hf] at h
    have hm := List.mem_of_find?_eq_some hf
    have hp := List.find?_some hf
    simp only [Bool.and_eq_true, beq_iff_eq] at hp
    obtain ⟨⟨o', i'⟩, z'⟩ := e
    obtain ⟨rfl, rfl⟩ := hp
    cases h
    exact ⟨hm, xNeB_mem _ _ xNe_tab _ hm⟩
def xAnL : List ((Nat × Nat) × Nat) := [((1, 9), 3), ((8, 41), 4)]
def xAnP : List (List Nat) := [[196], [236]]
def xAn (o i : Nat) : Option Nat := (xAnL.find? (fun e => e.1.1 == o && e.1.2 == i)).map (·.2)
def xAnN (e : (Nat × Nat) × Nat) : List Cond := [.classLink (xcn e.1.1) e.1.2 (xTyC e.2)]
def xAnB : List ((Nat × Nat) × Nat) → List (List Nat) → Bool
  | [], _ => true
  | e :: es, ps :: r => xAllB (xAnN e) ps && xAnB es r
  | _ :: _, [] => false
set_option maxRecDepth 100000 in
theorem xAn_tab : xAnB xAnL xAnP = true := by decide +kernel
theorem xAnB_mem : ∀ (es : List ((Nat × Nat) × Nat)) (ps : List (List Nat)), xAnB es ps = true → ∀ e ∈ es, ∀ w ∈ xAnN e, w ∈ xGood
  | [], _, _, e, h => by cases h
  | e0 :: es, p :: ps, hb, e, h => by
    simp only [xAnB, Bool.and_eq_true] at hb
    rcases List.mem_cons.mp h with rfl | h
    · exact xAll_mem _ p hb.1
    · exact xAnB_mem es ps hb.2 e h
  | _ :: _, [], hb, e, h => by simp [xAnB] at hb
theorem xAn_mem {o i : Nat} {z : Nat} (h : xAn o i = some z) : ((o, i), z) ∈ xAnL ∧ ∀ w ∈ xAnN ((o, i), z), w ∈ xGood := by
  unfold xAn at h
  cases hf : xAnL.find? (fun e => e.1.1 == o && e.1.2 == i) with
  | none => rw [hf] at h; cases h
  | some e =>
    rw [hf] at h
    have hm := List.mem_of_find?_eq_some hf
    have hp := List.find?_some hf
    simp only [Bool.and_eq_true, beq_iff_eq] at hp
    obtain ⟨⟨o', i'⟩, z'⟩ := e
    obtain ⟨rfl, rfl⟩ := hp
    cases h
    exact ⟨hm, xAnB_mem _ _ xAn_tab _ hm⟩
def xLdL : List ((Nat × Nat) × Int32) := [((12, 265), 1431655765), ((12, 266), 858993459), ((12, 267), 252645135), ((4, 127), 536870912)]
def xLdP : List (List Nat) := [[571], [572], [573], [648]]
def xLd (o i : Nat) : Option Int32 := (xLdL.find? (fun e => e.1.1 == o && e.1.2 == i)).map (·.2)
def xLdN (e : (Nat × Nat) × Int32) : List Cond := [.constant (xcn e.1.1) e.1.2 e.2]
def xLdB : List ((Nat × Nat) × Int32) → List (List Nat) → Bool
  | [], _ => true
  | e :: es, ps :: r => xAllB (xLdN e) ps && xLdB es r
  | _ :: _, [] => false
set_option maxRecDepth 100000 in
theorem xLd_tab : xLdB xLdL xLdP = true := by decide +kernel
theorem xLdB_mem : ∀ (es : List ((Nat × Nat) × Int32)) (ps : List (List Nat)), xLdB es ps = true → ∀ e ∈ es, ∀ w ∈ xLdN e, w ∈ xGood
  | [], _, _, e, h => by cases h
  | e0 :: es, p :: ps, hb, e, h => by
    simp only [xLdB, Bool.and_eq_true] at hb
    rcases List.mem_cons.mp h with rfl | h
    · exact xAll_mem _ p hb.1
    · exact xLdB_mem es ps hb.2 e h
  | _ :: _, [], hb, e, h => by simp [xLdB] at hb
theorem xLd_mem {o i : Nat} {z : Int32} (h : xLd o i = some z) : ((o, i), z) ∈ xLdL ∧ ∀ w ∈ xLdN ((o, i), z), w ∈ xGood := by
  unfold xLd at h
  cases hf : xLdL.find? (fun e => e.1.1 == o && e.1.2 == i) with
  | none => rw [hf] at h; cases h
  | some e =>
    rw [hf] at h
    have hm := List.mem_of_find?_eq_some hf
    have hp := List.find?_some hf
    simp only [Bool.and_eq_true, beq_iff_eq] at hp
    obtain ⟨⟨o', i'⟩, z'⟩ := e
    obtain ⟨rfl, rfl⟩ := hp
    cases h
    exact ⟨hm, xLdB_mem _ _ xLd_tab _ hm⟩
def xL2L : List ((Nat × Nat) × Int64) := [((8, 224), (-2)), ((2, 25), 10), ((8, 250), 6364136223846793005), ((8, 252), 1442695040888963407), ((9, 81), 8), ((9, 90), 255), ((9, 98), 9), ((9, 178), 3), ((9, 209), 2), ((9, 215), 9999), ((9, 226), 10), ((9, 228), (-2)), ((9, 238), 40), ((9, 240), 6364136223846793005), ((9, 242), 1442695040888963407), ((10, 13), 4294967295)]
def xL2P : List (List Nat) := [[710], [725], [743], [744], [916], [920], [937], [1000], [1033], [1058], [1087], [1088], [1100], [1101], [1102], [1115]]
def xL2 (o i : Nat) : Option Int64 := (xL2L.find? (fun e => e.1.1 == o && e.1.2 == i)).map (·.2)
def xL2N (e : (Nat × Nat) × Int64) : List Cond := [.constantLong (xcn e.1.1) e.1.2 e.2]
def xL2B : List ((Nat × Nat) × Int64) → List (List Nat) → Bool
  | [], _ => true
  | e :: es, ps :: r => xAllB (xL2N e) ps && xL2B es r
  | _ :: _, [] => false
set_option maxRecDepth 100000 in
theorem xL2_tab : xL2B xL2L xL2P = true := by decide +kernel
theorem xL2B_mem : ∀ (es : List ((Nat × Nat) × Int64)) (ps : List (List Nat)), xL2B es ps = true → ∀ e ∈ es, ∀ w ∈ xL2N e, w ∈ xGood
  | [], _, _, e, h => by cases h
  | e0 :: es, p :: ps, hb, e, h => by
    simp only [xL2B, Bool.and_eq_true] at hb
    rcases List.mem_cons.mp h with rfl | h
    · exact xAll_mem _ p hb.1
    · exact xL2B_mem es ps hb.2 e h
  | _ :: _, [], hb, e, h => by simp [xL2B] at hb
theorem xL2_mem {o i : Nat} {z : Int64} (h : xL2 o i = some z) : ((o, i), z) ∈ xL2L ∧ ∀ w ∈ xL2N ((o, i), z), w ∈ xGood := by
  unfold xL2 at h
  cases hf : xL2L.find? (fun e => e.1.1 == o && e.1.2 == i) with
  | none => rw [hf] at h; cases h
  | some e =>
    rw [hf] at h
    have hm := List.mem_of_find?_eq_some hf
    have hp := List.find?_some hf
    simp only [Bool.and_eq_true, beq_iff_eq] at hp
    obtain ⟨⟨o', i'⟩, z'⟩ := e
    obtain ⟨rfl, rfl⟩ := hp
    cases h
    exact ⟨hm, xL2B_mem _ _ xL2_tab _ hm⟩
theorem xNe_lt {o i ci : Nat} (h : xNe o i = some ci) : ci < 10 := by
  have hm := (xNe_mem h).1
  have := List.all_eq_true.mp (show xNeL.all (fun e => decide (e.2 < 10)) = true by decide +kernel) _ hm
  simpa using this
theorem xAn_t {o i t : Nat} (h : xAn o i = some t) : t = 3 ∨ t = 4 := by
  have hm := (xAn_mem h).1
  have := List.all_eq_true.mp (show xAnL.all (fun e => decide (e.2 = 3 ∨ e.2 = 4)) = true by decide +kernel) _ hm
  simpa using this
theorem xArr_int : Cond.arrayClass .int ∈ xGood := xGood_at 90 (by decide +kernel) rfl
theorem xArr_long : Cond.arrayClass .long ∈ xGood := xGood_at 357 (by decide +kernel) rfl
theorem xArr_boolean : Cond.arrayClass .boolean ∈ xGood := xGood_at 346 (by decide +kernel) rfl
