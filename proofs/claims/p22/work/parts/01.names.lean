def RX0 : String := "SlateRoofs$Cover"
def TX0 : u_T := fun k => match k with
  | _ => ("SlateRoofs$Cover", "covered", "[Z", true)
def tyX0 : Nat → FieldType := fun k => match k with
  | _ => .array .boolean
theorem nmX0 : ∀ a, a < 1 → ∀ b, b < 1 → a ≠ b → (TX0 a).2.1 ≠ (TX0 b).2.1 := by decide +kernel
theorem tyX0_ok : ∀ k, k < 1 → parseFieldDescriptor (TX0 k).2.2.1 = some (tyX0 k) := by decide +kernel
abbrev cX0_init : ByteArray := prog_2_method_1_code
def yX0_init : MethodName := ⟨RX0, "<init>", "()V"⟩
abbrev cX0_readFrom : ByteArray := prog_2_method_2_code
def yX0_readFrom : MethodName := ⟨RX0, "readFrom", "(LSlateRoofs$Roof;)V"⟩
abbrev cX0_addSlate : ByteArray := prog_2_method_3_code
def yX0_addSlate : MethodName := ⟨RX0, "addSlate", "(III)V"⟩
abbrev cX0_coverOne : ByteArray := prog_2_method_4_code
def yX0_coverOne : MethodName := ⟨RX0, "coverOne", "(II)V"⟩
abbrev cX0_comesIn : ByteArray := prog_2_method_5_code
def yX0_comesIn : MethodName := ⟨RX0, "comesIn", "(IIII)I"⟩
abbrev cX0_comesInAt : ByteArray := prog_2_method_6_code
def yX0_comesInAt : MethodName := ⟨RX0, "comesInAt", "(III)I"⟩
abbrev cX0_comesInAtAll : ByteArray := prog_2_method_7_code
def yX0_comesInAtAll : MethodName := ⟨RX0, "comesInAtAll", "(I)I"⟩
def RX1 : String := "SlateRoofs$Roof"
def TX1 : u_T := fun k => match k with
  | 0 => ("SlateRoofs$Roof", "numbers", "[I", true)
  | 1 => ("SlateRoofs$Roof", "rot", "[I", true)
  | 2 => ("SlateRoofs$Roof", "rows", "[I", true)
  | 3 => ("SlateRoofs$Roof", "froms", "[I", true)
  | 4 => ("SlateRoofs$Roof", "wides", "[I", true)
  | 5 => ("SlateRoofs$Roof", "nails", "[I", true)
  | 6 => ("SlateRoofs$Roof", "cracked", "[Z", true)
  | 7 => ("SlateRoofs$Roof", "onRoof", "[Z", true)
  | 8 => ("SlateRoofs$Roof", "goes", "[Z", true)
  | 9 => ("SlateRoofs$Roof", "day", "I", false)
  | 10 => ("SlateRoofs$Roof", "laid", "I", false)
  | 11 => ("SlateRoofs$Roof", "there", "I", false)
  | _ => ("SlateRoofs$Roof", "blownAway", "I", false)
def tyX1 : Nat → FieldType := fun k => match k with
  | 0 => .array .int
  | 1 => .array .int
  | 2 => .array .int
  | 3 => .array .int
  | 4 => .array .int
  | 5 => .array .int
  | 6 => .array .boolean
  | 7 => .array .boolean
  | 8 => .array .boolean
  | 9 => .int
  | 10 => .int
  | 11 => .int
  | _ => .int
theorem nmX1 : ∀ a, a < 13 → ∀ b, b < 13 → a ≠ b → (TX1 a).2.1 ≠ (TX1 b).2.1 := by decide +kernel
theorem tyX1_ok : ∀ k, k < 13 → parseFieldDescriptor (TX1 k).2.2.1 = some (tyX1 k) := by decide +kernel
abbrev cX1_init : ByteArray := prog_3_method_1_code
def yX1_init : MethodName := ⟨RX1, "<init>", "()V"⟩
abbrev cX1_copyFrom : ByteArray := prog_3_method_2_code
def yX1_copyFrom : MethodName := ⟨RX1, "copyFrom", "(LSlateRoofs$Roof;)V"⟩
abbrev cX1_isKnown : ByteArray := prog_3_method_3_code
def yX1_isKnown : MethodName := ⟨RX1, "isKnown", "(I)Z"⟩
abbrev cX1_isThere : ByteArray := prog_3_method_4_code
def yX1_isThere : MethodName := ⟨RX1, "isThere", "(I)Z"⟩
abbrev cX1_isOpen : ByteArray := prog_3_method_5_code
def yX1_isOpen : MethodName := ⟨RX1, "isOpen", "(I)Z"⟩
abbrev cX1_numberAt : ByteArray := prog_3_method_6_code
def yX1_numberAt : MethodName := ⟨RX1, "numberAt", "(II)I"⟩
abbrev cX1_rotAt : ByteArray := prog_3_method_7_code
def yX1_rotAt : MethodName := ⟨RX1, "rotAt", "(II)I"⟩
abbrev cX1_setNumbers : ByteArray := prog_3_method_8_code
def yX1_setNumbers : MethodName := ⟨RX1, "setNumbers", "(IIII)V"⟩
abbrev cX1_setRot : ByteArray := prog_3_method_9_code
def yX1_setRot : MethodName := ⟨RX1, "setRot", "(III)V"⟩
abbrev cX1_nailsOf : ByteArray := prog_3_method_10_code
def yX1_nailsOf : MethodName := ⟨RX1, "nailsOf", "(I)I"⟩
abbrev cX1_setNails : ByteArray := prog_3_method_11_code
def yX1_setNails : MethodName := ⟨RX1, "setNails", "(II)V"⟩
abbrev cX1_isFree : ByteArray := prog_3_method_12_code
def yX1_isFree : MethodName := ⟨RX1, "isFree", "(III)Z"⟩
abbrev cX1_add : ByteArray := prog_3_method_13_code
def yX1_add : MethodName := ⟨RX1, "add", "(IIII)I"⟩
abbrev cX1_remove : ByteArray := prog_3_method_14_code
def yX1_remove : MethodName := ⟨RX1, "remove", "(I)V"⟩
abbrev cX1_tellSlate : ByteArray := prog_3_method_15_code
def yX1_tellSlate : MethodName := ⟨RX1, "tellSlate", "(II)I"⟩
abbrev cX1_uponIt : ByteArray := prog_3_method_16_code
def yX1_uponIt : MethodName := ⟨RX1, "uponIt", "(I)I"⟩
abbrev cX1_holdOf : ByteArray := prog_3_method_17_code
def yX1_holdOf : MethodName := ⟨RX1, "holdOf", "(I)I"⟩
abbrev cX1_isOnRot : ByteArray := prog_3_method_18_code
def yX1_isOnRot : MethodName := ⟨RX1, "isOnRot", "(I)Z"⟩
abbrev cX1_liftOf : ByteArray := prog_3_method_19_code
def yX1_liftOf : MethodName := ⟨RX1, "liftOf", "(IIZ)I"⟩
abbrev cX1_blow : ByteArray := prog_3_method_20_code
def yX1_blow : MethodName := ⟨RX1, "blow", "(IZ)I"⟩
abbrev cX1_markLifted : ByteArray := prog_3_method_21_code
def yX1_markLifted : MethodName := ⟨RX1, "markLifted", "(IZ)I"⟩
abbrev cX1_removeMarked : ByteArray := prog_3_method_22_code
def yX1_removeMarked : MethodName := ⟨RX1, "removeMarked", "()I"⟩
abbrev cX1_crackBy : ByteArray := prog_3_method_23_code
def yX1_crackBy : MethodName := ⟨RX1, "crackBy", "(I)V"⟩
abbrev cX1_isBareSomewhere : ByteArray := prog_3_method_24_code
def yX1_isBareSomewhere : MethodName := ⟨RX1, "isBareSomewhere", "(I)Z"⟩
abbrev cX1_rotBy : ByteArray := prog_3_method_25_code
def yX1_rotBy : MethodName := ⟨RX1, "rotBy", "(LSlateRoofs$Cover;I)V"⟩
abbrev cX1_isWholeAt : ByteArray := prog_3_method_26_code
def yX1_isWholeAt : MethodName := ⟨RX1, "isWholeAt", "(II)Z"⟩
abbrev cX1_isCovered : ByteArray := prog_3_method_27_code
def yX1_isCovered : MethodName := ⟨RX1, "isCovered", "(II)Z"⟩
abbrev cX1_coveredPlaces : ByteArray := prog_3_method_28_code
def yX1_coveredPlaces : MethodName := ⟨RX1, "coveredPlaces", "()I"⟩
abbrev cX1_crackedThere : ByteArray := prog_3_method_29_code
def yX1_crackedThere : MethodName := ⟨RX1, "crackedThere", "()I"⟩
abbrev cX1_allRot : ByteArray := prog_3_method_30_code
def yX1_allRot : MethodName := ⟨RX1, "allRot", "()I"⟩
abbrev cX1_inTheWay : ByteArray := prog_3_method_31_code
def yX1_inTheWay : MethodName := ⟨RX1, "inTheWay", "(III)I"⟩
abbrev cX1_isGoing : ByteArray := prog_3_method_32_code
def yX1_isGoing : MethodName := ⟨RX1, "isGoing", "(I)Z"⟩
abbrev cX1_letGo : ByteArray := prog_3_method_33_code
def yX1_letGo : MethodName := ⟨RX1, "letGo", "(I)I"⟩
def RX2 : String := "SlateRoofs$Table"
def TX2 : u_T := fun k => match k with
  | 0 => ("SlateRoofs$Table", "forces", "[I", true)
  | 1 => ("SlateRoofs$Table", "fromRights", "[Z", true)
  | 2 => ("SlateRoofs$Table", "hails", "[I", true)
  | _ => ("SlateRoofs$Table", "rains", "[I", true)
def tyX2 : Nat → FieldType := fun k => match k with
  | 0 => .array .int
  | 1 => .array .boolean
  | 2 => .array .int
  | _ => .array .int
theorem nmX2 : ∀ a, a < 4 → ∀ b, b < 4 → a ≠ b → (TX2 a).2.1 ≠ (TX2 b).2.1 := by decide +kernel
theorem tyX2_ok : ∀ k, k < 4 → parseFieldDescriptor (TX2 k).2.2.1 = some (tyX2 k) := by decide +kernel
abbrev cX2_init : ByteArray := prog_4_method_1_code
def yX2_init : MethodName := ⟨RX2, "<init>", "()V"⟩
abbrev cX2_isDay : ByteArray := prog_4_method_2_code
def yX2_isDay : MethodName := ⟨RX2, "isDay", "(I)Z"⟩
abbrev cX2_write : ByteArray := prog_4_method_3_code
def yX2_write : MethodName := ⟨RX2, "write", "(IIZII)V"⟩
abbrev cX2_told : ByteArray := prog_4_method_4_code
def yX2_told : MethodName := ⟨RX2, "told", "(I)I"⟩
abbrev cX2_forceOf : ByteArray := prog_4_method_5_code
def yX2_forceOf : MethodName := ⟨RX2, "forceOf", "(I)I"⟩
abbrev cX2_isFromRight : ByteArray := prog_4_method_6_code
def yX2_isFromRight : MethodName := ⟨RX2, "isFromRight", "(I)Z"⟩
abbrev cX2_hailOf : ByteArray := prog_4_method_7_code
def yX2_hailOf : MethodName := ⟨RX2, "hailOf", "(I)I"⟩
abbrev cX2_rainOf : ByteArray := prog_4_method_8_code
def yX2_rainOf : MethodName := ⟨RX2, "rainOf", "(I)I"⟩
def RX3 : String := "SlateRoofs"
def TX3 : u_T := fun k => match k with
  | 0 => ("SlateRoofs", "roof", "LSlateRoofs$Roof;", true)
  | 1 => ("SlateRoofs", "trial", "LSlateRoofs$Roof;", true)
  | 2 => ("SlateRoofs", "cover", "LSlateRoofs$Cover;", true)
  | _ => ("SlateRoofs", "table", "LSlateRoofs$Table;", true)
def tyX3 : Nat → FieldType := fun k => match k with
  | 0 => .object "SlateRoofs$Roof"
  | 1 => .object "SlateRoofs$Roof"
  | 2 => .object "SlateRoofs$Cover"
  | _ => .object "SlateRoofs$Table"
theorem nmX3 : ∀ a, a < 4 → ∀ b, b < 4 → a ≠ b → (TX3 a).2.1 ≠ (TX3 b).2.1 := by decide +kernel
theorem tyX3_ok : ∀ k, k < 4 → parseFieldDescriptor (TX3 k).2.2.1 = some (tyX3 k) := by decide +kernel
abbrev cX3_init : ByteArray := prog_1_method_1_code
def yX3_init : MethodName := ⟨RX3, "<init>", "()V"⟩
abbrev cX3_lay : ByteArray := prog_1_method_2_code
def yX3_lay : MethodName := ⟨RX3, "lay", "(IIII)I"⟩
abbrev cX3_take : ByteArray := prog_1_method_3_code
def yX3_take : MethodName := ⟨RX3, "take", "(I)I"⟩
abbrev cX3_nail : ByteArray := prog_1_method_4_code
def yX3_nail : MethodName := ⟨RX3, "nail", "(II)I"⟩
abbrev cX3_board : ByteArray := prog_1_method_5_code
def yX3_board : MethodName := ⟨RX3, "board", "(II)I"⟩
abbrev cX3_setDay : ByteArray := prog_1_method_6_code
def yX3_setDay : MethodName := ⟨RX3, "setDay", "(IIZII)I"⟩
abbrev cX3_slate : ByteArray := prog_1_method_7_code
def yX3_slate : MethodName := ⟨RX3, "slate", "(II)I"⟩
abbrev cX3_place : ByteArray := prog_1_method_8_code
def yX3_place : MethodName := ⟨RX3, "place", "(III)I"⟩
abbrev cX3_count : ByteArray := prog_1_method_9_code
def yX3_count : MethodName := ⟨RX3, "count", "(I)I"⟩
abbrev cX3_lift : ByteArray := prog_1_method_10_code
def yX3_lift : MethodName := ⟨RX3, "lift", "(IIZ)I"⟩
abbrev cX3_storm : ByteArray := prog_1_method_11_code
def yX3_storm : MethodName := ⟨RX3, "storm", "(IZI)I"⟩
abbrev cX3_bears : ByteArray := prog_1_method_12_code
def yX3_bears : MethodName := ⟨RX3, "bears", "(Z)I"⟩
abbrev cX3_comes : ByteArray := prog_1_method_13_code
def yX3_comes : MethodName := ⟨RX3, "comes", "(III)I"⟩
abbrev cX3_leaks : ByteArray := prog_1_method_14_code
def yX3_leaks : MethodName := ⟨RX3, "leaks", "(I)I"⟩
abbrev cX3_needs : ByteArray := prog_1_method_15_code
def yX3_needs : MethodName := ⟨RX3, "needs", "(III)I"⟩
abbrev cX3_best : ByteArray := prog_1_method_16_code
def yX3_best : MethodName := ⟨RX3, "best", "()I"⟩
abbrev cX3_pass : ByteArray := prog_1_method_17_code
def yX3_pass : MethodName := ⟨RX3, "pass", "(I)I"⟩
abbrev cX3_foresee : ByteArray := prog_1_method_18_code
def yX3_foresee : MethodName := ⟨RX3, "foresee", "(II)I"⟩
abbrev cX3_share : ByteArray := prog_1_method_19_code
def yX3_share : MethodName := ⟨RX3, "share", "()D"⟩
abbrev cX3_comesInWith : ByteArray := prog_1_method_21_code
def yX3_comesInWith : MethodName := ⟨RX3, "comesInWith", "(III)I"⟩
abbrev cX3_letGoBy : ByteArray := prog_1_method_22_code
def yX3_letGoBy : MethodName := ⟨RX3, "letGoBy", "(LSlateRoofs$Roof;I)V"⟩
abbrev cX3_isUpTo : ByteArray := prog_1_method_23_code
def yX3_isUpTo : MethodName := ⟨RX3, "isUpTo", "(II)Z"⟩
abbrev cX3_isPlace : ByteArray := prog_1_method_24_code
def yX3_isPlace : MethodName := ⟨RX3, "isPlace", "(II)Z"⟩
abbrev cX3_fits : ByteArray := prog_1_method_25_code
def yX3_fits : MethodName := ⟨RX3, "fits", "(III)Z"⟩
abbrev cX3_isNails : ByteArray := prog_1_method_26_code
def yX3_isNails : MethodName := ⟨RX3, "isNails", "(I)Z"⟩
abbrev cX3_isDays : ByteArray := prog_1_method_27_code
def yX3_isDays : MethodName := ⟨RX3, "isDays", "(I)Z"⟩
def RX4 : String := "SlateRoofsLaw$Sim"
def TX4 : u_T := fun k => match k with
  | 0 => ("SlateRoofsLaw$Sim", "slates", "[[I", false)
  | 1 => ("SlateRoofsLaw$Sim", "rot", "[[I", false)
  | 2 => ("SlateRoofsLaw$Sim", "days", "[[I", false)
  | 3 => ("SlateRoofsLaw$Sim", "day", "I", false)
  | _ => ("SlateRoofsLaw$Sim", "taken", "I", false)
def tyX4 : Nat → FieldType := fun k => match k with
  | 0 => .array (.array .int)
  | 1 => .array (.array .int)
  | 2 => .array (.array .int)
  | 3 => .int
  | _ => .int
theorem nmX4 : ∀ a, a < 5 → ∀ b, b < 5 → a ≠ b → (TX4 a).2.1 ≠ (TX4 b).2.1 := by decide +kernel
theorem tyX4_ok : ∀ k, k < 5 → parseFieldDescriptor (TX4 k).2.2.1 = some (tyX4 k) := by decide +kernel
abbrev cX4_init : ByteArray := prog_6_method_1_code
def yX4_init : MethodName := ⟨RX4, "<init>", "()V"⟩
abbrev cX4_add : ByteArray := prog_6_method_3_code
def yX4_add : MethodName := ⟨RX4, "add", "(IIII)V"⟩
abbrev cX4_meets : ByteArray := prog_6_method_4_code
def yX4_meets : MethodName := ⟨RX4, "meets", "([IIII)Z"⟩
abbrev cX4_upon : ByteArray := prog_6_method_5_code
def yX4_upon : MethodName := ⟨RX4, "upon", "([I)I"⟩
abbrev cX4_isFree : ByteArray := prog_6_method_6_code
def yX4_isFree : MethodName := ⟨RX4, "isFree", "(III)Z"⟩
abbrev cX4_at : ByteArray := prog_6_method_7_code
def yX4_at : MethodName := ⟨RX4, "at", "(II)I"⟩
abbrev cX4_hold : ByteArray := prog_6_method_8_code
def yX4_hold : MethodName := ⟨RX4, "hold", "([I)I"⟩
abbrev cX4_lift : ByteArray := prog_6_method_9_code
def yX4_lift : MethodName := ⟨RX4, "lift", "([IIZ)I"⟩
abbrev cX4_storm : ByteArray := prog_6_method_10_code
def yX4_storm : MethodName := ⟨RX4, "storm", "(IZ)I"⟩
abbrev cX4_covered : ByteArray := prog_6_method_11_code
def yX4_covered : MethodName := ⟨RX4, "covered", "(II)Z"⟩
abbrev cX4_covered_ : ByteArray := prog_6_method_12_code
def yX4_covered_ : MethodName := ⟨RX4, "covered", "()I"⟩
abbrev cX4_comes : ByteArray := prog_6_method_13_code
def yX4_comes : MethodName := ⟨RX4, "comes", "(III)I"⟩
abbrev cX4_pass : ByteArray := prog_6_method_15_code
def yX4_pass : MethodName := ⟨RX4, "pass", "()V"⟩
abbrev cX4_on : ByteArray := prog_6_method_16_code
def yX4_on : MethodName := ⟨RX4, "on", "(Z)I"⟩
abbrev cX4_rot : ByteArray := prog_6_method_17_code
def yX4_rot : MethodName := ⟨RX4, "rot", "()I"⟩
abbrev cX4_isSame : ByteArray := prog_6_method_18_code
def yX4_isSame : MethodName := ⟨RX4, "isSame", "(LSlateRoofs;)Z"⟩
def RX5 : String := "SlateRoofsModel"
def TX5 : u_T := fun k => match k with
  | _ => ("", "", "", false)
def tyX5 : Nat → FieldType := fun k => match k with
  | _ => .int
theorem nmX5 : ∀ a, a < 0 → ∀ b, b < 0 → a ≠ b → (TX5 a).2.1 ≠ (TX5 b).2.1 := by decide +kernel
theorem tyX5_ok : ∀ k, k < 0 → parseFieldDescriptor (TX5 k).2.2.1 = some (tyX5 k) := by decide +kernel
def RJ9 : String := "java/lang/Math"
def TJ9 : u_T := fun k => match k with
  | _ => ("", "", "", false)
def tyJ9 : Nat → FieldType := fun k => match k with
  | _ => .int
theorem nmJ9 : ∀ a, a < 0 → ∀ b, b < 0 → a ≠ b → (TJ9 a).2.1 ≠ (TJ9 b).2.1 := by decide +kernel
theorem tyJ9_ok : ∀ k, k < 0 → parseFieldDescriptor (TJ9 k).2.2.1 = some (tyJ9 k) := by decide +kernel
abbrev cJ9_floorMod_7cf53 : ByteArray := prog_12_method_50_code
def yJ9_floorMod_7cf53 : MethodName := ⟨RJ9, "floorMod", "(II)I"⟩
abbrev cJ9_min_7cf53 : ByteArray := prog_12_method_69_code
def yJ9_min_7cf53 : MethodName := ⟨RJ9, "min", "(II)I"⟩
def RJ0 : String := "java/lang/String"
def TJ0 : u_T := fun k => match k with
  | _ => ("", "", "", false)
def tyJ0 : Nat → FieldType := fun k => match k with
  | _ => .int
theorem nmJ0 : ∀ a, a < 0 → ∀ b, b < 0 → a ≠ b → (TJ0 a).2.1 ≠ (TJ0 b).2.1 := by decide +kernel
theorem tyJ0_ok : ∀ k, k < 0 → parseFieldDescriptor (TJ0 k).2.2.1 = some (tyJ0 k) := by decide +kernel
def RL : String := "SlateRoofsLaw"
abbrev cL_below : ByteArray := method_2_code
def yL_below : MethodName := ⟨RL, "below", "(II)I"⟩
abbrev cL_cell : ByteArray := method_3_code
def yL_cell : MethodName := ⟨RL, "cell", "([II)I"⟩
abbrev cL_lays : ByteArray := method_4_code
def yL_lays : MethodName := ⟨RL, "lays", "(LSlateRoofs;LSlateRoofsLaw$Sim;IIII)Z"⟩
abbrev cL_build : ByteArray := method_5_code
def yL_build : MethodName := ⟨RL, "build", "(LSlateRoofs;[I)LSlateRoofsLaw$Sim;"⟩
abbrev cL_act : ByteArray := method_6_code
def yL_act : MethodName := ⟨RL, "act", "(LSlateRoofs;LSlateRoofsLaw$Sim;I)Z"⟩
abbrev cL_law : ByteArray := code
def yL_law : MethodName := ⟨RL, "law", "([I)Z"⟩
theorem dX0_init_0 : decode cX0_init 0 = .ok (.aload_n 0, 1) := by decide +kernel
theorem dX0_init_1 : decode cX0_init 1 = .ok (.invokespecial 3, 3) := by decide +kernel
theorem dX0_init_4 : decode cX0_init 4 = .ok (.aload_n 0, 1) := by decide +kernel
theorem dX0_init_5 : decode cX0_init 5 = .ok (.bipush 96, 2) := by decide +kernel
theorem dX0_init_7 : decode cX0_init 7 = .ok (.newarray .boolean, 2) := by decide +kernel
theorem dX0_init_9 : decode cX0_init 9 = .ok (.putfield 9, 3) := by decide +kernel
theorem dX0_init_12 : decode cX0_init 12 = .ok (.return_, 1) := by decide +kernel
theorem dX0_readFrom_0 : decode cX0_readFrom 0 = .ok (.iconst 0, 1) := by decide +kernel
theorem dX0_readFrom_1 : decode cX0_readFrom 1 = .ok (.istore_n 2, 1) := by decide +kernel
theorem dX0_readFrom_2 : decode cX0_readFrom 2 = .ok (.iload_n 2, 1) := by decide +kernel
theorem dX0_readFrom_3 : decode cX0_readFrom 3 = .ok (.bipush 8, 2) := by decide +kernel
theorem dX0_readFrom_5 : decode cX0_readFrom 5 = .ok (.if_icmp .ge 40, 3) := by decide +kernel
theorem dX0_readFrom_8 : decode cX0_readFrom 8 = .ok (.iconst 0, 1) := by decide +kernel
theorem dX0_readFrom_9 : decode cX0_readFrom 9 = .ok (.istore_n 3, 1) := by decide +kernel
theorem dX0_readFrom_10 : decode cX0_readFrom 10 = .ok (.iload_n 3, 1) := by decide +kernel
theorem dX0_readFrom_11 : decode cX0_readFrom 11 = .ok (.bipush 12, 2) := by decide +kernel
theorem dX0_readFrom_13 : decode cX0_readFrom 13 = .ok (.if_icmp .ge 26, 3) := by decide +kernel
theorem dX0_readFrom_16 : decode cX0_readFrom 16 = .ok (.aload_n 0, 1) := by decide +kernel
theorem dX0_readFrom_17 : decode cX0_readFrom 17 = .ok (.getfield 9, 3) := by decide +kernel
theorem dX0_readFrom_20 : decode cX0_readFrom 20 = .ok (.bipush 12, 2) := by decide +kernel
theorem dX0_readFrom_22 : decode cX0_readFrom 22 = .ok (.iload_n 2, 1) := by decide +kernel
theorem dX0_readFrom_23 : decode cX0_readFrom 23 = .ok (.imul, 1) := by decide +kernel
theorem dX0_readFrom_24 : decode cX0_readFrom 24 = .ok (.iload_n 3, 1) := by decide +kernel
theorem dX0_readFrom_25 : decode cX0_readFrom 25 = .ok (.iadd, 1) := by decide +kernel
theorem dX0_readFrom_26 : decode cX0_readFrom 26 = .ok (.aload_n 1, 1) := by decide +kernel
theorem dX0_readFrom_27 : decode cX0_readFrom 27 = .ok (.iload_n 3, 1) := by decide +kernel
theorem dX0_readFrom_28 : decode cX0_readFrom 28 = .ok (.iload_n 2, 1) := by decide +kernel
theorem dX0_readFrom_29 : decode cX0_readFrom 29 = .ok (.invokevirtual 15, 3) := by decide +kernel
theorem dX0_readFrom_32 : decode cX0_readFrom 32 = .ok (.bastore, 1) := by decide +kernel
theorem dX0_readFrom_33 : decode cX0_readFrom 33 = .ok (.iinc 3 1, 3) := by decide +kernel
theorem dX0_readFrom_36 : decode cX0_readFrom 36 = .ok (.goto (-26), 3) := by decide +kernel
theorem dX0_readFrom_39 : decode cX0_readFrom 39 = .ok (.iinc 2 1, 3) := by decide +kernel
theorem dX0_readFrom_42 : decode cX0_readFrom 42 = .ok (.goto (-40), 3) := by decide +kernel
theorem dX0_readFrom_45 : decode cX0_readFrom 45 = .ok (.return_, 1) := by decide +kernel
theorem dX0_addSlate_0 : decode cX0_addSlate 0 = .ok (.iload_n 2, 1) := by decide +kernel
theorem dX0_addSlate_1 : decode cX0_addSlate 1 = .ok (.istore 4, 2) := by decide +kernel
theorem dX0_addSlate_3 : decode cX0_addSlate 3 = .ok (.iload 4, 2) := by decide +kernel
theorem dX0_addSlate_5 : decode cX0_addSlate 5 = .ok (.iload_n 2, 1) := by decide +kernel
theorem dX0_addSlate_6 : decode cX0_addSlate 6 = .ok (.iload_n 3, 1) := by decide +kernel
theorem dX0_addSlate_7 : decode cX0_addSlate 7 = .ok (.iadd, 1) := by decide +kernel
theorem dX0_addSlate_8 : decode cX0_addSlate 8 = .ok (.if_icmp .ge 25, 3) := by decide +kernel
theorem dX0_addSlate_11 : decode cX0_addSlate 11 = .ok (.aload_n 0, 1) := by decide +kernel
theorem dX0_addSlate_12 : decode cX0_addSlate 12 = .ok (.iload 4, 2) := by decide +kernel
theorem dX0_addSlate_14 : decode cX0_addSlate 14 = .ok (.iload_n 1, 1) := by decide +kernel
theorem dX0_addSlate_15 : decode cX0_addSlate 15 = .ok (.invokevirtual 21, 3) := by decide +kernel
theorem dX0_addSlate_18 : decode cX0_addSlate 18 = .ok (.aload_n 0, 1) := by decide +kernel
theorem dX0_addSlate_19 : decode cX0_addSlate 19 = .ok (.iload 4, 2) := by decide +kernel
theorem dX0_addSlate_21 : decode cX0_addSlate 21 = .ok (.iload_n 1, 1) := by decide +kernel
theorem dX0_addSlate_22 : decode cX0_addSlate 22 = .ok (.iconst 1, 1) := by decide +kernel
theorem dX0_addSlate_23 : decode cX0_addSlate 23 = .ok (.isub, 1) := by decide +kernel
theorem dX0_addSlate_24 : decode cX0_addSlate 24 = .ok (.invokevirtual 21, 3) := by decide +kernel
theorem dX0_addSlate_27 : decode cX0_addSlate 27 = .ok (.iinc 4 1, 3) := by decide +kernel
theorem dX0_addSlate_30 : decode cX0_addSlate 30 = .ok (.goto (-27), 3) := by decide +kernel
theorem dX0_addSlate_33 : decode cX0_addSlate 33 = .ok (.return_, 1) := by decide +kernel
theorem dX0_coverOne_0 : decode cX0_coverOne 0 = .ok (.iload_n 1, 1) := by decide +kernel
theorem dX0_coverOne_1 : decode cX0_coverOne 1 = .ok (.iload_n 2, 1) := by decide +kernel
theorem dX0_coverOne_2 : decode cX0_coverOne 2 = .ok (.invokestatic 25, 3) := by decide +kernel
theorem dX0_coverOne_5 : decode cX0_coverOne 5 = .ok (.ifCond .eq 15, 3) := by decide +kernel
theorem dX0_coverOne_8 : decode cX0_coverOne 8 = .ok (.aload_n 0, 1) := by decide +kernel
theorem dX0_coverOne_9 : decode cX0_coverOne 9 = .ok (.getfield 9, 3) := by decide +kernel
theorem dX0_coverOne_12 : decode cX0_coverOne 12 = .ok (.bipush 12, 2) := by decide +kernel
theorem dX0_coverOne_14 : decode cX0_coverOne 14 = .ok (.iload_n 2, 1) := by decide +kernel
theorem dX0_coverOne_15 : decode cX0_coverOne 15 = .ok (.imul, 1) := by decide +kernel
theorem dX0_coverOne_16 : decode cX0_coverOne 16 = .ok (.iload_n 1, 1) := by decide +kernel
theorem dX0_coverOne_17 : decode cX0_coverOne 17 = .ok (.iadd, 1) := by decide +kernel
theorem dX0_coverOne_18 : decode cX0_coverOne 18 = .ok (.iconst 1, 1) := by decide +kernel
theorem dX0_coverOne_19 : decode cX0_coverOne 19 = .ok (.bastore, 1) := by decide +kernel
theorem dX0_coverOne_20 : decode cX0_coverOne 20 = .ok (.return_, 1) := by decide +kernel
theorem dX0_comesIn_0 : decode cX0_comesIn 0 = .ok (.iload_n 3, 1) := by decide +kernel
theorem dX0_comesIn_1 : decode cX0_comesIn 1 = .ok (.iload 4, 2) := by decide +kernel
theorem dX0_comesIn_3 : decode cX0_comesIn 3 = .ok (.invokestatic 25, 3) := by decide +kernel
theorem dX0_comesIn_6 : decode cX0_comesIn 6 = .ok (.ifCond .eq 18, 3) := by decide +kernel
theorem dX0_comesIn_9 : decode cX0_comesIn 9 = .ok (.aload_n 0, 1) := by decide +kernel
theorem dX0_comesIn_10 : decode cX0_comesIn 10 = .ok (.getfield 9, 3) := by decide +kernel
theorem dX0_comesIn_13 : decode cX0_comesIn 13 = .ok (.bipush 12, 2) := by decide +kernel
theorem dX0_comesIn_15 : decode cX0_comesIn 15 = .ok (.iload 4, 2) := by decide +kernel
theorem dX0_comesIn_17 : decode cX0_comesIn 17 = .ok (.imul, 1) := by decide +kernel
theorem dX0_comesIn_18 : decode cX0_comesIn 18 = .ok (.iload_n 3, 1) := by decide +kernel
theorem dX0_comesIn_19 : decode cX0_comesIn 19 = .ok (.iadd, 1) := by decide +kernel
theorem dX0_comesIn_20 : decode cX0_comesIn 20 = .ok (.baload, 1) := by decide +kernel
theorem dX0_comesIn_21 : decode cX0_comesIn 21 = .ok (.ifCond .eq 5, 3) := by decide +kernel
theorem dX0_comesIn_24 : decode cX0_comesIn 24 = .ok (.iconst 0, 1) := by decide +kernel
theorem dX0_comesIn_25 : decode cX0_comesIn 25 = .ok (.ireturn, 1) := by decide +kernel
theorem dX0_comesIn_26 : decode cX0_comesIn 26 = .ok (.iload_n 1, 1) := by decide +kernel
theorem dX0_comesIn_27 : decode cX0_comesIn 27 = .ok (.iload_n 2, 1) := by decide +kernel
theorem dX0_comesIn_28 : decode cX0_comesIn 28 = .ok (.iconst 2, 1) := by decide +kernel
theorem dX0_comesIn_29 : decode cX0_comesIn 29 = .ok (.idiv, 1) := by decide +kernel
theorem dX0_comesIn_30 : decode cX0_comesIn 30 = .ok (.iadd, 1) := by decide +kernel
theorem dX0_comesIn_31 : decode cX0_comesIn 31 = .ok (.ireturn, 1) := by decide +kernel
theorem dX0_comesInAt_0 : decode cX0_comesInAt 0 = .ok (.iconst 0, 1) := by decide +kernel
theorem dX0_comesInAt_1 : decode cX0_comesInAt 1 = .ok (.istore 4, 2) := by decide +kernel
theorem dX0_comesInAt_3 : decode cX0_comesInAt 3 = .ok (.bipush 7, 2) := by decide +kernel
theorem dX0_comesInAt_5 : decode cX0_comesInAt 5 = .ok (.istore 5, 2) := by decide +kernel
theorem dX0_comesInAt_7 : decode cX0_comesInAt 7 = .ok (.iload 5, 2) := by decide +kernel
theorem dX0_comesInAt_9 : decode cX0_comesInAt 9 = .ok (.ifCond .lt 27, 3) := by decide +kernel
theorem dX0_comesInAt_12 : decode cX0_comesInAt 12 = .ok (.iload 5, 2) := by decide +kernel
theorem dX0_comesInAt_14 : decode cX0_comesInAt 14 = .ok (.iload_n 3, 1) := by decide +kernel
theorem dX0_comesInAt_15 : decode cX0_comesInAt 15 = .ok (.if_icmp .lt 21, 3) := by decide +kernel
theorem dX0_comesInAt_18 : decode cX0_comesInAt 18 = .ok (.aload_n 0, 1) := by decide +kernel
theorem dX0_comesInAt_19 : decode cX0_comesInAt 19 = .ok (.iload_n 1, 1) := by decide +kernel
theorem dX0_comesInAt_20 : decode cX0_comesInAt 20 = .ok (.iload 4, 2) := by decide +kernel
theorem dX0_comesInAt_22 : decode cX0_comesInAt 22 = .ok (.iload_n 2, 1) := by decide +kernel
theorem dX0_comesInAt_23 : decode cX0_comesInAt 23 = .ok (.iload 5, 2) := by decide +kernel
theorem dX0_comesInAt_25 : decode cX0_comesInAt 25 = .ok (.invokevirtual 28, 3) := by decide +kernel
theorem dX0_comesInAt_28 : decode cX0_comesInAt 28 = .ok (.istore 4, 2) := by decide +kernel
theorem dX0_comesInAt_30 : decode cX0_comesInAt 30 = .ok (.iinc 5 (-1), 3) := by decide +kernel
theorem dX0_comesInAt_33 : decode cX0_comesInAt 33 = .ok (.goto (-26), 3) := by decide +kernel
theorem dX0_comesInAt_36 : decode cX0_comesInAt 36 = .ok (.iload 4, 2) := by decide +kernel
theorem dX0_comesInAt_38 : decode cX0_comesInAt 38 = .ok (.ireturn, 1) := by decide +kernel
theorem dX0_comesInAtAll_0 : decode cX0_comesInAtAll 0 = .ok (.iconst 0, 1) := by decide +kernel
theorem dX0_comesInAtAll_1 : decode cX0_comesInAtAll 1 = .ok (.istore_n 2, 1) := by decide +kernel
theorem dX0_comesInAtAll_2 : decode cX0_comesInAtAll 2 = .ok (.iconst 0, 1) := by decide +kernel
theorem dX0_comesInAtAll_3 : decode cX0_comesInAtAll 3 = .ok (.istore_n 3, 1) := by decide +kernel
theorem dX0_comesInAtAll_4 : decode cX0_comesInAtAll 4 = .ok (.iload_n 3, 1) := by decide +kernel
theorem dX0_comesInAtAll_5 : decode cX0_comesInAtAll 5 = .ok (.bipush 12, 2) := by decide +kernel
theorem dX0_comesInAtAll_7 : decode cX0_comesInAtAll 7 = .ok (.if_icmp .ge 44, 3) := by decide +kernel
theorem dX0_comesInAtAll_10 : decode cX0_comesInAtAll 10 = .ok (.iconst 0, 1) := by decide +kernel
theorem dX0_comesInAtAll_11 : decode cX0_comesInAtAll 11 = .ok (.istore 4, 2) := by decide +kernel
theorem dX0_comesInAtAll_13 : decode cX0_comesInAtAll 13 = .ok (.bipush 7, 2) := by decide +kernel
theorem dX0_comesInAtAll_15 : decode cX0_comesInAtAll 15 = .ok (.istore 5, 2) := by decide +kernel
theorem dX0_comesInAtAll_17 : decode cX0_comesInAtAll 17 = .ok (.iload 5, 2) := by decide +kernel
theorem dX0_comesInAtAll_19 : decode cX0_comesInAtAll 19 = .ok (.ifCond .lt 26, 3) := by decide +kernel
theorem dX0_comesInAtAll_22 : decode cX0_comesInAtAll 22 = .ok (.aload_n 0, 1) := by decide +kernel
theorem dX0_comesInAtAll_23 : decode cX0_comesInAtAll 23 = .ok (.iload_n 1, 1) := by decide +kernel
theorem dX0_comesInAtAll_24 : decode cX0_comesInAtAll 24 = .ok (.iload 4, 2) := by decide +kernel
theorem dX0_comesInAtAll_26 : decode cX0_comesInAtAll 26 = .ok (.iload_n 3, 1) := by decide +kernel
theorem dX0_comesInAtAll_27 : decode cX0_comesInAtAll 27 = .ok (.iload 5, 2) := by decide +kernel
theorem dX0_comesInAtAll_29 : decode cX0_comesInAtAll 29 = .ok (.invokevirtual 28, 3) := by decide +kernel
theorem dX0_comesInAtAll_32 : decode cX0_comesInAtAll 32 = .ok (.istore 4, 2) := by decide +kernel
theorem dX0_comesInAtAll_34 : decode cX0_comesInAtAll 34 = .ok (.iload_n 2, 1) := by decide +kernel
theorem dX0_comesInAtAll_35 : decode cX0_comesInAtAll 35 = .ok (.iload 4, 2) := by decide +kernel
theorem dX0_comesInAtAll_37 : decode cX0_comesInAtAll 37 = .ok (.iadd, 1) := by decide +kernel
theorem dX0_comesInAtAll_38 : decode cX0_comesInAtAll 38 = .ok (.istore_n 2, 1) := by decide +kernel
theorem dX0_comesInAtAll_39 : decode cX0_comesInAtAll 39 = .ok (.iinc 5 (-1), 3) := by decide +kernel
theorem dX0_comesInAtAll_42 : decode cX0_comesInAtAll 42 = .ok (.goto (-25), 3) := by decide +kernel
theorem dX0_comesInAtAll_45 : decode cX0_comesInAtAll 45 = .ok (.iinc 3 1, 3) := by decide +kernel
theorem dX0_comesInAtAll_48 : decode cX0_comesInAtAll 48 = .ok (.goto (-44), 3) := by decide +kernel
theorem dX0_comesInAtAll_51 : decode cX0_comesInAtAll 51 = .ok (.iload_n 2, 1) := by decide +kernel
theorem dX0_comesInAtAll_52 : decode cX0_comesInAtAll 52 = .ok (.ireturn, 1) := by decide +kernel
theorem dX1_init_0 : decode cX1_init 0 = .ok (.aload_n 0, 1) := by decide +kernel
theorem dX1_init_1 : decode cX1_init 1 = .ok (.invokespecial 3, 3) := by decide +kernel
theorem dX1_init_4 : decode cX1_init 4 = .ok (.aload_n 0, 1) := by decide +kernel
theorem dX1_init_5 : decode cX1_init 5 = .ok (.bipush 96, 2) := by decide +kernel
theorem dX1_init_7 : decode cX1_init 7 = .ok (.newarray .int, 2) := by decide +kernel
theorem dX1_init_9 : decode cX1_init 9 = .ok (.putfield 9, 3) := by decide +kernel
theorem dX1_init_12 : decode cX1_init 12 = .ok (.aload_n 0, 1) := by decide +kernel
theorem dX1_init_13 : decode cX1_init 13 = .ok (.bipush 96, 2) := by decide +kernel
theorem dX1_init_15 : decode cX1_init 15 = .ok (.newarray .int, 2) := by decide +kernel
theorem dX1_init_17 : decode cX1_init 17 = .ok (.putfield 15, 3) := by decide +kernel
theorem dX1_init_20 : decode cX1_init 20 = .ok (.aload_n 0, 1) := by decide +kernel
theorem dX1_init_21 : decode cX1_init 21 = .ok (.sipush 200, 3) := by decide +kernel
theorem dX1_init_24 : decode cX1_init 24 = .ok (.newarray .int, 2) := by decide +kernel
theorem dX1_init_26 : decode cX1_init 26 = .ok (.putfield 18, 3) := by decide +kernel
theorem dX1_init_29 : decode cX1_init 29 = .ok (.aload_n 0, 1) := by decide +kernel
theorem dX1_init_30 : decode cX1_init 30 = .ok (.sipush 200, 3) := by decide +kernel
theorem dX1_init_33 : decode cX1_init 33 = .ok (.newarray .int, 2) := by decide +kernel
theorem dX1_init_35 : decode cX1_init 35 = .ok (.putfield 21, 3) := by decide +kernel
theorem dX1_init_38 : decode cX1_init 38 = .ok (.aload_n 0, 1) := by decide +kernel
theorem dX1_init_39 : decode cX1_init 39 = .ok (.sipush 200, 3) := by decide +kernel
theorem dX1_init_42 : decode cX1_init 42 = .ok (.newarray .int, 2) := by decide +kernel
theorem dX1_init_44 : decode cX1_init 44 = .ok (.putfield 24, 3) := by decide +kernel
theorem dX1_init_47 : decode cX1_init 47 = .ok (.aload_n 0, 1) := by decide +kernel
theorem dX1_init_48 : decode cX1_init 48 = .ok (.sipush 200, 3) := by decide +kernel
theorem dX1_init_51 : decode cX1_init 51 = .ok (.newarray .int, 2) := by decide +kernel
theorem dX1_init_53 : decode cX1_init 53 = .ok (.putfield 27, 3) := by decide +kernel
theorem dX1_init_56 : decode cX1_init 56 = .ok (.aload_n 0, 1) := by decide +kernel
theorem dX1_init_57 : decode cX1_init 57 = .ok (.sipush 200, 3) := by decide +kernel
theorem dX1_init_60 : decode cX1_init 60 = .ok (.newarray .boolean, 2) := by decide +kernel
theorem dX1_init_62 : decode cX1_init 62 = .ok (.putfield 30, 3) := by decide +kernel
theorem dX1_init_65 : decode cX1_init 65 = .ok (.aload_n 0, 1) := by decide +kernel
theorem dX1_init_66 : decode cX1_init 66 = .ok (.sipush 200, 3) := by decide +kernel
theorem dX1_init_69 : decode cX1_init 69 = .ok (.newarray .boolean, 2) := by decide +kernel
theorem dX1_init_71 : decode cX1_init 71 = .ok (.putfield 34, 3) := by decide +kernel
theorem dX1_init_74 : decode cX1_init 74 = .ok (.aload_n 0, 1) := by decide +kernel
theorem dX1_init_75 : decode cX1_init 75 = .ok (.sipush 200, 3) := by decide +kernel
theorem dX1_init_78 : decode cX1_init 78 = .ok (.newarray .boolean, 2) := by decide +kernel
theorem dX1_init_80 : decode cX1_init 80 = .ok (.putfield 37, 3) := by decide +kernel
theorem dX1_init_83 : decode cX1_init 83 = .ok (.iconst 0, 1) := by decide +kernel
theorem dX1_init_84 : decode cX1_init 84 = .ok (.istore_n 1, 1) := by decide +kernel
theorem dX1_init_85 : decode cX1_init 85 = .ok (.iload_n 1, 1) := by decide +kernel
theorem dX1_init_86 : decode cX1_init 86 = .ok (.bipush 96, 2) := by decide +kernel
theorem dX1_init_88 : decode cX1_init 88 = .ok (.if_icmp .ge 16, 3) := by decide +kernel
theorem dX1_init_91 : decode cX1_init 91 = .ok (.aload_n 0, 1) := by decide +kernel
theorem dX1_init_92 : decode cX1_init 92 = .ok (.getfield 9, 3) := by decide +kernel
theorem dX1_init_95 : decode cX1_init 95 = .ok (.iload_n 1, 1) := by decide +kernel
theorem dX1_init_96 : decode cX1_init 96 = .ok (.iconst (-1), 1) := by decide +kernel
theorem dX1_init_97 : decode cX1_init 97 = .ok (.iastore, 1) := by decide +kernel
theorem dX1_init_98 : decode cX1_init 98 = .ok (.iinc 1 1, 3) := by decide +kernel
theorem dX1_init_101 : decode cX1_init 101 = .ok (.goto (-16), 3) := by decide +kernel
theorem dX1_init_104 : decode cX1_init 104 = .ok (.return_, 1) := by decide +kernel
theorem dX1_copyFrom_0 : decode cX1_copyFrom 0 = .ok (.aload_n 0, 1) := by decide +kernel
theorem dX1_copyFrom_1 : decode cX1_copyFrom 1 = .ok (.aload_n 1, 1) := by decide +kernel
theorem dX1_copyFrom_2 : decode cX1_copyFrom 2 = .ok (.getfield 40, 3) := by decide +kernel
theorem dX1_copyFrom_5 : decode cX1_copyFrom 5 = .ok (.putfield 40, 3) := by decide +kernel
theorem dX1_copyFrom_8 : decode cX1_copyFrom 8 = .ok (.aload_n 0, 1) := by decide +kernel
theorem dX1_copyFrom_9 : decode cX1_copyFrom 9 = .ok (.aload_n 1, 1) := by decide +kernel
theorem dX1_copyFrom_10 : decode cX1_copyFrom 10 = .ok (.getfield 44, 3) := by decide +kernel
theorem dX1_copyFrom_13 : decode cX1_copyFrom 13 = .ok (.putfield 44, 3) := by decide +kernel
theorem dX1_copyFrom_16 : decode cX1_copyFrom 16 = .ok (.aload_n 0, 1) := by decide +kernel
theorem dX1_copyFrom_17 : decode cX1_copyFrom 17 = .ok (.aload_n 1, 1) := by decide +kernel
theorem dX1_copyFrom_18 : decode cX1_copyFrom 18 = .ok (.getfield 47, 3) := by decide +kernel
theorem dX1_copyFrom_21 : decode cX1_copyFrom 21 = .ok (.putfield 47, 3) := by decide +kernel
theorem dX1_copyFrom_24 : decode cX1_copyFrom 24 = .ok (.aload_n 0, 1) := by decide +kernel
theorem dX1_copyFrom_25 : decode cX1_copyFrom 25 = .ok (.aload_n 1, 1) := by decide +kernel
theorem dX1_copyFrom_26 : decode cX1_copyFrom 26 = .ok (.getfield 50, 3) := by decide +kernel
theorem dX1_copyFrom_29 : decode cX1_copyFrom 29 = .ok (.putfield 50, 3) := by decide +kernel
theorem dX1_copyFrom_32 : decode cX1_copyFrom 32 = .ok (.iconst 0, 1) := by decide +kernel
theorem dX1_copyFrom_33 : decode cX1_copyFrom 33 = .ok (.istore_n 2, 1) := by decide +kernel
theorem dX1_copyFrom_34 : decode cX1_copyFrom 34 = .ok (.iload_n 2, 1) := by decide +kernel
theorem dX1_copyFrom_35 : decode cX1_copyFrom 35 = .ok (.bipush 96, 2) := by decide +kernel
theorem dX1_copyFrom_37 : decode cX1_copyFrom 37 = .ok (.if_icmp .ge 33, 3) := by decide +kernel
theorem dX1_copyFrom_40 : decode cX1_copyFrom 40 = .ok (.aload_n 0, 1) := by decide +kernel
theorem dX1_copyFrom_41 : decode cX1_copyFrom 41 = .ok (.getfield 9, 3) := by decide +kernel
theorem dX1_copyFrom_44 : decode cX1_copyFrom 44 = .ok (.iload_n 2, 1) := by decide +kernel
theorem dX1_copyFrom_45 : decode cX1_copyFrom 45 = .ok (.aload_n 1, 1) := by decide +kernel
theorem dX1_copyFrom_46 : decode cX1_copyFrom 46 = .ok (.getfield 9, 3) := by decide +kernel
theorem dX1_copyFrom_49 : decode cX1_copyFrom 49 = .ok (.iload_n 2, 1) := by decide +kernel
theorem dX1_copyFrom_50 : decode cX1_copyFrom 50 = .ok (.iaload, 1) := by decide +kernel
theorem dX1_copyFrom_51 : decode cX1_copyFrom 51 = .ok (.iastore, 1) := by decide +kernel
theorem dX1_copyFrom_52 : decode cX1_copyFrom 52 = .ok (.aload_n 0, 1) := by decide +kernel
theorem dX1_copyFrom_53 : decode cX1_copyFrom 53 = .ok (.getfield 15, 3) := by decide +kernel
theorem dX1_copyFrom_56 : decode cX1_copyFrom 56 = .ok (.iload_n 2, 1) := by decide +kernel
theorem dX1_copyFrom_57 : decode cX1_copyFrom 57 = .ok (.aload_n 1, 1) := by decide +kernel
theorem dX1_copyFrom_58 : decode cX1_copyFrom 58 = .ok (.getfield 15, 3) := by decide +kernel
theorem dX1_copyFrom_61 : decode cX1_copyFrom 61 = .ok (.iload_n 2, 1) := by decide +kernel
theorem dX1_copyFrom_62 : decode cX1_copyFrom 62 = .ok (.iaload, 1) := by decide +kernel
theorem dX1_copyFrom_63 : decode cX1_copyFrom 63 = .ok (.iastore, 1) := by decide +kernel
theorem dX1_copyFrom_64 : decode cX1_copyFrom 64 = .ok (.iinc 2 1, 3) := by decide +kernel
theorem dX1_copyFrom_67 : decode cX1_copyFrom 67 = .ok (.goto (-33), 3) := by decide +kernel
theorem dX1_copyFrom_70 : decode cX1_copyFrom 70 = .ok (.iconst 0, 1) := by decide +kernel
theorem dX1_copyFrom_71 : decode cX1_copyFrom 71 = .ok (.istore_n 2, 1) := by decide +kernel
theorem dX1_copyFrom_72 : decode cX1_copyFrom 72 = .ok (.iload_n 2, 1) := by decide +kernel
theorem dX1_copyFrom_73 : decode cX1_copyFrom 73 = .ok (.sipush 200, 3) := by decide +kernel
theorem dX1_copyFrom_76 : decode cX1_copyFrom 76 = .ok (.if_icmp .ge 81, 3) := by decide +kernel
theorem dX1_copyFrom_79 : decode cX1_copyFrom 79 = .ok (.aload_n 0, 1) := by decide +kernel
theorem dX1_copyFrom_80 : decode cX1_copyFrom 80 = .ok (.getfield 18, 3) := by decide +kernel
theorem dX1_copyFrom_83 : decode cX1_copyFrom 83 = .ok (.iload_n 2, 1) := by decide +kernel
theorem dX1_copyFrom_84 : decode cX1_copyFrom 84 = .ok (.aload_n 1, 1) := by decide +kernel
theorem dX1_copyFrom_85 : decode cX1_copyFrom 85 = .ok (.getfield 18, 3) := by decide +kernel
theorem dX1_copyFrom_88 : decode cX1_copyFrom 88 = .ok (.iload_n 2, 1) := by decide +kernel
theorem dX1_copyFrom_89 : decode cX1_copyFrom 89 = .ok (.iaload, 1) := by decide +kernel
theorem dX1_copyFrom_90 : decode cX1_copyFrom 90 = .ok (.iastore, 1) := by decide +kernel
theorem dX1_copyFrom_91 : decode cX1_copyFrom 91 = .ok (.aload_n 0, 1) := by decide +kernel
theorem dX1_copyFrom_92 : decode cX1_copyFrom 92 = .ok (.getfield 21, 3) := by decide +kernel
theorem dX1_copyFrom_95 : decode cX1_copyFrom 95 = .ok (.iload_n 2, 1) := by decide +kernel
theorem dX1_copyFrom_96 : decode cX1_copyFrom 96 = .ok (.aload_n 1, 1) := by decide +kernel
theorem dX1_copyFrom_97 : decode cX1_copyFrom 97 = .ok (.getfield 21, 3) := by decide +kernel
theorem dX1_copyFrom_100 : decode cX1_copyFrom 100 = .ok (.iload_n 2, 1) := by decide +kernel
theorem dX1_copyFrom_101 : decode cX1_copyFrom 101 = .ok (.iaload, 1) := by decide +kernel
theorem dX1_copyFrom_102 : decode cX1_copyFrom 102 = .ok (.iastore, 1) := by decide +kernel
theorem dX1_copyFrom_103 : decode cX1_copyFrom 103 = .ok (.aload_n 0, 1) := by decide +kernel
theorem dX1_copyFrom_104 : decode cX1_copyFrom 104 = .ok (.getfield 24, 3) := by decide +kernel
theorem dX1_copyFrom_107 : decode cX1_copyFrom 107 = .ok (.iload_n 2, 1) := by decide +kernel
theorem dX1_copyFrom_108 : decode cX1_copyFrom 108 = .ok (.aload_n 1, 1) := by decide +kernel
theorem dX1_copyFrom_109 : decode cX1_copyFrom 109 = .ok (.getfield 24, 3) := by decide +kernel
theorem dX1_copyFrom_112 : decode cX1_copyFrom 112 = .ok (.iload_n 2, 1) := by decide +kernel
theorem dX1_copyFrom_113 : decode cX1_copyFrom 113 = .ok (.iaload, 1) := by decide +kernel
theorem dX1_copyFrom_114 : decode cX1_copyFrom 114 = .ok (.iastore, 1) := by decide +kernel
theorem dX1_copyFrom_115 : decode cX1_copyFrom 115 = .ok (.aload_n 0, 1) := by decide +kernel
theorem dX1_copyFrom_116 : decode cX1_copyFrom 116 = .ok (.getfield 27, 3) := by decide +kernel
theorem dX1_copyFrom_119 : decode cX1_copyFrom 119 = .ok (.iload_n 2, 1) := by decide +kernel
theorem dX1_copyFrom_120 : decode cX1_copyFrom 120 = .ok (.aload_n 1, 1) := by decide +kernel
theorem dX1_copyFrom_121 : decode cX1_copyFrom 121 = .ok (.getfield 27, 3) := by decide +kernel
theorem dX1_copyFrom_124 : decode cX1_copyFrom 124 = .ok (.iload_n 2, 1) := by decide +kernel
theorem dX1_copyFrom_125 : decode cX1_copyFrom 125 = .ok (.iaload, 1) := by decide +kernel
theorem dX1_copyFrom_126 : decode cX1_copyFrom 126 = .ok (.iastore, 1) := by decide +kernel
theorem dX1_copyFrom_127 : decode cX1_copyFrom 127 = .ok (.aload_n 0, 1) := by decide +kernel
theorem dX1_copyFrom_128 : decode cX1_copyFrom 128 = .ok (.getfield 30, 3) := by decide +kernel
theorem dX1_copyFrom_131 : decode cX1_copyFrom 131 = .ok (.iload_n 2, 1) := by decide +kernel
theorem dX1_copyFrom_132 : decode cX1_copyFrom 132 = .ok (.aload_n 1, 1) := by decide +kernel
theorem dX1_copyFrom_133 : decode cX1_copyFrom 133 = .ok (.getfield 30, 3) := by decide +kernel
theorem dX1_copyFrom_136 : decode cX1_copyFrom 136 = .ok (.iload_n 2, 1) := by decide +kernel
theorem dX1_copyFrom_137 : decode cX1_copyFrom 137 = .ok (.baload, 1) := by decide +kernel
theorem dX1_copyFrom_138 : decode cX1_copyFrom 138 = .ok (.bastore, 1) := by decide +kernel
theorem dX1_copyFrom_139 : decode cX1_copyFrom 139 = .ok (.aload_n 0, 1) := by decide +kernel
theorem dX1_copyFrom_140 : decode cX1_copyFrom 140 = .ok (.getfield 34, 3) := by decide +kernel
theorem dX1_copyFrom_143 : decode cX1_copyFrom 143 = .ok (.iload_n 2, 1) := by decide +kernel
theorem dX1_copyFrom_144 : decode cX1_copyFrom 144 = .ok (.aload_n 1, 1) := by decide +kernel
theorem dX1_copyFrom_145 : decode cX1_copyFrom 145 = .ok (.getfield 34, 3) := by decide +kernel
theorem dX1_copyFrom_148 : decode cX1_copyFrom 148 = .ok (.iload_n 2, 1) := by decide +kernel
theorem dX1_copyFrom_149 : decode cX1_copyFrom 149 = .ok (.baload, 1) := by decide +kernel
theorem dX1_copyFrom_150 : decode cX1_copyFrom 150 = .ok (.bastore, 1) := by decide +kernel
theorem dX1_copyFrom_151 : decode cX1_copyFrom 151 = .ok (.iinc 2 1, 3) := by decide +kernel
theorem dX1_copyFrom_154 : decode cX1_copyFrom 154 = .ok (.goto (-82), 3) := by decide +kernel
theorem dX1_copyFrom_157 : decode cX1_copyFrom 157 = .ok (.return_, 1) := by decide +kernel
theorem dX1_isKnown_0 : decode cX1_isKnown 0 = .ok (.iload_n 1, 1) := by decide +kernel
theorem dX1_isKnown_1 : decode cX1_isKnown 1 = .ok (.ifCond .lt 22, 3) := by decide +kernel
theorem dX1_isKnown_4 : decode cX1_isKnown 4 = .ok (.iload_n 1, 1) := by decide +kernel
theorem dX1_isKnown_5 : decode cX1_isKnown 5 = .ok (.aload_n 0, 1) := by decide +kernel
theorem dX1_isKnown_6 : decode cX1_isKnown 6 = .ok (.getfield 44, 3) := by decide +kernel
theorem dX1_isKnown_9 : decode cX1_isKnown 9 = .ok (.if_icmp .ge 14, 3) := by decide +kernel
theorem dX1_isKnown_12 : decode cX1_isKnown 12 = .ok (.iload_n 1, 1) := by decide +kernel
theorem dX1_isKnown_13 : decode cX1_isKnown 13 = .ok (.sipush 200, 3) := by decide +kernel
theorem dX1_isKnown_16 : decode cX1_isKnown 16 = .ok (.if_icmp .ge 7, 3) := by decide +kernel
theorem dX1_isKnown_19 : decode cX1_isKnown 19 = .ok (.iconst 1, 1) := by decide +kernel
theorem dX1_isKnown_20 : decode cX1_isKnown 20 = .ok (.goto 4, 3) := by decide +kernel
theorem dX1_isKnown_23 : decode cX1_isKnown 23 = .ok (.iconst 0, 1) := by decide +kernel
theorem dX1_isKnown_24 : decode cX1_isKnown 24 = .ok (.ireturn, 1) := by decide +kernel
theorem dX1_isThere_0 : decode cX1_isThere 0 = .ok (.iload_n 1, 1) := by decide +kernel
theorem dX1_isThere_1 : decode cX1_isThere 1 = .ok (.ifCond .lt 31, 3) := by decide +kernel
theorem dX1_isThere_4 : decode cX1_isThere 4 = .ok (.iload_n 1, 1) := by decide +kernel
theorem dX1_isThere_5 : decode cX1_isThere 5 = .ok (.aload_n 0, 1) := by decide +kernel
theorem dX1_isThere_6 : decode cX1_isThere 6 = .ok (.getfield 44, 3) := by decide +kernel
theorem dX1_isThere_9 : decode cX1_isThere 9 = .ok (.if_icmp .ge 23, 3) := by decide +kernel
theorem dX1_isThere_12 : decode cX1_isThere 12 = .ok (.iload_n 1, 1) := by decide +kernel
theorem dX1_isThere_13 : decode cX1_isThere 13 = .ok (.sipush 200, 3) := by decide +kernel
theorem dX1_isThere_16 : decode cX1_isThere 16 = .ok (.if_icmp .ge 16, 3) := by decide +kernel
theorem dX1_isThere_19 : decode cX1_isThere 19 = .ok (.aload_n 0, 1) := by decide +kernel
theorem dX1_isThere_20 : decode cX1_isThere 20 = .ok (.getfield 34, 3) := by decide +kernel
theorem dX1_isThere_23 : decode cX1_isThere 23 = .ok (.iload_n 1, 1) := by decide +kernel
theorem dX1_isThere_24 : decode cX1_isThere 24 = .ok (.baload, 1) := by decide +kernel
theorem dX1_isThere_25 : decode cX1_isThere 25 = .ok (.ifCond .eq 7, 3) := by decide +kernel
theorem dX1_isThere_28 : decode cX1_isThere 28 = .ok (.iconst 1, 1) := by decide +kernel
theorem dX1_isThere_29 : decode cX1_isThere 29 = .ok (.goto 4, 3) := by decide +kernel
theorem dX1_isThere_32 : decode cX1_isThere 32 = .ok (.iconst 0, 1) := by decide +kernel
theorem dX1_isThere_33 : decode cX1_isThere 33 = .ok (.ireturn, 1) := by decide +kernel
theorem dX1_isOpen_0 : decode cX1_isOpen 0 = .ok (.aload_n 0, 1) := by decide +kernel
theorem dX1_isOpen_1 : decode cX1_isOpen 1 = .ok (.iload_n 1, 1) := by decide +kernel
theorem dX1_isOpen_2 : decode cX1_isOpen 2 = .ok (.invokevirtual 53, 3) := by decide +kernel
theorem dX1_isOpen_5 : decode cX1_isOpen 5 = .ok (.ifCond .eq 15, 3) := by decide +kernel
theorem dX1_isOpen_8 : decode cX1_isOpen 8 = .ok (.aload_n 0, 1) := by decide +kernel
theorem dX1_isOpen_9 : decode cX1_isOpen 9 = .ok (.iload_n 1, 1) := by decide +kernel
theorem dX1_isOpen_10 : decode cX1_isOpen 10 = .ok (.invokevirtual 57, 3) := by decide +kernel
theorem dX1_isOpen_13 : decode cX1_isOpen 13 = .ok (.ifCond .ne 7, 3) := by decide +kernel
theorem dX1_isOpen_16 : decode cX1_isOpen 16 = .ok (.iconst 1, 1) := by decide +kernel
theorem dX1_isOpen_17 : decode cX1_isOpen 17 = .ok (.goto 4, 3) := by decide +kernel
theorem dX1_isOpen_20 : decode cX1_isOpen 20 = .ok (.iconst 0, 1) := by decide +kernel
theorem dX1_isOpen_21 : decode cX1_isOpen 21 = .ok (.ireturn, 1) := by decide +kernel
theorem dX1_numberAt_0 : decode cX1_numberAt 0 = .ok (.iload_n 1, 1) := by decide +kernel
theorem dX1_numberAt_1 : decode cX1_numberAt 1 = .ok (.ifCond .lt 19, 3) := by decide +kernel
theorem dX1_numberAt_4 : decode cX1_numberAt 4 = .ok (.iload_n 1, 1) := by decide +kernel
theorem dX1_numberAt_5 : decode cX1_numberAt 5 = .ok (.bipush 12, 2) := by decide +kernel
theorem dX1_numberAt_7 : decode cX1_numberAt 7 = .ok (.if_icmp .ge 13, 3) := by decide +kernel
theorem dX1_numberAt_10 : decode cX1_numberAt 10 = .ok (.iload_n 2, 1) := by decide +kernel
theorem dX1_numberAt_11 : decode cX1_numberAt 11 = .ok (.ifCond .lt 9, 3) := by decide +kernel
theorem dX1_numberAt_14 : decode cX1_numberAt 14 = .ok (.iload_n 2, 1) := by decide +kernel
theorem dX1_numberAt_15 : decode cX1_numberAt 15 = .ok (.bipush 8, 2) := by decide +kernel
theorem dX1_numberAt_17 : decode cX1_numberAt 17 = .ok (.if_icmp .lt 5, 3) := by decide +kernel
theorem dX1_numberAt_20 : decode cX1_numberAt 20 = .ok (.iconst (-1), 1) := by decide +kernel
theorem dX1_numberAt_21 : decode cX1_numberAt 21 = .ok (.ireturn, 1) := by decide +kernel
theorem dX1_numberAt_22 : decode cX1_numberAt 22 = .ok (.aload_n 0, 1) := by decide +kernel
theorem dX1_numberAt_23 : decode cX1_numberAt 23 = .ok (.getfield 9, 3) := by decide +kernel
theorem dX1_numberAt_26 : decode cX1_numberAt 26 = .ok (.bipush 12, 2) := by decide +kernel
theorem dX1_numberAt_28 : decode cX1_numberAt 28 = .ok (.iload_n 2, 1) := by decide +kernel
theorem dX1_numberAt_29 : decode cX1_numberAt 29 = .ok (.imul, 1) := by decide +kernel
theorem dX1_numberAt_30 : decode cX1_numberAt 30 = .ok (.iload_n 1, 1) := by decide +kernel
theorem dX1_numberAt_31 : decode cX1_numberAt 31 = .ok (.iadd, 1) := by decide +kernel
theorem dX1_numberAt_32 : decode cX1_numberAt 32 = .ok (.iaload, 1) := by decide +kernel
theorem dX1_numberAt_33 : decode cX1_numberAt 33 = .ok (.ireturn, 1) := by decide +kernel
theorem dX1_rotAt_0 : decode cX1_rotAt 0 = .ok (.iload_n 1, 1) := by decide +kernel
theorem dX1_rotAt_1 : decode cX1_rotAt 1 = .ok (.ifCond .lt 19, 3) := by decide +kernel
theorem dX1_rotAt_4 : decode cX1_rotAt 4 = .ok (.iload_n 1, 1) := by decide +kernel
theorem dX1_rotAt_5 : decode cX1_rotAt 5 = .ok (.bipush 12, 2) := by decide +kernel
theorem dX1_rotAt_7 : decode cX1_rotAt 7 = .ok (.if_icmp .ge 13, 3) := by decide +kernel
theorem dX1_rotAt_10 : decode cX1_rotAt 10 = .ok (.iload_n 2, 1) := by decide +kernel
theorem dX1_rotAt_11 : decode cX1_rotAt 11 = .ok (.ifCond .lt 9, 3) := by decide +kernel
theorem dX1_rotAt_14 : decode cX1_rotAt 14 = .ok (.iload_n 2, 1) := by decide +kernel
theorem dX1_rotAt_15 : decode cX1_rotAt 15 = .ok (.bipush 8, 2) := by decide +kernel
theorem dX1_rotAt_17 : decode cX1_rotAt 17 = .ok (.if_icmp .lt 5, 3) := by decide +kernel
theorem dX1_rotAt_20 : decode cX1_rotAt 20 = .ok (.iconst 0, 1) := by decide +kernel
theorem dX1_rotAt_21 : decode cX1_rotAt 21 = .ok (.ireturn, 1) := by decide +kernel
theorem dX1_rotAt_22 : decode cX1_rotAt 22 = .ok (.aload_n 0, 1) := by decide +kernel
theorem dX1_rotAt_23 : decode cX1_rotAt 23 = .ok (.getfield 15, 3) := by decide +kernel
theorem dX1_rotAt_26 : decode cX1_rotAt 26 = .ok (.bipush 12, 2) := by decide +kernel
theorem dX1_rotAt_28 : decode cX1_rotAt 28 = .ok (.iload_n 2, 1) := by decide +kernel
theorem dX1_rotAt_29 : decode cX1_rotAt 29 = .ok (.imul, 1) := by decide +kernel
theorem dX1_rotAt_30 : decode cX1_rotAt 30 = .ok (.iload_n 1, 1) := by decide +kernel
theorem dX1_rotAt_31 : decode cX1_rotAt 31 = .ok (.iadd, 1) := by decide +kernel
theorem dX1_rotAt_32 : decode cX1_rotAt 32 = .ok (.iaload, 1) := by decide +kernel
theorem dX1_rotAt_33 : decode cX1_rotAt 33 = .ok (.ireturn, 1) := by decide +kernel
theorem dX1_setNumbers_0 : decode cX1_setNumbers 0 = .ok (.iload_n 2, 1) := by decide +kernel
theorem dX1_setNumbers_1 : decode cX1_setNumbers 1 = .ok (.istore 5, 2) := by decide +kernel
theorem dX1_setNumbers_3 : decode cX1_setNumbers 3 = .ok (.iload 5, 2) := by decide +kernel
theorem dX1_setNumbers_5 : decode cX1_setNumbers 5 = .ok (.iload_n 2, 1) := by decide +kernel
theorem dX1_setNumbers_6 : decode cX1_setNumbers 6 = .ok (.iload_n 3, 1) := by decide +kernel
theorem dX1_setNumbers_7 : decode cX1_setNumbers 7 = .ok (.iadd, 1) := by decide +kernel
theorem dX1_setNumbers_8 : decode cX1_setNumbers 8 = .ok (.if_icmp .ge 32, 3) := by decide +kernel
theorem dX1_setNumbers_11 : decode cX1_setNumbers 11 = .ok (.iload 5, 2) := by decide +kernel
theorem dX1_setNumbers_13 : decode cX1_setNumbers 13 = .ok (.iload_n 1, 1) := by decide +kernel
theorem dX1_setNumbers_14 : decode cX1_setNumbers 14 = .ok (.invokestatic 61, 3) := by decide +kernel
theorem dX1_setNumbers_17 : decode cX1_setNumbers 17 = .ok (.ifCond .eq 17, 3) := by decide +kernel
theorem dX1_setNumbers_20 : decode cX1_setNumbers 20 = .ok (.aload_n 0, 1) := by decide +kernel
theorem dX1_setNumbers_21 : decode cX1_setNumbers 21 = .ok (.getfield 9, 3) := by decide +kernel
theorem dX1_setNumbers_24 : decode cX1_setNumbers 24 = .ok (.bipush 12, 2) := by decide +kernel
theorem dX1_setNumbers_26 : decode cX1_setNumbers 26 = .ok (.iload_n 1, 1) := by decide +kernel
theorem dX1_setNumbers_27 : decode cX1_setNumbers 27 = .ok (.imul, 1) := by decide +kernel
theorem dX1_setNumbers_28 : decode cX1_setNumbers 28 = .ok (.iload 5, 2) := by decide +kernel
theorem dX1_setNumbers_30 : decode cX1_setNumbers 30 = .ok (.iadd, 1) := by decide +kernel
theorem dX1_setNumbers_31 : decode cX1_setNumbers 31 = .ok (.iload 4, 2) := by decide +kernel
theorem dX1_setNumbers_33 : decode cX1_setNumbers 33 = .ok (.iastore, 1) := by decide +kernel
theorem dX1_setNumbers_34 : decode cX1_setNumbers 34 = .ok (.iinc 5 1, 3) := by decide +kernel
theorem dX1_setNumbers_37 : decode cX1_setNumbers 37 = .ok (.goto (-34), 3) := by decide +kernel
theorem dX1_setNumbers_40 : decode cX1_setNumbers 40 = .ok (.return_, 1) := by decide +kernel
theorem dX1_setRot_0 : decode cX1_setRot 0 = .ok (.iload_n 1, 1) := by decide +kernel
theorem dX1_setRot_1 : decode cX1_setRot 1 = .ok (.iload_n 2, 1) := by decide +kernel
theorem dX1_setRot_2 : decode cX1_setRot 2 = .ok (.invokestatic 61, 3) := by decide +kernel
theorem dX1_setRot_5 : decode cX1_setRot 5 = .ok (.ifCond .eq 15, 3) := by decide +kernel
theorem dX1_setRot_8 : decode cX1_setRot 8 = .ok (.aload_n 0, 1) := by decide +kernel
theorem dX1_setRot_9 : decode cX1_setRot 9 = .ok (.getfield 15, 3) := by decide +kernel
theorem dX1_setRot_12 : decode cX1_setRot 12 = .ok (.bipush 12, 2) := by decide +kernel
theorem dX1_setRot_14 : decode cX1_setRot 14 = .ok (.iload_n 2, 1) := by decide +kernel
theorem dX1_setRot_15 : decode cX1_setRot 15 = .ok (.imul, 1) := by decide +kernel
theorem dX1_setRot_16 : decode cX1_setRot 16 = .ok (.iload_n 1, 1) := by decide +kernel
theorem dX1_setRot_17 : decode cX1_setRot 17 = .ok (.iadd, 1) := by decide +kernel
theorem dX1_setRot_18 : decode cX1_setRot 18 = .ok (.iload_n 3, 1) := by decide +kernel
theorem dX1_setRot_19 : decode cX1_setRot 19 = .ok (.iastore, 1) := by decide +kernel
theorem dX1_setRot_20 : decode cX1_setRot 20 = .ok (.return_, 1) := by decide +kernel
theorem dX1_nailsOf_0 : decode cX1_nailsOf 0 = .ok (.aload_n 0, 1) := by decide +kernel
theorem dX1_nailsOf_1 : decode cX1_nailsOf 1 = .ok (.iload_n 1, 1) := by decide +kernel
theorem dX1_nailsOf_2 : decode cX1_nailsOf 2 = .ok (.invokevirtual 65, 3) := by decide +kernel
theorem dX1_nailsOf_5 : decode cX1_nailsOf 5 = .ok (.ifCond .eq 12, 3) := by decide +kernel
theorem dX1_nailsOf_8 : decode cX1_nailsOf 8 = .ok (.aload_n 0, 1) := by decide +kernel
theorem dX1_nailsOf_9 : decode cX1_nailsOf 9 = .ok (.getfield 27, 3) := by decide +kernel
theorem dX1_nailsOf_12 : decode cX1_nailsOf 12 = .ok (.iload_n 1, 1) := by decide +kernel
theorem dX1_nailsOf_13 : decode cX1_nailsOf 13 = .ok (.iaload, 1) := by decide +kernel
theorem dX1_nailsOf_14 : decode cX1_nailsOf 14 = .ok (.goto 4, 3) := by decide +kernel
theorem dX1_nailsOf_17 : decode cX1_nailsOf 17 = .ok (.iconst 0, 1) := by decide +kernel
theorem dX1_nailsOf_18 : decode cX1_nailsOf 18 = .ok (.ireturn, 1) := by decide +kernel
theorem dX1_setNails_0 : decode cX1_setNails 0 = .ok (.aload_n 0, 1) := by decide +kernel
theorem dX1_setNails_1 : decode cX1_setNails 1 = .ok (.iload_n 1, 1) := by decide +kernel
theorem dX1_setNails_2 : decode cX1_setNails 2 = .ok (.invokevirtual 65, 3) := by decide +kernel
theorem dX1_setNails_5 : decode cX1_setNails 5 = .ok (.ifCond .eq 10, 3) := by decide +kernel
theorem dX1_setNails_8 : decode cX1_setNails 8 = .ok (.aload_n 0, 1) := by decide +kernel
theorem dX1_setNails_9 : decode cX1_setNails 9 = .ok (.getfield 27, 3) := by decide +kernel
theorem dX1_setNails_12 : decode cX1_setNails 12 = .ok (.iload_n 1, 1) := by decide +kernel
theorem dX1_setNails_13 : decode cX1_setNails 13 = .ok (.iload_n 2, 1) := by decide +kernel
theorem dX1_setNails_14 : decode cX1_setNails 14 = .ok (.iastore, 1) := by decide +kernel
theorem dX1_setNails_15 : decode cX1_setNails 15 = .ok (.return_, 1) := by decide +kernel
theorem dX1_isFree_0 : decode cX1_isFree 0 = .ok (.iload_n 2, 1) := by decide +kernel
theorem dX1_isFree_1 : decode cX1_isFree 1 = .ok (.istore 4, 2) := by decide +kernel
theorem dX1_isFree_3 : decode cX1_isFree 3 = .ok (.iload 4, 2) := by decide +kernel
theorem dX1_isFree_5 : decode cX1_isFree 5 = .ok (.iload_n 2, 1) := by decide +kernel
theorem dX1_isFree_6 : decode cX1_isFree 6 = .ok (.iload_n 3, 1) := by decide +kernel
theorem dX1_isFree_7 : decode cX1_isFree 7 = .ok (.iadd, 1) := by decide +kernel
theorem dX1_isFree_8 : decode cX1_isFree 8 = .ok (.if_icmp .ge 35, 3) := by decide +kernel
theorem dX1_isFree_11 : decode cX1_isFree 11 = .ok (.aload_n 0, 1) := by decide +kernel
theorem dX1_isFree_12 : decode cX1_isFree 12 = .ok (.iload 4, 2) := by decide +kernel
theorem dX1_isFree_14 : decode cX1_isFree 14 = .ok (.iload_n 1, 1) := by decide +kernel
theorem dX1_isFree_15 : decode cX1_isFree 15 = .ok (.invokevirtual 68, 3) := by decide +kernel
theorem dX1_isFree_18 : decode cX1_isFree 18 = .ok (.iconst (-1), 1) := by decide +kernel
theorem dX1_isFree_19 : decode cX1_isFree 19 = .ok (.if_icmp .ne 16, 3) := by decide +kernel
theorem dX1_isFree_22 : decode cX1_isFree 22 = .ok (.aload_n 0, 1) := by decide +kernel
theorem dX1_isFree_23 : decode cX1_isFree 23 = .ok (.iload 4, 2) := by decide +kernel
theorem dX1_isFree_25 : decode cX1_isFree 25 = .ok (.iload_n 1, 1) := by decide +kernel
theorem dX1_isFree_26 : decode cX1_isFree 26 = .ok (.iconst 1, 1) := by decide +kernel
theorem dX1_isFree_27 : decode cX1_isFree 27 = .ok (.iadd, 1) := by decide +kernel
theorem dX1_isFree_28 : decode cX1_isFree 28 = .ok (.invokevirtual 68, 3) := by decide +kernel
theorem dX1_isFree_31 : decode cX1_isFree 31 = .ok (.iconst (-1), 1) := by decide +kernel
theorem dX1_isFree_32 : decode cX1_isFree 32 = .ok (.if_icmp .eq 5, 3) := by decide +kernel
theorem dX1_isFree_35 : decode cX1_isFree 35 = .ok (.iconst 0, 1) := by decide +kernel
theorem dX1_isFree_36 : decode cX1_isFree 36 = .ok (.ireturn, 1) := by decide +kernel
theorem dX1_isFree_37 : decode cX1_isFree 37 = .ok (.iinc 4 1, 3) := by decide +kernel
theorem dX1_isFree_40 : decode cX1_isFree 40 = .ok (.goto (-37), 3) := by decide +kernel
theorem dX1_isFree_43 : decode cX1_isFree 43 = .ok (.iconst 1, 1) := by decide +kernel
theorem dX1_isFree_44 : decode cX1_isFree 44 = .ok (.ireturn, 1) := by decide +kernel
theorem dX1_add_0 : decode cX1_add 0 = .ok (.aload_n 0, 1) := by decide +kernel
theorem dX1_add_1 : decode cX1_add 1 = .ok (.getfield 44, 3) := by decide +kernel
theorem dX1_add_4 : decode cX1_add 4 = .ok (.istore 5, 2) := by decide +kernel
theorem dX1_add_6 : decode cX1_add 6 = .ok (.iload 5, 2) := by decide +kernel
theorem dX1_add_8 : decode cX1_add 8 = .ok (.ifCond .lt 11, 3) := by decide +kernel
theorem dX1_add_11 : decode cX1_add 11 = .ok (.iload 5, 2) := by decide +kernel
theorem dX1_add_13 : decode cX1_add 13 = .ok (.sipush 200, 3) := by decide +kernel
theorem dX1_add_16 : decode cX1_add 16 = .ok (.if_icmp .lt 5, 3) := by decide +kernel
theorem dX1_add_19 : decode cX1_add 19 = .ok (.iconst (-1), 1) := by decide +kernel
theorem dX1_add_20 : decode cX1_add 20 = .ok (.ireturn, 1) := by decide +kernel
theorem dX1_add_21 : decode cX1_add 21 = .ok (.aload_n 0, 1) := by decide +kernel
theorem dX1_add_22 : decode cX1_add 22 = .ok (.getfield 18, 3) := by decide +kernel
theorem dX1_add_25 : decode cX1_add 25 = .ok (.iload 5, 2) := by decide +kernel
theorem dX1_add_27 : decode cX1_add 27 = .ok (.iload_n 1, 1) := by decide +kernel
theorem dX1_add_28 : decode cX1_add 28 = .ok (.iastore, 1) := by decide +kernel
theorem dX1_add_29 : decode cX1_add 29 = .ok (.aload_n 0, 1) := by decide +kernel
theorem dX1_add_30 : decode cX1_add 30 = .ok (.getfield 21, 3) := by decide +kernel
theorem dX1_add_33 : decode cX1_add 33 = .ok (.iload 5, 2) := by decide +kernel
theorem dX1_add_35 : decode cX1_add 35 = .ok (.iload_n 2, 1) := by decide +kernel
theorem dX1_add_36 : decode cX1_add 36 = .ok (.iastore, 1) := by decide +kernel
theorem dX1_add_37 : decode cX1_add 37 = .ok (.aload_n 0, 1) := by decide +kernel
theorem dX1_add_38 : decode cX1_add 38 = .ok (.getfield 24, 3) := by decide +kernel
theorem dX1_add_41 : decode cX1_add 41 = .ok (.iload 5, 2) := by decide +kernel
theorem dX1_add_43 : decode cX1_add 43 = .ok (.iload_n 3, 1) := by decide +kernel
theorem dX1_add_44 : decode cX1_add 44 = .ok (.iastore, 1) := by decide +kernel
theorem dX1_add_45 : decode cX1_add 45 = .ok (.aload_n 0, 1) := by decide +kernel
theorem dX1_add_46 : decode cX1_add 46 = .ok (.getfield 27, 3) := by decide +kernel
theorem dX1_add_49 : decode cX1_add 49 = .ok (.iload 5, 2) := by decide +kernel
theorem dX1_add_51 : decode cX1_add 51 = .ok (.iload 4, 2) := by decide +kernel
theorem dX1_add_53 : decode cX1_add 53 = .ok (.iastore, 1) := by decide +kernel
theorem dX1_add_54 : decode cX1_add 54 = .ok (.aload_n 0, 1) := by decide +kernel
theorem dX1_add_55 : decode cX1_add 55 = .ok (.getfield 30, 3) := by decide +kernel
theorem dX1_add_58 : decode cX1_add 58 = .ok (.iload 5, 2) := by decide +kernel
theorem dX1_add_60 : decode cX1_add 60 = .ok (.iconst 0, 1) := by decide +kernel
theorem dX1_add_61 : decode cX1_add 61 = .ok (.bastore, 1) := by decide +kernel
theorem dX1_add_62 : decode cX1_add 62 = .ok (.aload_n 0, 1) := by decide +kernel
theorem dX1_add_63 : decode cX1_add 63 = .ok (.getfield 34, 3) := by decide +kernel
theorem dX1_add_66 : decode cX1_add 66 = .ok (.iload 5, 2) := by decide +kernel
theorem dX1_add_68 : decode cX1_add 68 = .ok (.iconst 1, 1) := by decide +kernel
theorem dX1_add_69 : decode cX1_add 69 = .ok (.bastore, 1) := by decide +kernel
theorem dX1_add_70 : decode cX1_add 70 = .ok (.aload_n 0, 1) := by decide +kernel
theorem dX1_add_71 : decode cX1_add 71 = .ok (.iload_n 1, 1) := by decide +kernel
theorem dX1_add_72 : decode cX1_add 72 = .ok (.iload_n 2, 1) := by decide +kernel
theorem dX1_add_73 : decode cX1_add 73 = .ok (.iload_n 3, 1) := by decide +kernel
theorem dX1_add_74 : decode cX1_add 74 = .ok (.iload 5, 2) := by decide +kernel
theorem dX1_add_76 : decode cX1_add 76 = .ok (.invokevirtual 72, 3) := by decide +kernel
theorem dX1_add_79 : decode cX1_add 79 = .ok (.aload_n 0, 1) := by decide +kernel
theorem dX1_add_80 : decode cX1_add 80 = .ok (.dup, 1) := by decide +kernel
theorem dX1_add_81 : decode cX1_add 81 = .ok (.getfield 44, 3) := by decide +kernel
theorem dX1_add_84 : decode cX1_add 84 = .ok (.iconst 1, 1) := by decide +kernel
theorem dX1_add_85 : decode cX1_add 85 = .ok (.iadd, 1) := by decide +kernel
theorem dX1_add_86 : decode cX1_add 86 = .ok (.putfield 44, 3) := by decide +kernel
theorem dX1_add_89 : decode cX1_add 89 = .ok (.aload_n 0, 1) := by decide +kernel
theorem dX1_add_90 : decode cX1_add 90 = .ok (.dup, 1) := by decide +kernel
theorem dX1_add_91 : decode cX1_add 91 = .ok (.getfield 47, 3) := by decide +kernel
theorem dX1_add_94 : decode cX1_add 94 = .ok (.iconst 1, 1) := by decide +kernel
theorem dX1_add_95 : decode cX1_add 95 = .ok (.iadd, 1) := by decide +kernel
theorem dX1_add_96 : decode cX1_add 96 = .ok (.putfield 47, 3) := by decide +kernel
theorem dX1_add_99 : decode cX1_add 99 = .ok (.iload 5, 2) := by decide +kernel
theorem dX1_add_101 : decode cX1_add 101 = .ok (.ireturn, 1) := by decide +kernel
theorem dX1_remove_0 : decode cX1_remove 0 = .ok (.aload_n 0, 1) := by decide +kernel
theorem dX1_remove_1 : decode cX1_remove 1 = .ok (.iload_n 1, 1) := by decide +kernel
theorem dX1_remove_2 : decode cX1_remove 2 = .ok (.invokevirtual 53, 3) := by decide +kernel
theorem dX1_remove_5 : decode cX1_remove 5 = .ok (.ifCond .eq 43, 3) := by decide +kernel
theorem dX1_remove_8 : decode cX1_remove 8 = .ok (.aload_n 0, 1) := by decide +kernel
theorem dX1_remove_9 : decode cX1_remove 9 = .ok (.getfield 34, 3) := by decide +kernel
theorem dX1_remove_12 : decode cX1_remove 12 = .ok (.iload_n 1, 1) := by decide +kernel
theorem dX1_remove_13 : decode cX1_remove 13 = .ok (.iconst 0, 1) := by decide +kernel
theorem dX1_remove_14 : decode cX1_remove 14 = .ok (.bastore, 1) := by decide +kernel
theorem dX1_remove_15 : decode cX1_remove 15 = .ok (.aload_n 0, 1) := by decide +kernel
theorem dX1_remove_16 : decode cX1_remove 16 = .ok (.aload_n 0, 1) := by decide +kernel
theorem dX1_remove_17 : decode cX1_remove 17 = .ok (.getfield 18, 3) := by decide +kernel
theorem dX1_remove_20 : decode cX1_remove 20 = .ok (.iload_n 1, 1) := by decide +kernel
theorem dX1_remove_21 : decode cX1_remove 21 = .ok (.iaload, 1) := by decide +kernel
theorem dX1_remove_22 : decode cX1_remove 22 = .ok (.aload_n 0, 1) := by decide +kernel
theorem dX1_remove_23 : decode cX1_remove 23 = .ok (.getfield 21, 3) := by decide +kernel
theorem dX1_remove_26 : decode cX1_remove 26 = .ok (.iload_n 1, 1) := by decide +kernel
theorem dX1_remove_27 : decode cX1_remove 27 = .ok (.iaload, 1) := by decide +kernel
theorem dX1_remove_28 : decode cX1_remove 28 = .ok (.aload_n 0, 1) := by decide +kernel
theorem dX1_remove_29 : decode cX1_remove 29 = .ok (.getfield 24, 3) := by decide +kernel
theorem dX1_remove_32 : decode cX1_remove 32 = .ok (.iload_n 1, 1) := by decide +kernel
theorem dX1_remove_33 : decode cX1_remove 33 = .ok (.iaload, 1) := by decide +kernel
theorem dX1_remove_34 : decode cX1_remove 34 = .ok (.iconst (-1), 1) := by decide +kernel
theorem dX1_remove_35 : decode cX1_remove 35 = .ok (.invokevirtual 72, 3) := by decide +kernel
theorem dX1_remove_38 : decode cX1_remove 38 = .ok (.aload_n 0, 1) := by decide +kernel
theorem dX1_remove_39 : decode cX1_remove 39 = .ok (.dup, 1) := by decide +kernel
theorem dX1_remove_40 : decode cX1_remove 40 = .ok (.getfield 47, 3) := by decide +kernel
theorem dX1_remove_43 : decode cX1_remove 43 = .ok (.iconst 1, 1) := by decide +kernel
theorem dX1_remove_44 : decode cX1_remove 44 = .ok (.isub, 1) := by decide +kernel
theorem dX1_remove_45 : decode cX1_remove 45 = .ok (.putfield 47, 3) := by decide +kernel
theorem dX1_remove_48 : decode cX1_remove 48 = .ok (.return_, 1) := by decide +kernel
theorem dX1_tellSlate_0 : decode cX1_tellSlate 0 = .ok (.aload_n 0, 1) := by decide +kernel
theorem dX1_tellSlate_1 : decode cX1_tellSlate 1 = .ok (.iload_n 1, 1) := by decide +kernel
theorem dX1_tellSlate_2 : decode cX1_tellSlate 2 = .ok (.invokevirtual 65, 3) := by decide +kernel
theorem dX1_tellSlate_5 : decode cX1_tellSlate 5 = .ok (.ifCond .ne 5, 3) := by decide +kernel
theorem dX1_tellSlate_8 : decode cX1_tellSlate 8 = .ok (.iconst 0, 1) := by decide +kernel
theorem dX1_tellSlate_9 : decode cX1_tellSlate 9 = .ok (.ireturn, 1) := by decide +kernel
theorem dX1_tellSlate_10 : decode cX1_tellSlate 10 = .ok (.iload_n 2, 1) := by decide +kernel
theorem dX1_tellSlate_11 : decode cX1_tellSlate 11 = .ok (.tableswitch 105 0 6 #[41, 48, 55, 62, 69, 84, 99], 41) := by decide +kernel
theorem dX1_tellSlate_52 : decode cX1_tellSlate 52 = .ok (.aload_n 0, 1) := by decide +kernel
theorem dX1_tellSlate_53 : decode cX1_tellSlate 53 = .ok (.getfield 18, 3) := by decide +kernel
theorem dX1_tellSlate_56 : decode cX1_tellSlate 56 = .ok (.iload_n 1, 1) := by decide +kernel
theorem dX1_tellSlate_57 : decode cX1_tellSlate 57 = .ok (.iaload, 1) := by decide +kernel
theorem dX1_tellSlate_58 : decode cX1_tellSlate 58 = .ok (.ireturn, 1) := by decide +kernel
theorem dX1_tellSlate_59 : decode cX1_tellSlate 59 = .ok (.aload_n 0, 1) := by decide +kernel
theorem dX1_tellSlate_60 : decode cX1_tellSlate 60 = .ok (.getfield 21, 3) := by decide +kernel
theorem dX1_tellSlate_63 : decode cX1_tellSlate 63 = .ok (.iload_n 1, 1) := by decide +kernel
theorem dX1_tellSlate_64 : decode cX1_tellSlate 64 = .ok (.iaload, 1) := by decide +kernel
theorem dX1_tellSlate_65 : decode cX1_tellSlate 65 = .ok (.ireturn, 1) := by decide +kernel
theorem dX1_tellSlate_66 : decode cX1_tellSlate 66 = .ok (.aload_n 0, 1) := by decide +kernel
theorem dX1_tellSlate_67 : decode cX1_tellSlate 67 = .ok (.getfield 24, 3) := by decide +kernel
theorem dX1_tellSlate_70 : decode cX1_tellSlate 70 = .ok (.iload_n 1, 1) := by decide +kernel
theorem dX1_tellSlate_71 : decode cX1_tellSlate 71 = .ok (.iaload, 1) := by decide +kernel
theorem dX1_tellSlate_72 : decode cX1_tellSlate 72 = .ok (.ireturn, 1) := by decide +kernel
theorem dX1_tellSlate_73 : decode cX1_tellSlate 73 = .ok (.aload_n 0, 1) := by decide +kernel
theorem dX1_tellSlate_74 : decode cX1_tellSlate 74 = .ok (.getfield 27, 3) := by decide +kernel
theorem dX1_tellSlate_77 : decode cX1_tellSlate 77 = .ok (.iload_n 1, 1) := by decide +kernel
theorem dX1_tellSlate_78 : decode cX1_tellSlate 78 = .ok (.iaload, 1) := by decide +kernel
theorem dX1_tellSlate_79 : decode cX1_tellSlate 79 = .ok (.ireturn, 1) := by decide +kernel
theorem dX1_tellSlate_80 : decode cX1_tellSlate 80 = .ok (.aload_n 0, 1) := by decide +kernel
theorem dX1_tellSlate_81 : decode cX1_tellSlate 81 = .ok (.getfield 30, 3) := by decide +kernel
theorem dX1_tellSlate_84 : decode cX1_tellSlate 84 = .ok (.iload_n 1, 1) := by decide +kernel
theorem dX1_tellSlate_85 : decode cX1_tellSlate 85 = .ok (.baload, 1) := by decide +kernel
theorem dX1_tellSlate_86 : decode cX1_tellSlate 86 = .ok (.ifCond .eq 7, 3) := by decide +kernel
theorem dX1_tellSlate_89 : decode cX1_tellSlate 89 = .ok (.iconst 1, 1) := by decide +kernel
theorem dX1_tellSlate_90 : decode cX1_tellSlate 90 = .ok (.goto 4, 3) := by decide +kernel
theorem dX1_tellSlate_93 : decode cX1_tellSlate 93 = .ok (.iconst 0, 1) := by decide +kernel
theorem dX1_tellSlate_94 : decode cX1_tellSlate 94 = .ok (.ireturn, 1) := by decide +kernel
theorem dX1_tellSlate_95 : decode cX1_tellSlate 95 = .ok (.aload_n 0, 1) := by decide +kernel
theorem dX1_tellSlate_96 : decode cX1_tellSlate 96 = .ok (.getfield 34, 3) := by decide +kernel
theorem dX1_tellSlate_99 : decode cX1_tellSlate 99 = .ok (.iload_n 1, 1) := by decide +kernel
theorem dX1_tellSlate_100 : decode cX1_tellSlate 100 = .ok (.baload, 1) := by decide +kernel
theorem dX1_tellSlate_101 : decode cX1_tellSlate 101 = .ok (.ifCond .eq 7, 3) := by decide +kernel
theorem dX1_tellSlate_104 : decode cX1_tellSlate 104 = .ok (.iconst 1, 1) := by decide +kernel
theorem dX1_tellSlate_105 : decode cX1_tellSlate 105 = .ok (.goto 4, 3) := by decide +kernel
theorem dX1_tellSlate_108 : decode cX1_tellSlate 108 = .ok (.iconst 0, 1) := by decide +kernel
theorem dX1_tellSlate_109 : decode cX1_tellSlate 109 = .ok (.ireturn, 1) := by decide +kernel
theorem dX1_tellSlate_110 : decode cX1_tellSlate 110 = .ok (.aload_n 0, 1) := by decide +kernel
theorem dX1_tellSlate_111 : decode cX1_tellSlate 111 = .ok (.iload_n 1, 1) := by decide +kernel
theorem dX1_tellSlate_112 : decode cX1_tellSlate 112 = .ok (.invokevirtual 76, 3) := by decide +kernel
theorem dX1_tellSlate_115 : decode cX1_tellSlate 115 = .ok (.ireturn, 1) := by decide +kernel
theorem dX1_tellSlate_116 : decode cX1_tellSlate 116 = .ok (.aload_n 0, 1) := by decide +kernel
theorem dX1_tellSlate_117 : decode cX1_tellSlate 117 = .ok (.iload_n 1, 1) := by decide +kernel
theorem dX1_tellSlate_118 : decode cX1_tellSlate 118 = .ok (.invokevirtual 57, 3) := by decide +kernel
theorem dX1_tellSlate_121 : decode cX1_tellSlate 121 = .ok (.ireturn, 1) := by decide +kernel
theorem dX1_uponIt_0 : decode cX1_uponIt 0 = .ok (.aload_n 0, 1) := by decide +kernel
theorem dX1_uponIt_1 : decode cX1_uponIt 1 = .ok (.iload_n 1, 1) := by decide +kernel
theorem dX1_uponIt_2 : decode cX1_uponIt 2 = .ok (.invokevirtual 53, 3) := by decide +kernel
theorem dX1_uponIt_5 : decode cX1_uponIt 5 = .ok (.ifCond .ne 5, 3) := by decide +kernel
theorem dX1_uponIt_8 : decode cX1_uponIt 8 = .ok (.iconst 0, 1) := by decide +kernel
theorem dX1_uponIt_9 : decode cX1_uponIt 9 = .ok (.ireturn, 1) := by decide +kernel
theorem dX1_uponIt_10 : decode cX1_uponIt 10 = .ok (.iconst 0, 1) := by decide +kernel
theorem dX1_uponIt_11 : decode cX1_uponIt 11 = .ok (.istore_n 2, 1) := by decide +kernel
theorem dX1_uponIt_12 : decode cX1_uponIt 12 = .ok (.iconst (-1), 1) := by decide +kernel
theorem dX1_uponIt_13 : decode cX1_uponIt 13 = .ok (.istore_n 3, 1) := by decide +kernel
theorem dX1_uponIt_14 : decode cX1_uponIt 14 = .ok (.aload_n 0, 1) := by decide +kernel
theorem dX1_uponIt_15 : decode cX1_uponIt 15 = .ok (.getfield 21, 3) := by decide +kernel
theorem dX1_uponIt_18 : decode cX1_uponIt 18 = .ok (.iload_n 1, 1) := by decide +kernel
theorem dX1_uponIt_19 : decode cX1_uponIt 19 = .ok (.iaload, 1) := by decide +kernel
theorem dX1_uponIt_20 : decode cX1_uponIt 20 = .ok (.istore 4, 2) := by decide +kernel
theorem dX1_uponIt_22 : decode cX1_uponIt 22 = .ok (.iload 4, 2) := by decide +kernel
theorem dX1_uponIt_24 : decode cX1_uponIt 24 = .ok (.aload_n 0, 1) := by decide +kernel
theorem dX1_uponIt_25 : decode cX1_uponIt 25 = .ok (.getfield 21, 3) := by decide +kernel
theorem dX1_uponIt_28 : decode cX1_uponIt 28 = .ok (.iload_n 1, 1) := by decide +kernel
theorem dX1_uponIt_29 : decode cX1_uponIt 29 = .ok (.iaload, 1) := by decide +kernel
theorem dX1_uponIt_30 : decode cX1_uponIt 30 = .ok (.aload_n 0, 1) := by decide +kernel
theorem dX1_uponIt_31 : decode cX1_uponIt 31 = .ok (.getfield 24, 3) := by decide +kernel
theorem dX1_uponIt_34 : decode cX1_uponIt 34 = .ok (.iload_n 1, 1) := by decide +kernel
theorem dX1_uponIt_35 : decode cX1_uponIt 35 = .ok (.iaload, 1) := by decide +kernel
theorem dX1_uponIt_36 : decode cX1_uponIt 36 = .ok (.iadd, 1) := by decide +kernel
theorem dX1_uponIt_37 : decode cX1_uponIt 37 = .ok (.if_icmp .ge 43, 3) := by decide +kernel
theorem dX1_uponIt_40 : decode cX1_uponIt 40 = .ok (.aload_n 0, 1) := by decide +kernel
theorem dX1_uponIt_41 : decode cX1_uponIt 41 = .ok (.iload 4, 2) := by decide +kernel
theorem dX1_uponIt_43 : decode cX1_uponIt 43 = .ok (.aload_n 0, 1) := by decide +kernel
theorem dX1_uponIt_44 : decode cX1_uponIt 44 = .ok (.getfield 18, 3) := by decide +kernel
theorem dX1_uponIt_47 : decode cX1_uponIt 47 = .ok (.iload_n 1, 1) := by decide +kernel
theorem dX1_uponIt_48 : decode cX1_uponIt 48 = .ok (.iaload, 1) := by decide +kernel
theorem dX1_uponIt_49 : decode cX1_uponIt 49 = .ok (.iconst 1, 1) := by decide +kernel
theorem dX1_uponIt_50 : decode cX1_uponIt 50 = .ok (.iadd, 1) := by decide +kernel
theorem dX1_uponIt_51 : decode cX1_uponIt 51 = .ok (.invokevirtual 68, 3) := by decide +kernel
theorem dX1_uponIt_54 : decode cX1_uponIt 54 = .ok (.istore 5, 2) := by decide +kernel
theorem dX1_uponIt_56 : decode cX1_uponIt 56 = .ok (.iload 5, 2) := by decide +kernel
theorem dX1_uponIt_58 : decode cX1_uponIt 58 = .ok (.iconst (-1), 1) := by decide +kernel
theorem dX1_uponIt_59 : decode cX1_uponIt 59 = .ok (.if_icmp .eq 15, 3) := by decide +kernel
theorem dX1_uponIt_62 : decode cX1_uponIt 62 = .ok (.iload 5, 2) := by decide +kernel
theorem dX1_uponIt_64 : decode cX1_uponIt 64 = .ok (.iload_n 3, 1) := by decide +kernel
theorem dX1_uponIt_65 : decode cX1_uponIt 65 = .ok (.if_icmp .eq 9, 3) := by decide +kernel
theorem dX1_uponIt_68 : decode cX1_uponIt 68 = .ok (.iinc 2 1, 3) := by decide +kernel
theorem dX1_uponIt_71 : decode cX1_uponIt 71 = .ok (.iload 5, 2) := by decide +kernel
theorem dX1_uponIt_73 : decode cX1_uponIt 73 = .ok (.istore_n 3, 1) := by decide +kernel
theorem dX1_uponIt_74 : decode cX1_uponIt 74 = .ok (.iinc 4 1, 3) := by decide +kernel
theorem dX1_uponIt_77 : decode cX1_uponIt 77 = .ok (.goto (-55), 3) := by decide +kernel
theorem dX1_uponIt_80 : decode cX1_uponIt 80 = .ok (.iload_n 2, 1) := by decide +kernel
theorem dX1_uponIt_81 : decode cX1_uponIt 81 = .ok (.ireturn, 1) := by decide +kernel
theorem dX1_holdOf_0 : decode cX1_holdOf 0 = .ok (.aload_n 0, 1) := by decide +kernel
theorem dX1_holdOf_1 : decode cX1_holdOf 1 = .ok (.iload_n 1, 1) := by decide +kernel
theorem dX1_holdOf_2 : decode cX1_holdOf 2 = .ok (.invokevirtual 53, 3) := by decide +kernel
theorem dX1_holdOf_5 : decode cX1_holdOf 5 = .ok (.ifCond .ne 5, 3) := by decide +kernel
theorem dX1_holdOf_8 : decode cX1_holdOf 8 = .ok (.iconst 0, 1) := by decide +kernel
theorem dX1_holdOf_9 : decode cX1_holdOf 9 = .ok (.ireturn, 1) := by decide +kernel
theorem dX1_holdOf_10 : decode cX1_holdOf 10 = .ok (.aload_n 0, 1) := by decide +kernel
theorem dX1_holdOf_11 : decode cX1_holdOf 11 = .ok (.iload_n 1, 1) := by decide +kernel
theorem dX1_holdOf_12 : decode cX1_holdOf 12 = .ok (.invokevirtual 79, 3) := by decide +kernel
theorem dX1_holdOf_15 : decode cX1_holdOf 15 = .ok (.ifCond .eq 7, 3) := by decide +kernel
theorem dX1_holdOf_18 : decode cX1_holdOf 18 = .ok (.iconst 2, 1) := by decide +kernel
theorem dX1_holdOf_19 : decode cX1_holdOf 19 = .ok (.goto 4, 3) := by decide +kernel
theorem dX1_holdOf_22 : decode cX1_holdOf 22 = .ok (.iconst 3, 1) := by decide +kernel
theorem dX1_holdOf_23 : decode cX1_holdOf 23 = .ok (.istore_n 2, 1) := by decide +kernel
theorem dX1_holdOf_24 : decode cX1_holdOf 24 = .ok (.iload_n 2, 1) := by decide +kernel
theorem dX1_holdOf_25 : decode cX1_holdOf 25 = .ok (.aload_n 0, 1) := by decide +kernel
theorem dX1_holdOf_26 : decode cX1_holdOf 26 = .ok (.getfield 27, 3) := by decide +kernel
theorem dX1_holdOf_29 : decode cX1_holdOf 29 = .ok (.iload_n 1, 1) := by decide +kernel
theorem dX1_holdOf_30 : decode cX1_holdOf 30 = .ok (.iaload, 1) := by decide +kernel
theorem dX1_holdOf_31 : decode cX1_holdOf 31 = .ok (.imul, 1) := by decide +kernel
theorem dX1_holdOf_32 : decode cX1_holdOf 32 = .ok (.iconst 2, 1) := by decide +kernel
theorem dX1_holdOf_33 : decode cX1_holdOf 33 = .ok (.aload_n 0, 1) := by decide +kernel
theorem dX1_holdOf_34 : decode cX1_holdOf 34 = .ok (.iload_n 1, 1) := by decide +kernel
theorem dX1_holdOf_35 : decode cX1_holdOf 35 = .ok (.invokevirtual 57, 3) := by decide +kernel
theorem dX1_holdOf_38 : decode cX1_holdOf 38 = .ok (.imul, 1) := by decide +kernel
theorem dX1_holdOf_39 : decode cX1_holdOf 39 = .ok (.iadd, 1) := by decide +kernel
theorem dX1_holdOf_40 : decode cX1_holdOf 40 = .ok (.istore_n 3, 1) := by decide +kernel
theorem dX1_holdOf_41 : decode cX1_holdOf 41 = .ok (.aload_n 0, 1) := by decide +kernel
theorem dX1_holdOf_42 : decode cX1_holdOf 42 = .ok (.getfield 30, 3) := by decide +kernel
theorem dX1_holdOf_45 : decode cX1_holdOf 45 = .ok (.iload_n 1, 1) := by decide +kernel
theorem dX1_holdOf_46 : decode cX1_holdOf 46 = .ok (.baload, 1) := by decide +kernel
theorem dX1_holdOf_47 : decode cX1_holdOf 47 = .ok (.ifCond .eq 9, 3) := by decide +kernel
theorem dX1_holdOf_50 : decode cX1_holdOf 50 = .ok (.iload_n 3, 1) := by decide +kernel
theorem dX1_holdOf_51 : decode cX1_holdOf 51 = .ok (.iconst 2, 1) := by decide +kernel
theorem dX1_holdOf_52 : decode cX1_holdOf 52 = .ok (.idiv, 1) := by decide +kernel
theorem dX1_holdOf_53 : decode cX1_holdOf 53 = .ok (.goto 4, 3) := by decide +kernel
theorem dX1_holdOf_56 : decode cX1_holdOf 56 = .ok (.iload_n 3, 1) := by decide +kernel
theorem dX1_holdOf_57 : decode cX1_holdOf 57 = .ok (.ireturn, 1) := by decide +kernel
theorem dX1_isOnRot_0 : decode cX1_isOnRot 0 = .ok (.aload_n 0, 1) := by decide +kernel
theorem dX1_isOnRot_1 : decode cX1_isOnRot 1 = .ok (.iload_n 1, 1) := by decide +kernel
theorem dX1_isOnRot_2 : decode cX1_isOnRot 2 = .ok (.invokevirtual 65, 3) := by decide +kernel
theorem dX1_isOnRot_5 : decode cX1_isOnRot 5 = .ok (.ifCond .ne 5, 3) := by decide +kernel
theorem dX1_isOnRot_8 : decode cX1_isOnRot 8 = .ok (.iconst 0, 1) := by decide +kernel
theorem dX1_isOnRot_9 : decode cX1_isOnRot 9 = .ok (.ireturn, 1) := by decide +kernel
theorem dX1_isOnRot_10 : decode cX1_isOnRot 10 = .ok (.aload_n 0, 1) := by decide +kernel
theorem dX1_isOnRot_11 : decode cX1_isOnRot 11 = .ok (.getfield 21, 3) := by decide +kernel
theorem dX1_isOnRot_14 : decode cX1_isOnRot 14 = .ok (.iload_n 1, 1) := by decide +kernel
theorem dX1_isOnRot_15 : decode cX1_isOnRot 15 = .ok (.iaload, 1) := by decide +kernel
theorem dX1_isOnRot_16 : decode cX1_isOnRot 16 = .ok (.istore_n 2, 1) := by decide +kernel
theorem dX1_isOnRot_17 : decode cX1_isOnRot 17 = .ok (.iload_n 2, 1) := by decide +kernel
theorem dX1_isOnRot_18 : decode cX1_isOnRot 18 = .ok (.aload_n 0, 1) := by decide +kernel
theorem dX1_isOnRot_19 : decode cX1_isOnRot 19 = .ok (.getfield 21, 3) := by decide +kernel
theorem dX1_isOnRot_22 : decode cX1_isOnRot 22 = .ok (.iload_n 1, 1) := by decide +kernel
theorem dX1_isOnRot_23 : decode cX1_isOnRot 23 = .ok (.iaload, 1) := by decide +kernel
theorem dX1_isOnRot_24 : decode cX1_isOnRot 24 = .ok (.aload_n 0, 1) := by decide +kernel
theorem dX1_isOnRot_25 : decode cX1_isOnRot 25 = .ok (.getfield 24, 3) := by decide +kernel
theorem dX1_isOnRot_28 : decode cX1_isOnRot 28 = .ok (.iload_n 1, 1) := by decide +kernel
theorem dX1_isOnRot_29 : decode cX1_isOnRot 29 = .ok (.iaload, 1) := by decide +kernel
theorem dX1_isOnRot_30 : decode cX1_isOnRot 30 = .ok (.iadd, 1) := by decide +kernel
theorem dX1_isOnRot_31 : decode cX1_isOnRot 31 = .ok (.if_icmp .ge 26, 3) := by decide +kernel
theorem dX1_isOnRot_34 : decode cX1_isOnRot 34 = .ok (.aload_n 0, 1) := by decide +kernel
theorem dX1_isOnRot_35 : decode cX1_isOnRot 35 = .ok (.iload_n 2, 1) := by decide +kernel
theorem dX1_isOnRot_36 : decode cX1_isOnRot 36 = .ok (.aload_n 0, 1) := by decide +kernel
theorem dX1_isOnRot_37 : decode cX1_isOnRot 37 = .ok (.getfield 18, 3) := by decide +kernel
theorem dX1_isOnRot_40 : decode cX1_isOnRot 40 = .ok (.iload_n 1, 1) := by decide +kernel
theorem dX1_isOnRot_41 : decode cX1_isOnRot 41 = .ok (.iaload, 1) := by decide +kernel
theorem dX1_isOnRot_42 : decode cX1_isOnRot 42 = .ok (.invokevirtual 82, 3) := by decide +kernel
theorem dX1_isOnRot_45 : decode cX1_isOnRot 45 = .ok (.iconst 5, 1) := by decide +kernel
theorem dX1_isOnRot_46 : decode cX1_isOnRot 46 = .ok (.if_icmp .lt 5, 3) := by decide +kernel
theorem dX1_isOnRot_49 : decode cX1_isOnRot 49 = .ok (.iconst 1, 1) := by decide +kernel
theorem dX1_isOnRot_50 : decode cX1_isOnRot 50 = .ok (.ireturn, 1) := by decide +kernel
theorem dX1_isOnRot_51 : decode cX1_isOnRot 51 = .ok (.iinc 2 1, 3) := by decide +kernel
theorem dX1_isOnRot_54 : decode cX1_isOnRot 54 = .ok (.goto (-37), 3) := by decide +kernel
theorem dX1_isOnRot_57 : decode cX1_isOnRot 57 = .ok (.iconst 0, 1) := by decide +kernel
theorem dX1_isOnRot_58 : decode cX1_isOnRot 58 = .ok (.ireturn, 1) := by decide +kernel
theorem dX1_liftOf_0 : decode cX1_liftOf 0 = .ok (.aload_n 0, 1) := by decide +kernel
theorem dX1_liftOf_1 : decode cX1_liftOf 1 = .ok (.iload_n 1, 1) := by decide +kernel
theorem dX1_liftOf_2 : decode cX1_liftOf 2 = .ok (.invokevirtual 65, 3) := by decide +kernel
theorem dX1_liftOf_5 : decode cX1_liftOf 5 = .ok (.ifCond .ne 5, 3) := by decide +kernel
theorem dX1_liftOf_8 : decode cX1_liftOf 8 = .ok (.iconst 0, 1) := by decide +kernel
theorem dX1_liftOf_9 : decode cX1_liftOf 9 = .ok (.ireturn, 1) := by decide +kernel
theorem dX1_liftOf_10 : decode cX1_liftOf 10 = .ok (.iload_n 3, 1) := by decide +kernel
theorem dX1_liftOf_11 : decode cX1_liftOf 11 = .ok (.ifCond .eq 19, 3) := by decide +kernel
theorem dX1_liftOf_14 : decode cX1_liftOf 14 = .ok (.aload_n 0, 1) := by decide +kernel
theorem dX1_liftOf_15 : decode cX1_liftOf 15 = .ok (.getfield 21, 3) := by decide +kernel
theorem dX1_liftOf_18 : decode cX1_liftOf 18 = .ok (.iload_n 1, 1) := by decide +kernel
theorem dX1_liftOf_19 : decode cX1_liftOf 19 = .ok (.iaload, 1) := by decide +kernel
theorem dX1_liftOf_20 : decode cX1_liftOf 20 = .ok (.aload_n 0, 1) := by decide +kernel
theorem dX1_liftOf_21 : decode cX1_liftOf 21 = .ok (.getfield 24, 3) := by decide +kernel
theorem dX1_liftOf_24 : decode cX1_liftOf 24 = .ok (.iload_n 1, 1) := by decide +kernel
theorem dX1_liftOf_25 : decode cX1_liftOf 25 = .ok (.iaload, 1) := by decide +kernel
theorem dX1_liftOf_26 : decode cX1_liftOf 26 = .ok (.iadd, 1) := by decide +kernel
theorem dX1_liftOf_27 : decode cX1_liftOf 27 = .ok (.goto 11, 3) := by decide +kernel
theorem dX1_liftOf_30 : decode cX1_liftOf 30 = .ok (.aload_n 0, 1) := by decide +kernel
theorem dX1_liftOf_31 : decode cX1_liftOf 31 = .ok (.getfield 21, 3) := by decide +kernel
theorem dX1_liftOf_34 : decode cX1_liftOf 34 = .ok (.iload_n 1, 1) := by decide +kernel
theorem dX1_liftOf_35 : decode cX1_liftOf 35 = .ok (.iaload, 1) := by decide +kernel
theorem dX1_liftOf_36 : decode cX1_liftOf 36 = .ok (.iconst 1, 1) := by decide +kernel
theorem dX1_liftOf_37 : decode cX1_liftOf 37 = .ok (.isub, 1) := by decide +kernel
theorem dX1_liftOf_38 : decode cX1_liftOf 38 = .ok (.istore 4, 2) := by decide +kernel
theorem dX1_liftOf_40 : decode cX1_liftOf 40 = .ok (.aload_n 0, 1) := by decide +kernel
theorem dX1_liftOf_41 : decode cX1_liftOf 41 = .ok (.iload 4, 2) := by decide +kernel
theorem dX1_liftOf_43 : decode cX1_liftOf 43 = .ok (.aload_n 0, 1) := by decide +kernel
theorem dX1_liftOf_44 : decode cX1_liftOf 44 = .ok (.getfield 18, 3) := by decide +kernel
theorem dX1_liftOf_47 : decode cX1_liftOf 47 = .ok (.iload_n 1, 1) := by decide +kernel
theorem dX1_liftOf_48 : decode cX1_liftOf 48 = .ok (.iaload, 1) := by decide +kernel
theorem dX1_liftOf_49 : decode cX1_liftOf 49 = .ok (.invokevirtual 68, 3) := by decide +kernel
theorem dX1_liftOf_52 : decode cX1_liftOf 52 = .ok (.iconst (-1), 1) := by decide +kernel
theorem dX1_liftOf_53 : decode cX1_liftOf 53 = .ok (.if_icmp .eq 7, 3) := by decide +kernel
theorem dX1_liftOf_56 : decode cX1_liftOf 56 = .ok (.iconst 2, 1) := by decide +kernel
theorem dX1_liftOf_57 : decode cX1_liftOf 57 = .ok (.goto 4, 3) := by decide +kernel
theorem dX1_liftOf_60 : decode cX1_liftOf 60 = .ok (.iconst 0, 1) := by decide +kernel
theorem dX1_liftOf_61 : decode cX1_liftOf 61 = .ok (.istore 5, 2) := by decide +kernel
theorem dX1_liftOf_63 : decode cX1_liftOf 63 = .ok (.iload_n 2, 1) := by decide +kernel
theorem dX1_liftOf_64 : decode cX1_liftOf 64 = .ok (.aload_n 0, 1) := by decide +kernel
theorem dX1_liftOf_65 : decode cX1_liftOf 65 = .ok (.getfield 18, 3) := by decide +kernel
theorem dX1_liftOf_68 : decode cX1_liftOf 68 = .ok (.iload_n 1, 1) := by decide +kernel
theorem dX1_liftOf_69 : decode cX1_liftOf 69 = .ok (.iaload, 1) := by decide +kernel
theorem dX1_liftOf_70 : decode cX1_liftOf 70 = .ok (.iadd, 1) := by decide +kernel
theorem dX1_liftOf_71 : decode cX1_liftOf 71 = .ok (.iload 5, 2) := by decide +kernel
theorem dX1_liftOf_73 : decode cX1_liftOf 73 = .ok (.isub, 1) := by decide +kernel
theorem dX1_liftOf_74 : decode cX1_liftOf 74 = .ok (.ireturn, 1) := by decide +kernel
theorem dX1_blow_0 : decode cX1_blow 0 = .ok (.iload_n 1, 1) := by decide +kernel
theorem dX1_blow_1 : decode cX1_blow 1 = .ok (.iconst 1, 1) := by decide +kernel
theorem dX1_blow_2 : decode cX1_blow 2 = .ok (.if_icmp .ge 5, 3) := by decide +kernel
theorem dX1_blow_5 : decode cX1_blow 5 = .ok (.iconst 0, 1) := by decide +kernel
theorem dX1_blow_6 : decode cX1_blow 6 = .ok (.ireturn, 1) := by decide +kernel
theorem dX1_blow_7 : decode cX1_blow 7 = .ok (.iconst 1, 1) := by decide +kernel
theorem dX1_blow_8 : decode cX1_blow 8 = .ok (.istore_n 3, 1) := by decide +kernel
theorem dX1_blow_9 : decode cX1_blow 9 = .ok (.iload_n 3, 1) := by decide +kernel
theorem dX1_blow_10 : decode cX1_blow 10 = .ok (.bipush 60, 2) := by decide +kernel
theorem dX1_blow_12 : decode cX1_blow 12 = .ok (.if_icmp .gt 33, 3) := by decide +kernel
theorem dX1_blow_15 : decode cX1_blow 15 = .ok (.aload_n 0, 1) := by decide +kernel
theorem dX1_blow_16 : decode cX1_blow 16 = .ok (.iload_n 1, 1) := by decide +kernel
theorem dX1_blow_17 : decode cX1_blow 17 = .ok (.iload_n 2, 1) := by decide +kernel
theorem dX1_blow_18 : decode cX1_blow 18 = .ok (.invokevirtual 85, 3) := by decide +kernel
theorem dX1_blow_21 : decode cX1_blow 21 = .ok (.ifCond .ne 5, 3) := by decide +kernel
theorem dX1_blow_24 : decode cX1_blow 24 = .ok (.iload_n 3, 1) := by decide +kernel
theorem dX1_blow_25 : decode cX1_blow 25 = .ok (.ireturn, 1) := by decide +kernel
theorem dX1_blow_26 : decode cX1_blow 26 = .ok (.aload_n 0, 1) := by decide +kernel
theorem dX1_blow_27 : decode cX1_blow 27 = .ok (.dup, 1) := by decide +kernel
theorem dX1_blow_28 : decode cX1_blow 28 = .ok (.getfield 50, 3) := by decide +kernel
theorem dX1_blow_31 : decode cX1_blow 31 = .ok (.aload_n 0, 1) := by decide +kernel
theorem dX1_blow_32 : decode cX1_blow 32 = .ok (.invokevirtual 89, 3) := by decide +kernel
theorem dX1_blow_35 : decode cX1_blow 35 = .ok (.iadd, 1) := by decide +kernel
theorem dX1_blow_36 : decode cX1_blow 36 = .ok (.putfield 50, 3) := by decide +kernel
theorem dX1_blow_39 : decode cX1_blow 39 = .ok (.iinc 3 1, 3) := by decide +kernel
theorem dX1_blow_42 : decode cX1_blow 42 = .ok (.goto (-33), 3) := by decide +kernel
theorem dX1_blow_45 : decode cX1_blow 45 = .ok (.bipush 61, 2) := by decide +kernel
theorem dX1_blow_47 : decode cX1_blow 47 = .ok (.ireturn, 1) := by decide +kernel
theorem dX1_markLifted_0 : decode cX1_markLifted 0 = .ok (.iconst 0, 1) := by decide +kernel
theorem dX1_markLifted_1 : decode cX1_markLifted 1 = .ok (.istore_n 3, 1) := by decide +kernel
theorem dX1_markLifted_2 : decode cX1_markLifted 2 = .ok (.iconst 0, 1) := by decide +kernel
theorem dX1_markLifted_3 : decode cX1_markLifted 3 = .ok (.istore 4, 2) := by decide +kernel
theorem dX1_markLifted_5 : decode cX1_markLifted 5 = .ok (.iload 4, 2) := by decide +kernel
theorem dX1_markLifted_7 : decode cX1_markLifted 7 = .ok (.aload_n 0, 1) := by decide +kernel
theorem dX1_markLifted_8 : decode cX1_markLifted 8 = .ok (.getfield 44, 3) := by decide +kernel
theorem dX1_markLifted_11 : decode cX1_markLifted 11 = .ok (.if_icmp .ge 69, 3) := by decide +kernel
theorem dX1_markLifted_14 : decode cX1_markLifted 14 = .ok (.iload 4, 2) := by decide +kernel
theorem dX1_markLifted_16 : decode cX1_markLifted 16 = .ok (.sipush 200, 3) := by decide +kernel
theorem dX1_markLifted_19 : decode cX1_markLifted 19 = .ok (.if_icmp .ge 61, 3) := by decide +kernel
theorem dX1_markLifted_22 : decode cX1_markLifted 22 = .ok (.aload_n 0, 1) := by decide +kernel
theorem dX1_markLifted_23 : decode cX1_markLifted 23 = .ok (.getfield 37, 3) := by decide +kernel
theorem dX1_markLifted_26 : decode cX1_markLifted 26 = .ok (.iload 4, 2) := by decide +kernel
theorem dX1_markLifted_28 : decode cX1_markLifted 28 = .ok (.aload_n 0, 1) := by decide +kernel
theorem dX1_markLifted_29 : decode cX1_markLifted 29 = .ok (.getfield 34, 3) := by decide +kernel
theorem dX1_markLifted_32 : decode cX1_markLifted 32 = .ok (.iload 4, 2) := by decide +kernel
theorem dX1_markLifted_34 : decode cX1_markLifted 34 = .ok (.baload, 1) := by decide +kernel
theorem dX1_markLifted_35 : decode cX1_markLifted 35 = .ok (.ifCond .eq 24, 3) := by decide +kernel
theorem dX1_markLifted_38 : decode cX1_markLifted 38 = .ok (.aload_n 0, 1) := by decide +kernel
theorem dX1_markLifted_39 : decode cX1_markLifted 39 = .ok (.iload 4, 2) := by decide +kernel
theorem dX1_markLifted_41 : decode cX1_markLifted 41 = .ok (.iload_n 1, 1) := by decide +kernel
theorem dX1_markLifted_42 : decode cX1_markLifted 42 = .ok (.iload_n 2, 1) := by decide +kernel
theorem dX1_markLifted_43 : decode cX1_markLifted 43 = .ok (.invokevirtual 93, 3) := by decide +kernel
theorem dX1_markLifted_46 : decode cX1_markLifted 46 = .ok (.aload_n 0, 1) := by decide +kernel
theorem dX1_markLifted_47 : decode cX1_markLifted 47 = .ok (.iload 4, 2) := by decide +kernel
theorem dX1_markLifted_49 : decode cX1_markLifted 49 = .ok (.invokevirtual 76, 3) := by decide +kernel
theorem dX1_markLifted_52 : decode cX1_markLifted 52 = .ok (.if_icmp .le 7, 3) := by decide +kernel
theorem dX1_markLifted_55 : decode cX1_markLifted 55 = .ok (.iconst 1, 1) := by decide +kernel
theorem dX1_markLifted_56 : decode cX1_markLifted 56 = .ok (.goto 4, 3) := by decide +kernel
theorem dX1_markLifted_59 : decode cX1_markLifted 59 = .ok (.iconst 0, 1) := by decide +kernel
theorem dX1_markLifted_60 : decode cX1_markLifted 60 = .ok (.bastore, 1) := by decide +kernel
theorem dX1_markLifted_61 : decode cX1_markLifted 61 = .ok (.aload_n 0, 1) := by decide +kernel
theorem dX1_markLifted_62 : decode cX1_markLifted 62 = .ok (.getfield 37, 3) := by decide +kernel
theorem dX1_markLifted_65 : decode cX1_markLifted 65 = .ok (.iload 4, 2) := by decide +kernel
theorem dX1_markLifted_67 : decode cX1_markLifted 67 = .ok (.baload, 1) := by decide +kernel
theorem dX1_markLifted_68 : decode cX1_markLifted 68 = .ok (.ifCond .eq 6, 3) := by decide +kernel
theorem dX1_markLifted_71 : decode cX1_markLifted 71 = .ok (.iinc 3 1, 3) := by decide +kernel
theorem dX1_markLifted_74 : decode cX1_markLifted 74 = .ok (.iinc 4 1, 3) := by decide +kernel
theorem dX1_markLifted_77 : decode cX1_markLifted 77 = .ok (.goto (-72), 3) := by decide +kernel
theorem dX1_markLifted_80 : decode cX1_markLifted 80 = .ok (.iload_n 3, 1) := by decide +kernel
theorem dX1_markLifted_81 : decode cX1_markLifted 81 = .ok (.ireturn, 1) := by decide +kernel
theorem dX1_removeMarked_0 : decode cX1_removeMarked 0 = .ok (.aload_n 0, 1) := by decide +kernel
theorem dX1_removeMarked_1 : decode cX1_removeMarked 1 = .ok (.getfield 47, 3) := by decide +kernel
theorem dX1_removeMarked_4 : decode cX1_removeMarked 4 = .ok (.istore_n 1, 1) := by decide +kernel
theorem dX1_removeMarked_5 : decode cX1_removeMarked 5 = .ok (.iconst 0, 1) := by decide +kernel
theorem dX1_removeMarked_6 : decode cX1_removeMarked 6 = .ok (.istore_n 2, 1) := by decide +kernel
theorem dX1_removeMarked_7 : decode cX1_removeMarked 7 = .ok (.iload_n 2, 1) := by decide +kernel
theorem dX1_removeMarked_8 : decode cX1_removeMarked 8 = .ok (.aload_n 0, 1) := by decide +kernel
theorem dX1_removeMarked_9 : decode cX1_removeMarked 9 = .ok (.getfield 44, 3) := by decide +kernel
theorem dX1_removeMarked_12 : decode cX1_removeMarked 12 = .ok (.if_icmp .ge 30, 3) := by decide +kernel
theorem dX1_removeMarked_15 : decode cX1_removeMarked 15 = .ok (.iload_n 2, 1) := by decide +kernel
theorem dX1_removeMarked_16 : decode cX1_removeMarked 16 = .ok (.sipush 200, 3) := by decide +kernel
theorem dX1_removeMarked_19 : decode cX1_removeMarked 19 = .ok (.if_icmp .ge 23, 3) := by decide +kernel
theorem dX1_removeMarked_22 : decode cX1_removeMarked 22 = .ok (.aload_n 0, 1) := by decide +kernel
theorem dX1_removeMarked_23 : decode cX1_removeMarked 23 = .ok (.getfield 37, 3) := by decide +kernel
theorem dX1_removeMarked_26 : decode cX1_removeMarked 26 = .ok (.iload_n 2, 1) := by decide +kernel
theorem dX1_removeMarked_27 : decode cX1_removeMarked 27 = .ok (.baload, 1) := by decide +kernel
theorem dX1_removeMarked_28 : decode cX1_removeMarked 28 = .ok (.ifCond .eq 8, 3) := by decide +kernel
theorem dX1_removeMarked_31 : decode cX1_removeMarked 31 = .ok (.aload_n 0, 1) := by decide +kernel
theorem dX1_removeMarked_32 : decode cX1_removeMarked 32 = .ok (.iload_n 2, 1) := by decide +kernel
theorem dX1_removeMarked_33 : decode cX1_removeMarked 33 = .ok (.invokevirtual 97, 3) := by decide +kernel
theorem dX1_removeMarked_36 : decode cX1_removeMarked 36 = .ok (.iinc 2 1, 3) := by decide +kernel
theorem dX1_removeMarked_39 : decode cX1_removeMarked 39 = .ok (.goto (-32), 3) := by decide +kernel
theorem dX1_removeMarked_42 : decode cX1_removeMarked 42 = .ok (.iload_n 1, 1) := by decide +kernel
theorem dX1_removeMarked_43 : decode cX1_removeMarked 43 = .ok (.aload_n 0, 1) := by decide +kernel
theorem dX1_removeMarked_44 : decode cX1_removeMarked 44 = .ok (.getfield 47, 3) := by decide +kernel
theorem dX1_removeMarked_47 : decode cX1_removeMarked 47 = .ok (.isub, 1) := by decide +kernel
theorem dX1_removeMarked_48 : decode cX1_removeMarked 48 = .ok (.ireturn, 1) := by decide +kernel
theorem dX1_crackBy_0 : decode cX1_crackBy 0 = .ok (.iconst 0, 1) := by decide +kernel
theorem dX1_crackBy_1 : decode cX1_crackBy 1 = .ok (.istore_n 2, 1) := by decide +kernel
theorem dX1_crackBy_2 : decode cX1_crackBy 2 = .ok (.iload_n 2, 1) := by decide +kernel
theorem dX1_crackBy_3 : decode cX1_crackBy 3 = .ok (.aload_n 0, 1) := by decide +kernel
theorem dX1_crackBy_4 : decode cX1_crackBy 4 = .ok (.getfield 44, 3) := by decide +kernel
theorem dX1_crackBy_7 : decode cX1_crackBy 7 = .ok (.if_icmp .ge 52, 3) := by decide +kernel
theorem dX1_crackBy_10 : decode cX1_crackBy 10 = .ok (.iload_n 2, 1) := by decide +kernel
theorem dX1_crackBy_11 : decode cX1_crackBy 11 = .ok (.sipush 200, 3) := by decide +kernel
theorem dX1_crackBy_14 : decode cX1_crackBy 14 = .ok (.if_icmp .ge 45, 3) := by decide +kernel
theorem dX1_crackBy_17 : decode cX1_crackBy 17 = .ok (.aload_n 0, 1) := by decide +kernel
theorem dX1_crackBy_18 : decode cX1_crackBy 18 = .ok (.getfield 34, 3) := by decide +kernel
theorem dX1_crackBy_21 : decode cX1_crackBy 21 = .ok (.iload_n 2, 1) := by decide +kernel
theorem dX1_crackBy_22 : decode cX1_crackBy 22 = .ok (.baload, 1) := by decide +kernel
theorem dX1_crackBy_23 : decode cX1_crackBy 23 = .ok (.ifCond .eq 30, 3) := by decide +kernel
theorem dX1_crackBy_26 : decode cX1_crackBy 26 = .ok (.iload_n 1, 1) := by decide +kernel
theorem dX1_crackBy_27 : decode cX1_crackBy 27 = .ok (.aload_n 0, 1) := by decide +kernel
theorem dX1_crackBy_28 : decode cX1_crackBy 28 = .ok (.getfield 27, 3) := by decide +kernel
theorem dX1_crackBy_31 : decode cX1_crackBy 31 = .ok (.iload_n 2, 1) := by decide +kernel
theorem dX1_crackBy_32 : decode cX1_crackBy 32 = .ok (.iaload, 1) := by decide +kernel
theorem dX1_crackBy_33 : decode cX1_crackBy 33 = .ok (.iconst 3, 1) := by decide +kernel
theorem dX1_crackBy_34 : decode cX1_crackBy 34 = .ok (.iadd, 1) := by decide +kernel
theorem dX1_crackBy_35 : decode cX1_crackBy 35 = .ok (.if_icmp .le 18, 3) := by decide +kernel
theorem dX1_crackBy_38 : decode cX1_crackBy 38 = .ok (.aload_n 0, 1) := by decide +kernel
theorem dX1_crackBy_39 : decode cX1_crackBy 39 = .ok (.iload_n 2, 1) := by decide +kernel
theorem dX1_crackBy_40 : decode cX1_crackBy 40 = .ok (.invokevirtual 101, 3) := by decide +kernel
theorem dX1_crackBy_43 : decode cX1_crackBy 43 = .ok (.ifCond .eq 10, 3) := by decide +kernel
theorem dX1_crackBy_46 : decode cX1_crackBy 46 = .ok (.aload_n 0, 1) := by decide +kernel
theorem dX1_crackBy_47 : decode cX1_crackBy 47 = .ok (.getfield 30, 3) := by decide +kernel
theorem dX1_crackBy_50 : decode cX1_crackBy 50 = .ok (.iload_n 2, 1) := by decide +kernel
theorem dX1_crackBy_51 : decode cX1_crackBy 51 = .ok (.iconst 1, 1) := by decide +kernel
theorem dX1_crackBy_52 : decode cX1_crackBy 52 = .ok (.bastore, 1) := by decide +kernel
theorem dX1_crackBy_53 : decode cX1_crackBy 53 = .ok (.iinc 2 1, 3) := by decide +kernel
theorem dX1_crackBy_56 : decode cX1_crackBy 56 = .ok (.goto (-54), 3) := by decide +kernel
theorem dX1_crackBy_59 : decode cX1_crackBy 59 = .ok (.return_, 1) := by decide +kernel
theorem dX1_isBareSomewhere_0 : decode cX1_isBareSomewhere 0 = .ok (.aload_n 0, 1) := by decide +kernel
theorem dX1_isBareSomewhere_1 : decode cX1_isBareSomewhere 1 = .ok (.iload_n 1, 1) := by decide +kernel
theorem dX1_isBareSomewhere_2 : decode cX1_isBareSomewhere 2 = .ok (.invokevirtual 65, 3) := by decide +kernel
theorem dX1_isBareSomewhere_5 : decode cX1_isBareSomewhere 5 = .ok (.ifCond .ne 5, 3) := by decide +kernel
theorem dX1_isBareSomewhere_8 : decode cX1_isBareSomewhere 8 = .ok (.iconst 0, 1) := by decide +kernel
theorem dX1_isBareSomewhere_9 : decode cX1_isBareSomewhere 9 = .ok (.ireturn, 1) := by decide +kernel
theorem dX1_isBareSomewhere_10 : decode cX1_isBareSomewhere 10 = .ok (.aload_n 0, 1) := by decide +kernel
theorem dX1_isBareSomewhere_11 : decode cX1_isBareSomewhere 11 = .ok (.getfield 21, 3) := by decide +kernel
theorem dX1_isBareSomewhere_14 : decode cX1_isBareSomewhere 14 = .ok (.iload_n 1, 1) := by decide +kernel
theorem dX1_isBareSomewhere_15 : decode cX1_isBareSomewhere 15 = .ok (.iaload, 1) := by decide +kernel
theorem dX1_isBareSomewhere_16 : decode cX1_isBareSomewhere 16 = .ok (.istore_n 2, 1) := by decide +kernel
theorem dX1_isBareSomewhere_17 : decode cX1_isBareSomewhere 17 = .ok (.iload_n 2, 1) := by decide +kernel
theorem dX1_isBareSomewhere_18 : decode cX1_isBareSomewhere 18 = .ok (.aload_n 0, 1) := by decide +kernel
theorem dX1_isBareSomewhere_19 : decode cX1_isBareSomewhere 19 = .ok (.getfield 21, 3) := by decide +kernel
theorem dX1_isBareSomewhere_22 : decode cX1_isBareSomewhere 22 = .ok (.iload_n 1, 1) := by decide +kernel
theorem dX1_isBareSomewhere_23 : decode cX1_isBareSomewhere 23 = .ok (.iaload, 1) := by decide +kernel
theorem dX1_isBareSomewhere_24 : decode cX1_isBareSomewhere 24 = .ok (.aload_n 0, 1) := by decide +kernel
theorem dX1_isBareSomewhere_25 : decode cX1_isBareSomewhere 25 = .ok (.getfield 24, 3) := by decide +kernel
theorem dX1_isBareSomewhere_28 : decode cX1_isBareSomewhere 28 = .ok (.iload_n 1, 1) := by decide +kernel
theorem dX1_isBareSomewhere_29 : decode cX1_isBareSomewhere 29 = .ok (.iaload, 1) := by decide +kernel
theorem dX1_isBareSomewhere_30 : decode cX1_isBareSomewhere 30 = .ok (.iadd, 1) := by decide +kernel
theorem dX1_isBareSomewhere_31 : decode cX1_isBareSomewhere 31 = .ok (.if_icmp .ge 28, 3) := by decide +kernel
theorem dX1_isBareSomewhere_34 : decode cX1_isBareSomewhere 34 = .ok (.aload_n 0, 1) := by decide +kernel
theorem dX1_isBareSomewhere_35 : decode cX1_isBareSomewhere 35 = .ok (.iload_n 2, 1) := by decide +kernel
theorem dX1_isBareSomewhere_36 : decode cX1_isBareSomewhere 36 = .ok (.aload_n 0, 1) := by decide +kernel
theorem dX1_isBareSomewhere_37 : decode cX1_isBareSomewhere 37 = .ok (.getfield 18, 3) := by decide +kernel
theorem dX1_isBareSomewhere_40 : decode cX1_isBareSomewhere 40 = .ok (.iload_n 1, 1) := by decide +kernel
theorem dX1_isBareSomewhere_41 : decode cX1_isBareSomewhere 41 = .ok (.iaload, 1) := by decide +kernel
theorem dX1_isBareSomewhere_42 : decode cX1_isBareSomewhere 42 = .ok (.iconst 1, 1) := by decide +kernel
theorem dX1_isBareSomewhere_43 : decode cX1_isBareSomewhere 43 = .ok (.iadd, 1) := by decide +kernel
theorem dX1_isBareSomewhere_44 : decode cX1_isBareSomewhere 44 = .ok (.invokevirtual 68, 3) := by decide +kernel
theorem dX1_isBareSomewhere_47 : decode cX1_isBareSomewhere 47 = .ok (.iconst (-1), 1) := by decide +kernel
theorem dX1_isBareSomewhere_48 : decode cX1_isBareSomewhere 48 = .ok (.if_icmp .ne 5, 3) := by decide +kernel
theorem dX1_isBareSomewhere_51 : decode cX1_isBareSomewhere 51 = .ok (.iconst 1, 1) := by decide +kernel
theorem dX1_isBareSomewhere_52 : decode cX1_isBareSomewhere 52 = .ok (.ireturn, 1) := by decide +kernel
theorem dX1_isBareSomewhere_53 : decode cX1_isBareSomewhere 53 = .ok (.iinc 2 1, 3) := by decide +kernel
theorem dX1_isBareSomewhere_56 : decode cX1_isBareSomewhere 56 = .ok (.goto (-39), 3) := by decide +kernel
theorem dX1_isBareSomewhere_59 : decode cX1_isBareSomewhere 59 = .ok (.iconst 0, 1) := by decide +kernel
theorem dX1_isBareSomewhere_60 : decode cX1_isBareSomewhere 60 = .ok (.ireturn, 1) := by decide +kernel
theorem dX1_rotBy_0 : decode cX1_rotBy 0 = .ok (.iconst 0, 1) := by decide +kernel
theorem dX1_rotBy_1 : decode cX1_rotBy 1 = .ok (.istore_n 3, 1) := by decide +kernel
theorem dX1_rotBy_2 : decode cX1_rotBy 2 = .ok (.iload_n 3, 1) := by decide +kernel
theorem dX1_rotBy_3 : decode cX1_rotBy 3 = .ok (.bipush 12, 2) := by decide +kernel
theorem dX1_rotBy_5 : decode cX1_rotBy 5 = .ok (.if_icmp .ge 67, 3) := by decide +kernel
theorem dX1_rotBy_8 : decode cX1_rotBy 8 = .ok (.iconst 0, 1) := by decide +kernel
theorem dX1_rotBy_9 : decode cX1_rotBy 9 = .ok (.istore 4, 2) := by decide +kernel
theorem dX1_rotBy_11 : decode cX1_rotBy 11 = .ok (.bipush 7, 2) := by decide +kernel
theorem dX1_rotBy_13 : decode cX1_rotBy 13 = .ok (.istore 5, 2) := by decide +kernel
theorem dX1_rotBy_15 : decode cX1_rotBy 15 = .ok (.iload 5, 2) := by decide +kernel
theorem dX1_rotBy_17 : decode cX1_rotBy 17 = .ok (.ifCond .lt 49, 3) := by decide +kernel
theorem dX1_rotBy_20 : decode cX1_rotBy 20 = .ok (.aload_n 1, 1) := by decide +kernel
theorem dX1_rotBy_21 : decode cX1_rotBy 21 = .ok (.iload_n 2, 1) := by decide +kernel
theorem dX1_rotBy_22 : decode cX1_rotBy 22 = .ok (.iload 4, 2) := by decide +kernel
theorem dX1_rotBy_24 : decode cX1_rotBy 24 = .ok (.iload_n 3, 1) := by decide +kernel
theorem dX1_rotBy_25 : decode cX1_rotBy 25 = .ok (.iload 5, 2) := by decide +kernel
theorem dX1_rotBy_27 : decode cX1_rotBy 27 = .ok (.invokevirtual 104, 3) := by decide +kernel
theorem dX1_rotBy_30 : decode cX1_rotBy 30 = .ok (.istore 4, 2) := by decide +kernel
theorem dX1_rotBy_32 : decode cX1_rotBy 32 = .ok (.iload 4, 2) := by decide +kernel
theorem dX1_rotBy_34 : decode cX1_rotBy 34 = .ok (.bipush 6, 2) := by decide +kernel
theorem dX1_rotBy_36 : decode cX1_rotBy 36 = .ok (.if_icmp .lt 24, 3) := by decide +kernel
theorem dX1_rotBy_39 : decode cX1_rotBy 39 = .ok (.aload_n 0, 1) := by decide +kernel
theorem dX1_rotBy_40 : decode cX1_rotBy 40 = .ok (.iload_n 3, 1) := by decide +kernel
theorem dX1_rotBy_41 : decode cX1_rotBy 41 = .ok (.iload 5, 2) := by decide +kernel
theorem dX1_rotBy_43 : decode cX1_rotBy 43 = .ok (.aload_n 0, 1) := by decide +kernel
theorem dX1_rotBy_44 : decode cX1_rotBy 44 = .ok (.iload_n 3, 1) := by decide +kernel
theorem dX1_rotBy_45 : decode cX1_rotBy 45 = .ok (.iload 5, 2) := by decide +kernel
theorem dX1_rotBy_47 : decode cX1_rotBy 47 = .ok (.invokevirtual 82, 3) := by decide +kernel
theorem dX1_rotBy_50 : decode cX1_rotBy 50 = .ok (.iconst 1, 1) := by decide +kernel
theorem dX1_rotBy_51 : decode cX1_rotBy 51 = .ok (.iadd, 1) := by decide +kernel
theorem dX1_rotBy_52 : decode cX1_rotBy 52 = .ok (.bipush 9, 2) := by decide +kernel
theorem dX1_rotBy_54 : decode cX1_rotBy 54 = .ok (.invokestatic 110, 3) := by decide +kernel
theorem dX1_rotBy_57 : decode cX1_rotBy 57 = .ok (.invokevirtual 115, 3) := by decide +kernel
theorem dX1_rotBy_60 : decode cX1_rotBy 60 = .ok (.iinc 5 (-1), 3) := by decide +kernel
theorem dX1_rotBy_63 : decode cX1_rotBy 63 = .ok (.goto (-48), 3) := by decide +kernel
theorem dX1_rotBy_66 : decode cX1_rotBy 66 = .ok (.iinc 3 1, 3) := by decide +kernel
theorem dX1_rotBy_69 : decode cX1_rotBy 69 = .ok (.goto (-67), 3) := by decide +kernel
theorem dX1_rotBy_72 : decode cX1_rotBy 72 = .ok (.return_, 1) := by decide +kernel
theorem dX1_isWholeAt_0 : decode cX1_isWholeAt 0 = .ok (.aload_n 0, 1) := by decide +kernel
theorem dX1_isWholeAt_1 : decode cX1_isWholeAt 1 = .ok (.iload_n 1, 1) := by decide +kernel
theorem dX1_isWholeAt_2 : decode cX1_isWholeAt 2 = .ok (.iload_n 2, 1) := by decide +kernel
theorem dX1_isWholeAt_3 : decode cX1_isWholeAt 3 = .ok (.invokevirtual 68, 3) := by decide +kernel
theorem dX1_isWholeAt_6 : decode cX1_isWholeAt 6 = .ok (.istore_n 3, 1) := by decide +kernel
theorem dX1_isWholeAt_7 : decode cX1_isWholeAt 7 = .ok (.aload_n 0, 1) := by decide +kernel
theorem dX1_isWholeAt_8 : decode cX1_isWholeAt 8 = .ok (.iload_n 3, 1) := by decide +kernel
theorem dX1_isWholeAt_9 : decode cX1_isWholeAt 9 = .ok (.invokevirtual 65, 3) := by decide +kernel
theorem dX1_isWholeAt_12 : decode cX1_isWholeAt 12 = .ok (.ifCond .eq 16, 3) := by decide +kernel
theorem dX1_isWholeAt_15 : decode cX1_isWholeAt 15 = .ok (.aload_n 0, 1) := by decide +kernel
theorem dX1_isWholeAt_16 : decode cX1_isWholeAt 16 = .ok (.getfield 30, 3) := by decide +kernel
theorem dX1_isWholeAt_19 : decode cX1_isWholeAt 19 = .ok (.iload_n 3, 1) := by decide +kernel
theorem dX1_isWholeAt_20 : decode cX1_isWholeAt 20 = .ok (.baload, 1) := by decide +kernel
theorem dX1_isWholeAt_21 : decode cX1_isWholeAt 21 = .ok (.ifCond .ne 7, 3) := by decide +kernel
theorem dX1_isWholeAt_24 : decode cX1_isWholeAt 24 = .ok (.iconst 1, 1) := by decide +kernel
theorem dX1_isWholeAt_25 : decode cX1_isWholeAt 25 = .ok (.goto 4, 3) := by decide +kernel
theorem dX1_isWholeAt_28 : decode cX1_isWholeAt 28 = .ok (.iconst 0, 1) := by decide +kernel
theorem dX1_isWholeAt_29 : decode cX1_isWholeAt 29 = .ok (.ireturn, 1) := by decide +kernel
theorem dX1_isCovered_0 : decode cX1_isCovered 0 = .ok (.aload_n 0, 1) := by decide +kernel
theorem dX1_isCovered_1 : decode cX1_isCovered 1 = .ok (.iload_n 1, 1) := by decide +kernel
theorem dX1_isCovered_2 : decode cX1_isCovered 2 = .ok (.iload_n 2, 1) := by decide +kernel
theorem dX1_isCovered_3 : decode cX1_isCovered 3 = .ok (.invokevirtual 119, 3) := by decide +kernel
theorem dX1_isCovered_6 : decode cX1_isCovered 6 = .ok (.ifCond .ne 14, 3) := by decide +kernel
theorem dX1_isCovered_9 : decode cX1_isCovered 9 = .ok (.aload_n 0, 1) := by decide +kernel
theorem dX1_isCovered_10 : decode cX1_isCovered 10 = .ok (.iload_n 1, 1) := by decide +kernel
theorem dX1_isCovered_11 : decode cX1_isCovered 11 = .ok (.iload_n 2, 1) := by decide +kernel
theorem dX1_isCovered_12 : decode cX1_isCovered 12 = .ok (.iconst 1, 1) := by decide +kernel
theorem dX1_isCovered_13 : decode cX1_isCovered 13 = .ok (.iadd, 1) := by decide +kernel
theorem dX1_isCovered_14 : decode cX1_isCovered 14 = .ok (.invokevirtual 119, 3) := by decide +kernel
theorem dX1_isCovered_17 : decode cX1_isCovered 17 = .ok (.ifCond .eq 7, 3) := by decide +kernel
theorem dX1_isCovered_20 : decode cX1_isCovered 20 = .ok (.iconst 1, 1) := by decide +kernel
theorem dX1_isCovered_21 : decode cX1_isCovered 21 = .ok (.goto 4, 3) := by decide +kernel
theorem dX1_isCovered_24 : decode cX1_isCovered 24 = .ok (.iconst 0, 1) := by decide +kernel
theorem dX1_isCovered_25 : decode cX1_isCovered 25 = .ok (.ireturn, 1) := by decide +kernel
theorem dX1_coveredPlaces_0 : decode cX1_coveredPlaces 0 = .ok (.iconst 0, 1) := by decide +kernel
theorem dX1_coveredPlaces_1 : decode cX1_coveredPlaces 1 = .ok (.istore_n 1, 1) := by decide +kernel
theorem dX1_coveredPlaces_2 : decode cX1_coveredPlaces 2 = .ok (.iconst 0, 1) := by decide +kernel
theorem dX1_coveredPlaces_3 : decode cX1_coveredPlaces 3 = .ok (.istore_n 2, 1) := by decide +kernel
theorem dX1_coveredPlaces_4 : decode cX1_coveredPlaces 4 = .ok (.iload_n 2, 1) := by decide +kernel
theorem dX1_coveredPlaces_5 : decode cX1_coveredPlaces 5 = .ok (.bipush 8, 2) := by decide +kernel
theorem dX1_coveredPlaces_7 : decode cX1_coveredPlaces 7 = .ok (.if_icmp .ge 35, 3) := by decide +kernel
theorem dX1_coveredPlaces_10 : decode cX1_coveredPlaces 10 = .ok (.iconst 0, 1) := by decide +kernel
theorem dX1_coveredPlaces_11 : decode cX1_coveredPlaces 11 = .ok (.istore_n 3, 1) := by decide +kernel
theorem dX1_coveredPlaces_12 : decode cX1_coveredPlaces 12 = .ok (.iload_n 3, 1) := by decide +kernel
theorem dX1_coveredPlaces_13 : decode cX1_coveredPlaces 13 = .ok (.bipush 12, 2) := by decide +kernel
theorem dX1_coveredPlaces_15 : decode cX1_coveredPlaces 15 = .ok (.if_icmp .ge 21, 3) := by decide +kernel
theorem dX1_coveredPlaces_18 : decode cX1_coveredPlaces 18 = .ok (.aload_n 0, 1) := by decide +kernel
theorem dX1_coveredPlaces_19 : decode cX1_coveredPlaces 19 = .ok (.iload_n 3, 1) := by decide +kernel
theorem dX1_coveredPlaces_20 : decode cX1_coveredPlaces 20 = .ok (.iload_n 2, 1) := by decide +kernel
theorem dX1_coveredPlaces_21 : decode cX1_coveredPlaces 21 = .ok (.invokevirtual 122, 3) := by decide +kernel
theorem dX1_coveredPlaces_24 : decode cX1_coveredPlaces 24 = .ok (.ifCond .eq 6, 3) := by decide +kernel
theorem dX1_coveredPlaces_27 : decode cX1_coveredPlaces 27 = .ok (.iinc 1 1, 3) := by decide +kernel
theorem dX1_coveredPlaces_30 : decode cX1_coveredPlaces 30 = .ok (.iinc 3 1, 3) := by decide +kernel
theorem dX1_coveredPlaces_33 : decode cX1_coveredPlaces 33 = .ok (.goto (-21), 3) := by decide +kernel
theorem dX1_coveredPlaces_36 : decode cX1_coveredPlaces 36 = .ok (.iinc 2 1, 3) := by decide +kernel
theorem dX1_coveredPlaces_39 : decode cX1_coveredPlaces 39 = .ok (.goto (-35), 3) := by decide +kernel
theorem dX1_coveredPlaces_42 : decode cX1_coveredPlaces 42 = .ok (.iload_n 1, 1) := by decide +kernel
theorem dX1_coveredPlaces_43 : decode cX1_coveredPlaces 43 = .ok (.ireturn, 1) := by decide +kernel
theorem dX1_crackedThere_0 : decode cX1_crackedThere 0 = .ok (.iconst 0, 1) := by decide +kernel
theorem dX1_crackedThere_1 : decode cX1_crackedThere 1 = .ok (.istore_n 1, 1) := by decide +kernel
theorem dX1_crackedThere_2 : decode cX1_crackedThere 2 = .ok (.iconst 0, 1) := by decide +kernel
theorem dX1_crackedThere_3 : decode cX1_crackedThere 3 = .ok (.istore_n 2, 1) := by decide +kernel
theorem dX1_crackedThere_4 : decode cX1_crackedThere 4 = .ok (.iload_n 2, 1) := by decide +kernel
theorem dX1_crackedThere_5 : decode cX1_crackedThere 5 = .ok (.aload_n 0, 1) := by decide +kernel
theorem dX1_crackedThere_6 : decode cX1_crackedThere 6 = .ok (.getfield 44, 3) := by decide +kernel
theorem dX1_crackedThere_9 : decode cX1_crackedThere 9 = .ok (.if_icmp .ge 37, 3) := by decide +kernel
theorem dX1_crackedThere_12 : decode cX1_crackedThere 12 = .ok (.iload_n 2, 1) := by decide +kernel
theorem dX1_crackedThere_13 : decode cX1_crackedThere 13 = .ok (.sipush 200, 3) := by decide +kernel
theorem dX1_crackedThere_16 : decode cX1_crackedThere 16 = .ok (.if_icmp .ge 30, 3) := by decide +kernel
theorem dX1_crackedThere_19 : decode cX1_crackedThere 19 = .ok (.aload_n 0, 1) := by decide +kernel
theorem dX1_crackedThere_20 : decode cX1_crackedThere 20 = .ok (.getfield 34, 3) := by decide +kernel
theorem dX1_crackedThere_23 : decode cX1_crackedThere 23 = .ok (.iload_n 2, 1) := by decide +kernel
theorem dX1_crackedThere_24 : decode cX1_crackedThere 24 = .ok (.baload, 1) := by decide +kernel
theorem dX1_crackedThere_25 : decode cX1_crackedThere 25 = .ok (.ifCond .eq 15, 3) := by decide +kernel
theorem dX1_crackedThere_28 : decode cX1_crackedThere 28 = .ok (.aload_n 0, 1) := by decide +kernel
theorem dX1_crackedThere_29 : decode cX1_crackedThere 29 = .ok (.getfield 30, 3) := by decide +kernel
theorem dX1_crackedThere_32 : decode cX1_crackedThere 32 = .ok (.iload_n 2, 1) := by decide +kernel
theorem dX1_crackedThere_33 : decode cX1_crackedThere 33 = .ok (.baload, 1) := by decide +kernel
theorem dX1_crackedThere_34 : decode cX1_crackedThere 34 = .ok (.ifCond .eq 6, 3) := by decide +kernel
theorem dX1_crackedThere_37 : decode cX1_crackedThere 37 = .ok (.iinc 1 1, 3) := by decide +kernel
theorem dX1_crackedThere_40 : decode cX1_crackedThere 40 = .ok (.iinc 2 1, 3) := by decide +kernel
theorem dX1_crackedThere_43 : decode cX1_crackedThere 43 = .ok (.goto (-39), 3) := by decide +kernel
theorem dX1_crackedThere_46 : decode cX1_crackedThere 46 = .ok (.iload_n 1, 1) := by decide +kernel
theorem dX1_crackedThere_47 : decode cX1_crackedThere 47 = .ok (.ireturn, 1) := by decide +kernel
theorem dX1_allRot_0 : decode cX1_allRot 0 = .ok (.iconst 0, 1) := by decide +kernel
theorem dX1_allRot_1 : decode cX1_allRot 1 = .ok (.istore_n 1, 1) := by decide +kernel
theorem dX1_allRot_2 : decode cX1_allRot 2 = .ok (.iconst 0, 1) := by decide +kernel
theorem dX1_allRot_3 : decode cX1_allRot 3 = .ok (.istore_n 2, 1) := by decide +kernel
theorem dX1_allRot_4 : decode cX1_allRot 4 = .ok (.iload_n 2, 1) := by decide +kernel
theorem dX1_allRot_5 : decode cX1_allRot 5 = .ok (.bipush 96, 2) := by decide +kernel
theorem dX1_allRot_7 : decode cX1_allRot 7 = .ok (.if_icmp .ge 18, 3) := by decide +kernel
theorem dX1_allRot_10 : decode cX1_allRot 10 = .ok (.iload_n 1, 1) := by decide +kernel
theorem dX1_allRot_11 : decode cX1_allRot 11 = .ok (.aload_n 0, 1) := by decide +kernel
theorem dX1_allRot_12 : decode cX1_allRot 12 = .ok (.getfield 15, 3) := by decide +kernel
theorem dX1_allRot_15 : decode cX1_allRot 15 = .ok (.iload_n 2, 1) := by decide +kernel
theorem dX1_allRot_16 : decode cX1_allRot 16 = .ok (.iaload, 1) := by decide +kernel
theorem dX1_allRot_17 : decode cX1_allRot 17 = .ok (.iadd, 1) := by decide +kernel
theorem dX1_allRot_18 : decode cX1_allRot 18 = .ok (.istore_n 1, 1) := by decide +kernel
theorem dX1_allRot_19 : decode cX1_allRot 19 = .ok (.iinc 2 1, 3) := by decide +kernel
theorem dX1_allRot_22 : decode cX1_allRot 22 = .ok (.goto (-18), 3) := by decide +kernel
theorem dX1_allRot_25 : decode cX1_allRot 25 = .ok (.iload_n 1, 1) := by decide +kernel
theorem dX1_allRot_26 : decode cX1_allRot 26 = .ok (.ireturn, 1) := by decide +kernel
theorem dX1_inTheWay_0 : decode cX1_inTheWay 0 = .ok (.iconst 0, 1) := by decide +kernel
theorem dX1_inTheWay_1 : decode cX1_inTheWay 1 = .ok (.istore 4, 2) := by decide +kernel
theorem dX1_inTheWay_3 : decode cX1_inTheWay 3 = .ok (.iload 4, 2) := by decide +kernel
theorem dX1_inTheWay_5 : decode cX1_inTheWay 5 = .ok (.sipush 200, 3) := by decide +kernel
theorem dX1_inTheWay_8 : decode cX1_inTheWay 8 = .ok (.if_icmp .ge 17, 3) := by decide +kernel
theorem dX1_inTheWay_11 : decode cX1_inTheWay 11 = .ok (.aload_n 0, 1) := by decide +kernel
theorem dX1_inTheWay_12 : decode cX1_inTheWay 12 = .ok (.getfield 37, 3) := by decide +kernel
theorem dX1_inTheWay_15 : decode cX1_inTheWay 15 = .ok (.iload 4, 2) := by decide +kernel
theorem dX1_inTheWay_17 : decode cX1_inTheWay 17 = .ok (.iconst 0, 1) := by decide +kernel
theorem dX1_inTheWay_18 : decode cX1_inTheWay 18 = .ok (.bastore, 1) := by decide +kernel
theorem dX1_inTheWay_19 : decode cX1_inTheWay 19 = .ok (.iinc 4 1, 3) := by decide +kernel
theorem dX1_inTheWay_22 : decode cX1_inTheWay 22 = .ok (.goto (-19), 3) := by decide +kernel
theorem dX1_inTheWay_25 : decode cX1_inTheWay 25 = .ok (.iconst 0, 1) := by decide +kernel
theorem dX1_inTheWay_26 : decode cX1_inTheWay 26 = .ok (.istore 4, 2) := by decide +kernel
theorem dX1_inTheWay_28 : decode cX1_inTheWay 28 = .ok (.iload_n 2, 1) := by decide +kernel
theorem dX1_inTheWay_29 : decode cX1_inTheWay 29 = .ok (.istore 5, 2) := by decide +kernel
theorem dX1_inTheWay_31 : decode cX1_inTheWay 31 = .ok (.iload 5, 2) := by decide +kernel
theorem dX1_inTheWay_33 : decode cX1_inTheWay 33 = .ok (.iload_n 2, 1) := by decide +kernel
theorem dX1_inTheWay_34 : decode cX1_inTheWay 34 = .ok (.iload_n 3, 1) := by decide +kernel
theorem dX1_inTheWay_35 : decode cX1_inTheWay 35 = .ok (.iadd, 1) := by decide +kernel
theorem dX1_inTheWay_36 : decode cX1_inTheWay 36 = .ok (.if_icmp .ge 43, 3) := by decide +kernel
theorem dX1_inTheWay_39 : decode cX1_inTheWay 39 = .ok (.iload 4, 2) := by decide +kernel
theorem dX1_inTheWay_41 : decode cX1_inTheWay 41 = .ok (.aload_n 0, 1) := by decide +kernel
theorem dX1_inTheWay_42 : decode cX1_inTheWay 42 = .ok (.aload_n 0, 1) := by decide +kernel
theorem dX1_inTheWay_43 : decode cX1_inTheWay 43 = .ok (.iload 5, 2) := by decide +kernel
theorem dX1_inTheWay_45 : decode cX1_inTheWay 45 = .ok (.iload_n 1, 1) := by decide +kernel
theorem dX1_inTheWay_46 : decode cX1_inTheWay 46 = .ok (.invokevirtual 68, 3) := by decide +kernel
theorem dX1_inTheWay_49 : decode cX1_inTheWay 49 = .ok (.invokevirtual 125, 3) := by decide +kernel
theorem dX1_inTheWay_52 : decode cX1_inTheWay 52 = .ok (.iadd, 1) := by decide +kernel
theorem dX1_inTheWay_53 : decode cX1_inTheWay 53 = .ok (.istore 4, 2) := by decide +kernel
theorem dX1_inTheWay_55 : decode cX1_inTheWay 55 = .ok (.iload 4, 2) := by decide +kernel
theorem dX1_inTheWay_57 : decode cX1_inTheWay 57 = .ok (.aload_n 0, 1) := by decide +kernel
theorem dX1_inTheWay_58 : decode cX1_inTheWay 58 = .ok (.aload_n 0, 1) := by decide +kernel
theorem dX1_inTheWay_59 : decode cX1_inTheWay 59 = .ok (.iload 5, 2) := by decide +kernel
theorem dX1_inTheWay_61 : decode cX1_inTheWay 61 = .ok (.iload_n 1, 1) := by decide +kernel
theorem dX1_inTheWay_62 : decode cX1_inTheWay 62 = .ok (.iconst 1, 1) := by decide +kernel
theorem dX1_inTheWay_63 : decode cX1_inTheWay 63 = .ok (.iadd, 1) := by decide +kernel
theorem dX1_inTheWay_64 : decode cX1_inTheWay 64 = .ok (.invokevirtual 68, 3) := by decide +kernel
theorem dX1_inTheWay_67 : decode cX1_inTheWay 67 = .ok (.invokevirtual 125, 3) := by decide +kernel
theorem dX1_inTheWay_70 : decode cX1_inTheWay 70 = .ok (.iadd, 1) := by decide +kernel
theorem dX1_inTheWay_71 : decode cX1_inTheWay 71 = .ok (.istore 4, 2) := by decide +kernel
theorem dX1_inTheWay_73 : decode cX1_inTheWay 73 = .ok (.iinc 5 1, 3) := by decide +kernel
theorem dX1_inTheWay_76 : decode cX1_inTheWay 76 = .ok (.goto (-45), 3) := by decide +kernel
theorem dX1_inTheWay_79 : decode cX1_inTheWay 79 = .ok (.iload_n 1, 1) := by decide +kernel
theorem dX1_inTheWay_80 : decode cX1_inTheWay 80 = .ok (.istore 5, 2) := by decide +kernel
theorem dX1_inTheWay_82 : decode cX1_inTheWay 82 = .ok (.iload 5, 2) := by decide +kernel
theorem dX1_inTheWay_84 : decode cX1_inTheWay 84 = .ok (.bipush 8, 2) := by decide +kernel
theorem dX1_inTheWay_86 : decode cX1_inTheWay 86 = .ok (.if_icmp .ge 59, 3) := by decide +kernel
theorem dX1_inTheWay_89 : decode cX1_inTheWay 89 = .ok (.iconst 0, 1) := by decide +kernel
theorem dX1_inTheWay_90 : decode cX1_inTheWay 90 = .ok (.istore 6, 2) := by decide +kernel
theorem dX1_inTheWay_92 : decode cX1_inTheWay 92 = .ok (.iload 6, 2) := by decide +kernel
theorem dX1_inTheWay_94 : decode cX1_inTheWay 94 = .ok (.bipush 12, 2) := by decide +kernel
theorem dX1_inTheWay_96 : decode cX1_inTheWay 96 = .ok (.if_icmp .ge 43, 3) := by decide +kernel
theorem dX1_inTheWay_99 : decode cX1_inTheWay 99 = .ok (.aload_n 0, 1) := by decide +kernel
theorem dX1_inTheWay_100 : decode cX1_inTheWay 100 = .ok (.aload_n 0, 1) := by decide +kernel
theorem dX1_inTheWay_101 : decode cX1_inTheWay 101 = .ok (.iload 6, 2) := by decide +kernel
theorem dX1_inTheWay_103 : decode cX1_inTheWay 103 = .ok (.iload 5, 2) := by decide +kernel
theorem dX1_inTheWay_105 : decode cX1_inTheWay 105 = .ok (.invokevirtual 68, 3) := by decide +kernel
theorem dX1_inTheWay_108 : decode cX1_inTheWay 108 = .ok (.invokevirtual 128, 3) := by decide +kernel
theorem dX1_inTheWay_111 : decode cX1_inTheWay 111 = .ok (.ifCond .eq 22, 3) := by decide +kernel
theorem dX1_inTheWay_114 : decode cX1_inTheWay 114 = .ok (.iload 4, 2) := by decide +kernel
theorem dX1_inTheWay_116 : decode cX1_inTheWay 116 = .ok (.aload_n 0, 1) := by decide +kernel
theorem dX1_inTheWay_117 : decode cX1_inTheWay 117 = .ok (.aload_n 0, 1) := by decide +kernel
theorem dX1_inTheWay_118 : decode cX1_inTheWay 118 = .ok (.iload 6, 2) := by decide +kernel
theorem dX1_inTheWay_120 : decode cX1_inTheWay 120 = .ok (.iload 5, 2) := by decide +kernel
theorem dX1_inTheWay_122 : decode cX1_inTheWay 122 = .ok (.iconst 1, 1) := by decide +kernel
theorem dX1_inTheWay_123 : decode cX1_inTheWay 123 = .ok (.iadd, 1) := by decide +kernel
theorem dX1_inTheWay_124 : decode cX1_inTheWay 124 = .ok (.invokevirtual 68, 3) := by decide +kernel
theorem dX1_inTheWay_127 : decode cX1_inTheWay 127 = .ok (.invokevirtual 125, 3) := by decide +kernel
theorem dX1_inTheWay_130 : decode cX1_inTheWay 130 = .ok (.iadd, 1) := by decide +kernel
theorem dX1_inTheWay_131 : decode cX1_inTheWay 131 = .ok (.istore 4, 2) := by decide +kernel
theorem dX1_inTheWay_133 : decode cX1_inTheWay 133 = .ok (.iinc 6 1, 3) := by decide +kernel
theorem dX1_inTheWay_136 : decode cX1_inTheWay 136 = .ok (.goto (-44), 3) := by decide +kernel
theorem dX1_inTheWay_139 : decode cX1_inTheWay 139 = .ok (.iinc 5 1, 3) := by decide +kernel
theorem dX1_inTheWay_142 : decode cX1_inTheWay 142 = .ok (.goto (-60), 3) := by decide +kernel
theorem dX1_inTheWay_145 : decode cX1_inTheWay 145 = .ok (.iload 4, 2) := by decide +kernel
theorem dX1_inTheWay_147 : decode cX1_inTheWay 147 = .ok (.ireturn, 1) := by decide +kernel
theorem dX1_isGoing_0 : decode cX1_isGoing 0 = .ok (.aload_n 0, 1) := by decide +kernel
theorem dX1_isGoing_1 : decode cX1_isGoing 1 = .ok (.iload_n 1, 1) := by decide +kernel
theorem dX1_isGoing_2 : decode cX1_isGoing 2 = .ok (.invokevirtual 65, 3) := by decide +kernel
theorem dX1_isGoing_5 : decode cX1_isGoing 5 = .ok (.ifCond .eq 16, 3) := by decide +kernel
theorem dX1_isGoing_8 : decode cX1_isGoing 8 = .ok (.aload_n 0, 1) := by decide +kernel
theorem dX1_isGoing_9 : decode cX1_isGoing 9 = .ok (.getfield 37, 3) := by decide +kernel
theorem dX1_isGoing_12 : decode cX1_isGoing 12 = .ok (.iload_n 1, 1) := by decide +kernel
theorem dX1_isGoing_13 : decode cX1_isGoing 13 = .ok (.baload, 1) := by decide +kernel
theorem dX1_isGoing_14 : decode cX1_isGoing 14 = .ok (.ifCond .eq 7, 3) := by decide +kernel
theorem dX1_isGoing_17 : decode cX1_isGoing 17 = .ok (.iconst 1, 1) := by decide +kernel
theorem dX1_isGoing_18 : decode cX1_isGoing 18 = .ok (.goto 4, 3) := by decide +kernel
theorem dX1_isGoing_21 : decode cX1_isGoing 21 = .ok (.iconst 0, 1) := by decide +kernel
theorem dX1_isGoing_22 : decode cX1_isGoing 22 = .ok (.ireturn, 1) := by decide +kernel
theorem dX1_letGo_0 : decode cX1_letGo 0 = .ok (.aload_n 0, 1) := by decide +kernel
theorem dX1_letGo_1 : decode cX1_letGo 1 = .ok (.iload_n 1, 1) := by decide +kernel
theorem dX1_letGo_2 : decode cX1_letGo 2 = .ok (.invokevirtual 65, 3) := by decide +kernel
theorem dX1_letGo_5 : decode cX1_letGo 5 = .ok (.ifCond .eq 12, 3) := by decide +kernel
theorem dX1_letGo_8 : decode cX1_letGo 8 = .ok (.aload_n 0, 1) := by decide +kernel
theorem dX1_letGo_9 : decode cX1_letGo 9 = .ok (.getfield 37, 3) := by decide +kernel
theorem dX1_letGo_12 : decode cX1_letGo 12 = .ok (.iload_n 1, 1) := by decide +kernel
theorem dX1_letGo_13 : decode cX1_letGo 13 = .ok (.baload, 1) := by decide +kernel
theorem dX1_letGo_14 : decode cX1_letGo 14 = .ok (.ifCond .eq 5, 3) := by decide +kernel
theorem dX1_letGo_17 : decode cX1_letGo 17 = .ok (.iconst 0, 1) := by decide +kernel
theorem dX1_letGo_18 : decode cX1_letGo 18 = .ok (.ireturn, 1) := by decide +kernel
theorem dX1_letGo_19 : decode cX1_letGo 19 = .ok (.aload_n 0, 1) := by decide +kernel
theorem dX1_letGo_20 : decode cX1_letGo 20 = .ok (.getfield 37, 3) := by decide +kernel
theorem dX1_letGo_23 : decode cX1_letGo 23 = .ok (.iload_n 1, 1) := by decide +kernel
theorem dX1_letGo_24 : decode cX1_letGo 24 = .ok (.iconst 1, 1) := by decide +kernel
theorem dX1_letGo_25 : decode cX1_letGo 25 = .ok (.bastore, 1) := by decide +kernel
theorem dX1_letGo_26 : decode cX1_letGo 26 = .ok (.iconst 1, 1) := by decide +kernel
theorem dX1_letGo_27 : decode cX1_letGo 27 = .ok (.ireturn, 1) := by decide +kernel
theorem dX2_init_0 : decode cX2_init 0 = .ok (.aload_n 0, 1) := by decide +kernel
theorem dX2_init_1 : decode cX2_init 1 = .ok (.invokespecial 3, 3) := by decide +kernel
theorem dX2_init_4 : decode cX2_init 4 = .ok (.aload_n 0, 1) := by decide +kernel
theorem dX2_init_5 : decode cX2_init 5 = .ok (.bipush 7, 2) := by decide +kernel
theorem dX2_init_7 : decode cX2_init 7 = .ok (.newarray .int, 2) := by decide +kernel
theorem dX2_init_9 : decode cX2_init 9 = .ok (.putfield 9, 3) := by decide +kernel
theorem dX2_init_12 : decode cX2_init 12 = .ok (.aload_n 0, 1) := by decide +kernel
theorem dX2_init_13 : decode cX2_init 13 = .ok (.bipush 7, 2) := by decide +kernel
theorem dX2_init_15 : decode cX2_init 15 = .ok (.newarray .boolean, 2) := by decide +kernel
theorem dX2_init_17 : decode cX2_init 17 = .ok (.putfield 15, 3) := by decide +kernel
theorem dX2_init_20 : decode cX2_init 20 = .ok (.aload_n 0, 1) := by decide +kernel
theorem dX2_init_21 : decode cX2_init 21 = .ok (.bipush 7, 2) := by decide +kernel
theorem dX2_init_23 : decode cX2_init 23 = .ok (.newarray .int, 2) := by decide +kernel
theorem dX2_init_25 : decode cX2_init 25 = .ok (.putfield 19, 3) := by decide +kernel
theorem dX2_init_28 : decode cX2_init 28 = .ok (.aload_n 0, 1) := by decide +kernel
theorem dX2_init_29 : decode cX2_init 29 = .ok (.bipush 7, 2) := by decide +kernel
theorem dX2_init_31 : decode cX2_init 31 = .ok (.newarray .int, 2) := by decide +kernel
theorem dX2_init_33 : decode cX2_init 33 = .ok (.putfield 22, 3) := by decide +kernel
theorem dX2_init_36 : decode cX2_init 36 = .ok (.return_, 1) := by decide +kernel
theorem dX2_isDay_0 : decode cX2_isDay 0 = .ok (.iload_n 1, 1) := by decide +kernel
theorem dX2_isDay_1 : decode cX2_isDay 1 = .ok (.ifCond .lt 13, 3) := by decide +kernel
theorem dX2_isDay_4 : decode cX2_isDay 4 = .ok (.iload_n 1, 1) := by decide +kernel
theorem dX2_isDay_5 : decode cX2_isDay 5 = .ok (.bipush 7, 2) := by decide +kernel
theorem dX2_isDay_7 : decode cX2_isDay 7 = .ok (.if_icmp .ge 7, 3) := by decide +kernel
theorem dX2_isDay_10 : decode cX2_isDay 10 = .ok (.iconst 1, 1) := by decide +kernel
theorem dX2_isDay_11 : decode cX2_isDay 11 = .ok (.goto 4, 3) := by decide +kernel
theorem dX2_isDay_14 : decode cX2_isDay 14 = .ok (.iconst 0, 1) := by decide +kernel
theorem dX2_isDay_15 : decode cX2_isDay 15 = .ok (.ireturn, 1) := by decide +kernel
theorem dX2_write_0 : decode cX2_write 0 = .ok (.aload_n 0, 1) := by decide +kernel
theorem dX2_write_1 : decode cX2_write 1 = .ok (.iload_n 1, 1) := by decide +kernel
theorem dX2_write_2 : decode cX2_write 2 = .ok (.invokevirtual 25, 3) := by decide +kernel
theorem dX2_write_5 : decode cX2_write 5 = .ok (.ifCond .eq 33, 3) := by decide +kernel
theorem dX2_write_8 : decode cX2_write 8 = .ok (.aload_n 0, 1) := by decide +kernel
theorem dX2_write_9 : decode cX2_write 9 = .ok (.getfield 9, 3) := by decide +kernel
theorem dX2_write_12 : decode cX2_write 12 = .ok (.iload_n 1, 1) := by decide +kernel
theorem dX2_write_13 : decode cX2_write 13 = .ok (.iload_n 2, 1) := by decide +kernel
theorem dX2_write_14 : decode cX2_write 14 = .ok (.iastore, 1) := by decide +kernel
theorem dX2_write_15 : decode cX2_write 15 = .ok (.aload_n 0, 1) := by decide +kernel
theorem dX2_write_16 : decode cX2_write 16 = .ok (.getfield 15, 3) := by decide +kernel
theorem dX2_write_19 : decode cX2_write 19 = .ok (.iload_n 1, 1) := by decide +kernel
theorem dX2_write_20 : decode cX2_write 20 = .ok (.iload_n 3, 1) := by decide +kernel
theorem dX2_write_21 : decode cX2_write 21 = .ok (.bastore, 1) := by decide +kernel
theorem dX2_write_22 : decode cX2_write 22 = .ok (.aload_n 0, 1) := by decide +kernel
theorem dX2_write_23 : decode cX2_write 23 = .ok (.getfield 19, 3) := by decide +kernel
theorem dX2_write_26 : decode cX2_write 26 = .ok (.iload_n 1, 1) := by decide +kernel
theorem dX2_write_27 : decode cX2_write 27 = .ok (.iload 4, 2) := by decide +kernel
theorem dX2_write_29 : decode cX2_write 29 = .ok (.iastore, 1) := by decide +kernel
theorem dX2_write_30 : decode cX2_write 30 = .ok (.aload_n 0, 1) := by decide +kernel
theorem dX2_write_31 : decode cX2_write 31 = .ok (.getfield 22, 3) := by decide +kernel
theorem dX2_write_34 : decode cX2_write 34 = .ok (.iload_n 1, 1) := by decide +kernel
theorem dX2_write_35 : decode cX2_write 35 = .ok (.iload 5, 2) := by decide +kernel
theorem dX2_write_37 : decode cX2_write 37 = .ok (.iastore, 1) := by decide +kernel
theorem dX2_write_38 : decode cX2_write 38 = .ok (.return_, 1) := by decide +kernel
theorem dX2_told_0 : decode cX2_told 0 = .ok (.bipush 100, 2) := by decide +kernel
theorem dX2_told_2 : decode cX2_told 2 = .ok (.aload_n 0, 1) := by decide +kernel
theorem dX2_told_3 : decode cX2_told 3 = .ok (.iload_n 1, 1) := by decide +kernel
theorem dX2_told_4 : decode cX2_told 4 = .ok (.invokevirtual 29, 3) := by decide +kernel
theorem dX2_told_7 : decode cX2_told 7 = .ok (.imul, 1) := by decide +kernel
theorem dX2_told_8 : decode cX2_told 8 = .ok (.bipush 10, 2) := by decide +kernel
theorem dX2_told_10 : decode cX2_told 10 = .ok (.aload_n 0, 1) := by decide +kernel
theorem dX2_told_11 : decode cX2_told 11 = .ok (.iload_n 1, 1) := by decide +kernel
theorem dX2_told_12 : decode cX2_told 12 = .ok (.invokevirtual 33, 3) := by decide +kernel
theorem dX2_told_15 : decode cX2_told 15 = .ok (.imul, 1) := by decide +kernel
theorem dX2_told_16 : decode cX2_told 16 = .ok (.iadd, 1) := by decide +kernel
theorem dX2_told_17 : decode cX2_told 17 = .ok (.aload_n 0, 1) := by decide +kernel
theorem dX2_told_18 : decode cX2_told 18 = .ok (.iload_n 1, 1) := by decide +kernel
theorem dX2_told_19 : decode cX2_told 19 = .ok (.invokevirtual 36, 3) := by decide +kernel
theorem dX2_told_22 : decode cX2_told 22 = .ok (.iadd, 1) := by decide +kernel
theorem dX2_told_23 : decode cX2_told 23 = .ok (.ireturn, 1) := by decide +kernel
theorem dX2_forceOf_0 : decode cX2_forceOf 0 = .ok (.aload_n 0, 1) := by decide +kernel
theorem dX2_forceOf_1 : decode cX2_forceOf 1 = .ok (.iload_n 1, 1) := by decide +kernel
theorem dX2_forceOf_2 : decode cX2_forceOf 2 = .ok (.invokevirtual 25, 3) := by decide +kernel
theorem dX2_forceOf_5 : decode cX2_forceOf 5 = .ok (.ifCond .eq 12, 3) := by decide +kernel
theorem dX2_forceOf_8 : decode cX2_forceOf 8 = .ok (.aload_n 0, 1) := by decide +kernel
theorem dX2_forceOf_9 : decode cX2_forceOf 9 = .ok (.getfield 9, 3) := by decide +kernel
theorem dX2_forceOf_12 : decode cX2_forceOf 12 = .ok (.iload_n 1, 1) := by decide +kernel
theorem dX2_forceOf_13 : decode cX2_forceOf 13 = .ok (.iaload, 1) := by decide +kernel
theorem dX2_forceOf_14 : decode cX2_forceOf 14 = .ok (.goto 4, 3) := by decide +kernel
theorem dX2_forceOf_17 : decode cX2_forceOf 17 = .ok (.iconst 0, 1) := by decide +kernel
theorem dX2_forceOf_18 : decode cX2_forceOf 18 = .ok (.ireturn, 1) := by decide +kernel
theorem dX2_isFromRight_0 : decode cX2_isFromRight 0 = .ok (.aload_n 0, 1) := by decide +kernel
theorem dX2_isFromRight_1 : decode cX2_isFromRight 1 = .ok (.iload_n 1, 1) := by decide +kernel
theorem dX2_isFromRight_2 : decode cX2_isFromRight 2 = .ok (.invokevirtual 25, 3) := by decide +kernel
theorem dX2_isFromRight_5 : decode cX2_isFromRight 5 = .ok (.ifCond .eq 16, 3) := by decide +kernel
theorem dX2_isFromRight_8 : decode cX2_isFromRight 8 = .ok (.aload_n 0, 1) := by decide +kernel
theorem dX2_isFromRight_9 : decode cX2_isFromRight 9 = .ok (.getfield 15, 3) := by decide +kernel
theorem dX2_isFromRight_12 : decode cX2_isFromRight 12 = .ok (.iload_n 1, 1) := by decide +kernel
theorem dX2_isFromRight_13 : decode cX2_isFromRight 13 = .ok (.baload, 1) := by decide +kernel
theorem dX2_isFromRight_14 : decode cX2_isFromRight 14 = .ok (.ifCond .eq 7, 3) := by decide +kernel
theorem dX2_isFromRight_17 : decode cX2_isFromRight 17 = .ok (.iconst 1, 1) := by decide +kernel
theorem dX2_isFromRight_18 : decode cX2_isFromRight 18 = .ok (.goto 4, 3) := by decide +kernel
theorem dX2_isFromRight_21 : decode cX2_isFromRight 21 = .ok (.iconst 0, 1) := by decide +kernel
theorem dX2_isFromRight_22 : decode cX2_isFromRight 22 = .ok (.ireturn, 1) := by decide +kernel
theorem dX2_hailOf_0 : decode cX2_hailOf 0 = .ok (.aload_n 0, 1) := by decide +kernel
theorem dX2_hailOf_1 : decode cX2_hailOf 1 = .ok (.iload_n 1, 1) := by decide +kernel
theorem dX2_hailOf_2 : decode cX2_hailOf 2 = .ok (.invokevirtual 25, 3) := by decide +kernel
theorem dX2_hailOf_5 : decode cX2_hailOf 5 = .ok (.ifCond .eq 12, 3) := by decide +kernel
theorem dX2_hailOf_8 : decode cX2_hailOf 8 = .ok (.aload_n 0, 1) := by decide +kernel
theorem dX2_hailOf_9 : decode cX2_hailOf 9 = .ok (.getfield 19, 3) := by decide +kernel
theorem dX2_hailOf_12 : decode cX2_hailOf 12 = .ok (.iload_n 1, 1) := by decide +kernel
theorem dX2_hailOf_13 : decode cX2_hailOf 13 = .ok (.iaload, 1) := by decide +kernel
theorem dX2_hailOf_14 : decode cX2_hailOf 14 = .ok (.goto 4, 3) := by decide +kernel
theorem dX2_hailOf_17 : decode cX2_hailOf 17 = .ok (.iconst 0, 1) := by decide +kernel
theorem dX2_hailOf_18 : decode cX2_hailOf 18 = .ok (.ireturn, 1) := by decide +kernel
theorem dX2_rainOf_0 : decode cX2_rainOf 0 = .ok (.aload_n 0, 1) := by decide +kernel
theorem dX2_rainOf_1 : decode cX2_rainOf 1 = .ok (.iload_n 1, 1) := by decide +kernel
theorem dX2_rainOf_2 : decode cX2_rainOf 2 = .ok (.invokevirtual 25, 3) := by decide +kernel
theorem dX2_rainOf_5 : decode cX2_rainOf 5 = .ok (.ifCond .eq 12, 3) := by decide +kernel
theorem dX2_rainOf_8 : decode cX2_rainOf 8 = .ok (.aload_n 0, 1) := by decide +kernel
theorem dX2_rainOf_9 : decode cX2_rainOf 9 = .ok (.getfield 22, 3) := by decide +kernel
theorem dX2_rainOf_12 : decode cX2_rainOf 12 = .ok (.iload_n 1, 1) := by decide +kernel
theorem dX2_rainOf_13 : decode cX2_rainOf 13 = .ok (.iaload, 1) := by decide +kernel
theorem dX2_rainOf_14 : decode cX2_rainOf 14 = .ok (.goto 4, 3) := by decide +kernel
theorem dX2_rainOf_17 : decode cX2_rainOf 17 = .ok (.iconst 0, 1) := by decide +kernel
theorem dX2_rainOf_18 : decode cX2_rainOf 18 = .ok (.ireturn, 1) := by decide +kernel
theorem dX3_init_0 : decode cX3_init 0 = .ok (.aload_n 0, 1) := by decide +kernel
theorem dX3_init_1 : decode cX3_init 1 = .ok (.invokespecial 3, 3) := by decide +kernel
theorem dX3_init_4 : decode cX3_init 4 = .ok (.aload_n 0, 1) := by decide +kernel
theorem dX3_init_5 : decode cX3_init 5 = .ok (.new 9, 3) := by decide +kernel
theorem dX3_init_8 : decode cX3_init 8 = .ok (.dup, 1) := by decide +kernel
theorem dX3_init_9 : decode cX3_init 9 = .ok (.invokespecial 11, 3) := by decide +kernel
theorem dX3_init_12 : decode cX3_init 12 = .ok (.putfield 12, 3) := by decide +kernel
theorem dX3_init_15 : decode cX3_init 15 = .ok (.aload_n 0, 1) := by decide +kernel
theorem dX3_init_16 : decode cX3_init 16 = .ok (.new 9, 3) := by decide +kernel
theorem dX3_init_19 : decode cX3_init 19 = .ok (.dup, 1) := by decide +kernel
theorem dX3_init_20 : decode cX3_init 20 = .ok (.invokespecial 11, 3) := by decide +kernel
theorem dX3_init_23 : decode cX3_init 23 = .ok (.putfield 16, 3) := by decide +kernel
theorem dX3_init_26 : decode cX3_init 26 = .ok (.aload_n 0, 1) := by decide +kernel
theorem dX3_init_27 : decode cX3_init 27 = .ok (.new 19, 3) := by decide +kernel
theorem dX3_init_30 : decode cX3_init 30 = .ok (.dup, 1) := by decide +kernel
theorem dX3_init_31 : decode cX3_init 31 = .ok (.invokespecial 21, 3) := by decide +kernel
theorem dX3_init_34 : decode cX3_init 34 = .ok (.putfield 22, 3) := by decide +kernel
theorem dX3_init_37 : decode cX3_init 37 = .ok (.aload_n 0, 1) := by decide +kernel
theorem dX3_init_38 : decode cX3_init 38 = .ok (.new 26, 3) := by decide +kernel
theorem dX3_init_41 : decode cX3_init 41 = .ok (.dup, 1) := by decide +kernel
theorem dX3_init_42 : decode cX3_init 42 = .ok (.invokespecial 28, 3) := by decide +kernel
theorem dX3_init_45 : decode cX3_init 45 = .ok (.putfield 29, 3) := by decide +kernel
theorem dX3_init_48 : decode cX3_init 48 = .ok (.return_, 1) := by decide +kernel
theorem dX3_lay_0 : decode cX3_lay 0 = .ok (.iload_n 1, 1) := by decide +kernel
theorem dX3_lay_1 : decode cX3_lay 1 = .ok (.iload_n 2, 1) := by decide +kernel
theorem dX3_lay_2 : decode cX3_lay 2 = .ok (.iload_n 3, 1) := by decide +kernel
theorem dX3_lay_3 : decode cX3_lay 3 = .ok (.invokestatic 33, 3) := by decide +kernel
theorem dX3_lay_6 : decode cX3_lay 6 = .ok (.ifCond .eq 11, 3) := by decide +kernel
theorem dX3_lay_9 : decode cX3_lay 9 = .ok (.iload 4, 2) := by decide +kernel
theorem dX3_lay_11 : decode cX3_lay 11 = .ok (.invokestatic 37, 3) := by decide +kernel
theorem dX3_lay_14 : decode cX3_lay 14 = .ok (.ifCond .ne 13, 3) := by decide +kernel
theorem dX3_lay_17 : decode cX3_lay 17 = .ok (.new 41, 3) := by decide +kernel
theorem dX3_lay_20 : decode cX3_lay 20 = .ok (.dup, 1) := by decide +kernel
theorem dX3_lay_21 : decode cX3_lay 21 = .ok (.ldc 43, 2) := by decide +kernel
theorem dX3_lay_23 : decode cX3_lay 23 = .ok (.invokespecial 45, 3) := by decide +kernel
theorem dX3_lay_26 : decode cX3_lay 26 = .ok (.athrow, 1) := by decide +kernel
theorem dX3_lay_27 : decode cX3_lay 27 = .ok (.aload_n 0, 1) := by decide +kernel
theorem dX3_lay_28 : decode cX3_lay 28 = .ok (.getfield 12, 3) := by decide +kernel
theorem dX3_lay_31 : decode cX3_lay 31 = .ok (.getfield 48, 3) := by decide +kernel
theorem dX3_lay_34 : decode cX3_lay 34 = .ok (.bipush 60, 2) := by decide +kernel
theorem dX3_lay_36 : decode cX3_lay 36 = .ok (.if_icmp .ge 29, 3) := by decide +kernel
theorem dX3_lay_39 : decode cX3_lay 39 = .ok (.aload_n 0, 1) := by decide +kernel
theorem dX3_lay_40 : decode cX3_lay 40 = .ok (.getfield 12, 3) := by decide +kernel
theorem dX3_lay_43 : decode cX3_lay 43 = .ok (.getfield 52, 3) := by decide +kernel
theorem dX3_lay_46 : decode cX3_lay 46 = .ok (.sipush 200, 3) := by decide +kernel
theorem dX3_lay_49 : decode cX3_lay 49 = .ok (.if_icmp .ge 16, 3) := by decide +kernel
theorem dX3_lay_52 : decode cX3_lay 52 = .ok (.aload_n 0, 1) := by decide +kernel
theorem dX3_lay_53 : decode cX3_lay 53 = .ok (.getfield 12, 3) := by decide +kernel
theorem dX3_lay_56 : decode cX3_lay 56 = .ok (.iload_n 1, 1) := by decide +kernel
theorem dX3_lay_57 : decode cX3_lay 57 = .ok (.iload_n 2, 1) := by decide +kernel
theorem dX3_lay_58 : decode cX3_lay 58 = .ok (.iload_n 3, 1) := by decide +kernel
theorem dX3_lay_59 : decode cX3_lay 59 = .ok (.invokevirtual 55, 3) := by decide +kernel
theorem dX3_lay_62 : decode cX3_lay 62 = .ok (.ifCond .ne 13, 3) := by decide +kernel
theorem dX3_lay_65 : decode cX3_lay 65 = .ok (.new 58, 3) := by decide +kernel
theorem dX3_lay_68 : decode cX3_lay 68 = .ok (.dup, 1) := by decide +kernel
theorem dX3_lay_69 : decode cX3_lay 69 = .ok (.ldc 60, 2) := by decide +kernel
theorem dX3_lay_71 : decode cX3_lay 71 = .ok (.invokespecial 62, 3) := by decide +kernel
theorem dX3_lay_74 : decode cX3_lay 74 = .ok (.athrow, 1) := by decide +kernel
theorem dX3_lay_75 : decode cX3_lay 75 = .ok (.aload_n 0, 1) := by decide +kernel
theorem dX3_lay_76 : decode cX3_lay 76 = .ok (.getfield 12, 3) := by decide +kernel
theorem dX3_lay_79 : decode cX3_lay 79 = .ok (.iload_n 1, 1) := by decide +kernel
theorem dX3_lay_80 : decode cX3_lay 80 = .ok (.iload_n 2, 1) := by decide +kernel
theorem dX3_lay_81 : decode cX3_lay 81 = .ok (.iload_n 3, 1) := by decide +kernel
theorem dX3_lay_82 : decode cX3_lay 82 = .ok (.iload 4, 2) := by decide +kernel
theorem dX3_lay_84 : decode cX3_lay 84 = .ok (.invokevirtual 63, 3) := by decide +kernel
theorem dX3_lay_87 : decode cX3_lay 87 = .ok (.ireturn, 1) := by decide +kernel
theorem dX3_take_0 : decode cX3_take 0 = .ok (.aload_n 0, 1) := by decide +kernel
theorem dX3_take_1 : decode cX3_take 1 = .ok (.getfield 12, 3) := by decide +kernel
theorem dX3_take_4 : decode cX3_take 4 = .ok (.iload_n 1, 1) := by decide +kernel
theorem dX3_take_5 : decode cX3_take 5 = .ok (.invokevirtual 67, 3) := by decide +kernel
theorem dX3_take_8 : decode cX3_take 8 = .ok (.ifCond .ne 13, 3) := by decide +kernel
theorem dX3_take_11 : decode cX3_take 11 = .ok (.new 70, 3) := by decide +kernel
theorem dX3_take_14 : decode cX3_take 14 = .ok (.dup, 1) := by decide +kernel
theorem dX3_take_15 : decode cX3_take 15 = .ok (.ldc 72, 2) := by decide +kernel
theorem dX3_take_17 : decode cX3_take 17 = .ok (.invokespecial 74, 3) := by decide +kernel
theorem dX3_take_20 : decode cX3_take 20 = .ok (.athrow, 1) := by decide +kernel
theorem dX3_take_21 : decode cX3_take 21 = .ok (.aload_n 0, 1) := by decide +kernel
theorem dX3_take_22 : decode cX3_take 22 = .ok (.getfield 12, 3) := by decide +kernel
theorem dX3_take_25 : decode cX3_take 25 = .ok (.iload_n 1, 1) := by decide +kernel
theorem dX3_take_26 : decode cX3_take 26 = .ok (.invokevirtual 75, 3) := by decide +kernel
theorem dX3_take_29 : decode cX3_take 29 = .ok (.ifCond .ne 13, 3) := by decide +kernel
theorem dX3_take_32 : decode cX3_take 32 = .ok (.new 58, 3) := by decide +kernel
theorem dX3_take_35 : decode cX3_take 35 = .ok (.dup, 1) := by decide +kernel
theorem dX3_take_36 : decode cX3_take 36 = .ok (.ldc 78, 2) := by decide +kernel
theorem dX3_take_38 : decode cX3_take 38 = .ok (.invokespecial 62, 3) := by decide +kernel
theorem dX3_take_41 : decode cX3_take 41 = .ok (.athrow, 1) := by decide +kernel
theorem dX3_take_42 : decode cX3_take 42 = .ok (.aload_n 0, 1) := by decide +kernel
theorem dX3_take_43 : decode cX3_take 43 = .ok (.getfield 12, 3) := by decide +kernel
theorem dX3_take_46 : decode cX3_take 46 = .ok (.iload_n 1, 1) := by decide +kernel
theorem dX3_take_47 : decode cX3_take 47 = .ok (.invokevirtual 80, 3) := by decide +kernel
theorem dX3_take_50 : decode cX3_take 50 = .ok (.aload_n 0, 1) := by decide +kernel
theorem dX3_take_51 : decode cX3_take 51 = .ok (.getfield 12, 3) := by decide +kernel
theorem dX3_take_54 : decode cX3_take 54 = .ok (.iload_n 1, 1) := by decide +kernel
theorem dX3_take_55 : decode cX3_take 55 = .ok (.invokevirtual 84, 3) := by decide +kernel
theorem dX3_take_58 : decode cX3_take 58 = .ok (.ireturn, 1) := by decide +kernel
theorem dX3_nail_0 : decode cX3_nail 0 = .ok (.aload_n 0, 1) := by decide +kernel
theorem dX3_nail_1 : decode cX3_nail 1 = .ok (.getfield 12, 3) := by decide +kernel
theorem dX3_nail_4 : decode cX3_nail 4 = .ok (.iload_n 1, 1) := by decide +kernel
theorem dX3_nail_5 : decode cX3_nail 5 = .ok (.invokevirtual 67, 3) := by decide +kernel
theorem dX3_nail_8 : decode cX3_nail 8 = .ok (.ifCond .ne 13, 3) := by decide +kernel
theorem dX3_nail_11 : decode cX3_nail 11 = .ok (.new 70, 3) := by decide +kernel
theorem dX3_nail_14 : decode cX3_nail 14 = .ok (.dup, 1) := by decide +kernel
theorem dX3_nail_15 : decode cX3_nail 15 = .ok (.ldc 72, 2) := by decide +kernel
theorem dX3_nail_17 : decode cX3_nail 17 = .ok (.invokespecial 74, 3) := by decide +kernel
theorem dX3_nail_20 : decode cX3_nail 20 = .ok (.athrow, 1) := by decide +kernel
theorem dX3_nail_21 : decode cX3_nail 21 = .ok (.iload_n 2, 1) := by decide +kernel
theorem dX3_nail_22 : decode cX3_nail 22 = .ok (.invokestatic 37, 3) := by decide +kernel
theorem dX3_nail_25 : decode cX3_nail 25 = .ok (.ifCond .ne 13, 3) := by decide +kernel
theorem dX3_nail_28 : decode cX3_nail 28 = .ok (.new 41, 3) := by decide +kernel
theorem dX3_nail_31 : decode cX3_nail 31 = .ok (.dup, 1) := by decide +kernel
theorem dX3_nail_32 : decode cX3_nail 32 = .ok (.ldc 88, 2) := by decide +kernel
theorem dX3_nail_34 : decode cX3_nail 34 = .ok (.invokespecial 45, 3) := by decide +kernel
theorem dX3_nail_37 : decode cX3_nail 37 = .ok (.athrow, 1) := by decide +kernel
theorem dX3_nail_38 : decode cX3_nail 38 = .ok (.aload_n 0, 1) := by decide +kernel
theorem dX3_nail_39 : decode cX3_nail 39 = .ok (.getfield 12, 3) := by decide +kernel
theorem dX3_nail_42 : decode cX3_nail 42 = .ok (.iload_n 1, 1) := by decide +kernel
theorem dX3_nail_43 : decode cX3_nail 43 = .ok (.invokevirtual 75, 3) := by decide +kernel
theorem dX3_nail_46 : decode cX3_nail 46 = .ok (.ifCond .ne 13, 3) := by decide +kernel
theorem dX3_nail_49 : decode cX3_nail 49 = .ok (.new 58, 3) := by decide +kernel
theorem dX3_nail_52 : decode cX3_nail 52 = .ok (.dup, 1) := by decide +kernel
theorem dX3_nail_53 : decode cX3_nail 53 = .ok (.ldc 78, 2) := by decide +kernel
theorem dX3_nail_55 : decode cX3_nail 55 = .ok (.invokespecial 62, 3) := by decide +kernel
theorem dX3_nail_58 : decode cX3_nail 58 = .ok (.athrow, 1) := by decide +kernel
theorem dX3_nail_59 : decode cX3_nail 59 = .ok (.aload_n 0, 1) := by decide +kernel
theorem dX3_nail_60 : decode cX3_nail 60 = .ok (.getfield 12, 3) := by decide +kernel
theorem dX3_nail_63 : decode cX3_nail 63 = .ok (.iload_n 1, 1) := by decide +kernel
theorem dX3_nail_64 : decode cX3_nail 64 = .ok (.invokevirtual 84, 3) := by decide +kernel
theorem dX3_nail_67 : decode cX3_nail 67 = .ok (.istore_n 3, 1) := by decide +kernel
theorem dX3_nail_68 : decode cX3_nail 68 = .ok (.aload_n 0, 1) := by decide +kernel
theorem dX3_nail_69 : decode cX3_nail 69 = .ok (.getfield 12, 3) := by decide +kernel
theorem dX3_nail_72 : decode cX3_nail 72 = .ok (.iload_n 1, 1) := by decide +kernel
theorem dX3_nail_73 : decode cX3_nail 73 = .ok (.iload_n 2, 1) := by decide +kernel
theorem dX3_nail_74 : decode cX3_nail 74 = .ok (.invokevirtual 90, 3) := by decide +kernel
theorem dX3_nail_77 : decode cX3_nail 77 = .ok (.iload_n 3, 1) := by decide +kernel
theorem dX3_nail_78 : decode cX3_nail 78 = .ok (.ireturn, 1) := by decide +kernel
theorem dX3_board_0 : decode cX3_board 0 = .ok (.iload_n 1, 1) := by decide +kernel
theorem dX3_board_1 : decode cX3_board 1 = .ok (.iload_n 2, 1) := by decide +kernel
theorem dX3_board_2 : decode cX3_board 2 = .ok (.invokestatic 94, 3) := by decide +kernel
theorem dX3_board_5 : decode cX3_board 5 = .ok (.ifCond .ne 13, 3) := by decide +kernel
theorem dX3_board_8 : decode cX3_board 8 = .ok (.new 70, 3) := by decide +kernel
theorem dX3_board_11 : decode cX3_board 11 = .ok (.dup, 1) := by decide +kernel
theorem dX3_board_12 : decode cX3_board 12 = .ok (.ldc 98, 2) := by decide +kernel
theorem dX3_board_14 : decode cX3_board 14 = .ok (.invokespecial 74, 3) := by decide +kernel
theorem dX3_board_17 : decode cX3_board 17 = .ok (.athrow, 1) := by decide +kernel
theorem dX3_board_18 : decode cX3_board 18 = .ok (.aload_n 0, 1) := by decide +kernel
theorem dX3_board_19 : decode cX3_board 19 = .ok (.getfield 12, 3) := by decide +kernel
theorem dX3_board_22 : decode cX3_board 22 = .ok (.iload_n 1, 1) := by decide +kernel
theorem dX3_board_23 : decode cX3_board 23 = .ok (.iload_n 2, 1) := by decide +kernel
theorem dX3_board_24 : decode cX3_board 24 = .ok (.invokevirtual 100, 3) := by decide +kernel
theorem dX3_board_27 : decode cX3_board 27 = .ok (.iconst (-1), 1) := by decide +kernel
theorem dX3_board_28 : decode cX3_board 28 = .ok (.if_icmp .eq 13, 3) := by decide +kernel
theorem dX3_board_31 : decode cX3_board 31 = .ok (.new 58, 3) := by decide +kernel
theorem dX3_board_34 : decode cX3_board 34 = .ok (.dup, 1) := by decide +kernel
theorem dX3_board_35 : decode cX3_board 35 = .ok (.ldc 104, 2) := by decide +kernel
theorem dX3_board_37 : decode cX3_board 37 = .ok (.invokespecial 62, 3) := by decide +kernel
theorem dX3_board_40 : decode cX3_board 40 = .ok (.athrow, 1) := by decide +kernel
theorem dX3_board_41 : decode cX3_board 41 = .ok (.aload_n 0, 1) := by decide +kernel
theorem dX3_board_42 : decode cX3_board 42 = .ok (.getfield 12, 3) := by decide +kernel
theorem dX3_board_45 : decode cX3_board 45 = .ok (.iload_n 1, 1) := by decide +kernel
theorem dX3_board_46 : decode cX3_board 46 = .ok (.iload_n 2, 1) := by decide +kernel
theorem dX3_board_47 : decode cX3_board 47 = .ok (.invokevirtual 106, 3) := by decide +kernel
theorem dX3_board_50 : decode cX3_board 50 = .ok (.istore_n 3, 1) := by decide +kernel
theorem dX3_board_51 : decode cX3_board 51 = .ok (.aload_n 0, 1) := by decide +kernel
theorem dX3_board_52 : decode cX3_board 52 = .ok (.getfield 12, 3) := by decide +kernel
theorem dX3_board_55 : decode cX3_board 55 = .ok (.iload_n 1, 1) := by decide +kernel
theorem dX3_board_56 : decode cX3_board 56 = .ok (.iload_n 2, 1) := by decide +kernel
theorem dX3_board_57 : decode cX3_board 57 = .ok (.iconst 0, 1) := by decide +kernel
theorem dX3_board_58 : decode cX3_board 58 = .ok (.invokevirtual 109, 3) := by decide +kernel
theorem dX3_board_61 : decode cX3_board 61 = .ok (.iload_n 3, 1) := by decide +kernel
theorem dX3_board_62 : decode cX3_board 62 = .ok (.ireturn, 1) := by decide +kernel
theorem dX3_setDay_0 : decode cX3_setDay 0 = .ok (.iload_n 1, 1) := by decide +kernel
theorem dX3_setDay_1 : decode cX3_setDay 1 = .ok (.bipush 6, 2) := by decide +kernel
theorem dX3_setDay_3 : decode cX3_setDay 3 = .ok (.invokestatic 113, 3) := by decide +kernel
theorem dX3_setDay_6 : decode cX3_setDay 6 = .ok (.ifCond .ne 13, 3) := by decide +kernel
theorem dX3_setDay_9 : decode cX3_setDay 9 = .ok (.new 70, 3) := by decide +kernel
theorem dX3_setDay_12 : decode cX3_setDay 12 = .ok (.dup, 1) := by decide +kernel
theorem dX3_setDay_13 : decode cX3_setDay 13 = .ok (.ldc 116, 2) := by decide +kernel
theorem dX3_setDay_15 : decode cX3_setDay 15 = .ok (.invokespecial 74, 3) := by decide +kernel
theorem dX3_setDay_18 : decode cX3_setDay 18 = .ok (.athrow, 1) := by decide +kernel
theorem dX3_setDay_19 : decode cX3_setDay 19 = .ok (.iload_n 2, 1) := by decide +kernel
theorem dX3_setDay_20 : decode cX3_setDay 20 = .ok (.bipush 20, 2) := by decide +kernel
theorem dX3_setDay_22 : decode cX3_setDay 22 = .ok (.invokestatic 113, 3) := by decide +kernel
theorem dX3_setDay_25 : decode cX3_setDay 25 = .ok (.ifCond .eq 23, 3) := by decide +kernel
theorem dX3_setDay_28 : decode cX3_setDay 28 = .ok (.iload 4, 2) := by decide +kernel
theorem dX3_setDay_30 : decode cX3_setDay 30 = .ok (.bipush 9, 2) := by decide +kernel
theorem dX3_setDay_32 : decode cX3_setDay 32 = .ok (.invokestatic 113, 3) := by decide +kernel
theorem dX3_setDay_35 : decode cX3_setDay 35 = .ok (.ifCond .eq 13, 3) := by decide +kernel
theorem dX3_setDay_38 : decode cX3_setDay 38 = .ok (.iload 5, 2) := by decide +kernel
theorem dX3_setDay_40 : decode cX3_setDay 40 = .ok (.bipush 9, 2) := by decide +kernel
theorem dX3_setDay_42 : decode cX3_setDay 42 = .ok (.invokestatic 113, 3) := by decide +kernel
theorem dX3_setDay_45 : decode cX3_setDay 45 = .ok (.ifCond .ne 13, 3) := by decide +kernel
theorem dX3_setDay_48 : decode cX3_setDay 48 = .ok (.new 41, 3) := by decide +kernel
theorem dX3_setDay_51 : decode cX3_setDay 51 = .ok (.dup, 1) := by decide +kernel
theorem dX3_setDay_52 : decode cX3_setDay 52 = .ok (.ldc 118, 2) := by decide +kernel
theorem dX3_setDay_54 : decode cX3_setDay 54 = .ok (.invokespecial 45, 3) := by decide +kernel
theorem dX3_setDay_57 : decode cX3_setDay 57 = .ok (.athrow, 1) := by decide +kernel
theorem dX3_setDay_58 : decode cX3_setDay 58 = .ok (.aload_n 0, 1) := by decide +kernel
theorem dX3_setDay_59 : decode cX3_setDay 59 = .ok (.getfield 29, 3) := by decide +kernel
theorem dX3_setDay_62 : decode cX3_setDay 62 = .ok (.iload_n 1, 1) := by decide +kernel
theorem dX3_setDay_63 : decode cX3_setDay 63 = .ok (.invokevirtual 120, 3) := by decide +kernel
theorem dX3_setDay_66 : decode cX3_setDay 66 = .ok (.istore 6, 2) := by decide +kernel
theorem dX3_setDay_68 : decode cX3_setDay 68 = .ok (.aload_n 0, 1) := by decide +kernel
theorem dX3_setDay_69 : decode cX3_setDay 69 = .ok (.getfield 29, 3) := by decide +kernel
theorem dX3_setDay_72 : decode cX3_setDay 72 = .ok (.iload_n 1, 1) := by decide +kernel
theorem dX3_setDay_73 : decode cX3_setDay 73 = .ok (.iload_n 2, 1) := by decide +kernel
theorem dX3_setDay_74 : decode cX3_setDay 74 = .ok (.iload_n 3, 1) := by decide +kernel
theorem dX3_setDay_75 : decode cX3_setDay 75 = .ok (.iload 4, 2) := by decide +kernel
theorem dX3_setDay_77 : decode cX3_setDay 77 = .ok (.iload 5, 2) := by decide +kernel
theorem dX3_setDay_79 : decode cX3_setDay 79 = .ok (.invokevirtual 123, 3) := by decide +kernel
theorem dX3_setDay_82 : decode cX3_setDay 82 = .ok (.iload 6, 2) := by decide +kernel
theorem dX3_setDay_84 : decode cX3_setDay 84 = .ok (.ireturn, 1) := by decide +kernel
theorem dX3_slate_0 : decode cX3_slate 0 = .ok (.aload_n 0, 1) := by decide +kernel
theorem dX3_slate_1 : decode cX3_slate 1 = .ok (.getfield 12, 3) := by decide +kernel
theorem dX3_slate_4 : decode cX3_slate 4 = .ok (.iload_n 1, 1) := by decide +kernel
theorem dX3_slate_5 : decode cX3_slate 5 = .ok (.invokevirtual 67, 3) := by decide +kernel
theorem dX3_slate_8 : decode cX3_slate 8 = .ok (.ifCond .eq 12, 3) := by decide +kernel
theorem dX3_slate_11 : decode cX3_slate 11 = .ok (.iload_n 2, 1) := by decide +kernel
theorem dX3_slate_12 : decode cX3_slate 12 = .ok (.bipush 7, 2) := by decide +kernel
theorem dX3_slate_14 : decode cX3_slate 14 = .ok (.invokestatic 113, 3) := by decide +kernel
theorem dX3_slate_17 : decode cX3_slate 17 = .ok (.ifCond .ne 13, 3) := by decide +kernel
theorem dX3_slate_20 : decode cX3_slate 20 = .ok (.new 70, 3) := by decide +kernel
theorem dX3_slate_23 : decode cX3_slate 23 = .ok (.dup, 1) := by decide +kernel
theorem dX3_slate_24 : decode cX3_slate 24 = .ok (.ldc 127, 2) := by decide +kernel
theorem dX3_slate_26 : decode cX3_slate 26 = .ok (.invokespecial 74, 3) := by decide +kernel
theorem dX3_slate_29 : decode cX3_slate 29 = .ok (.athrow, 1) := by decide +kernel
theorem dX3_slate_30 : decode cX3_slate 30 = .ok (.aload_n 0, 1) := by decide +kernel
theorem dX3_slate_31 : decode cX3_slate 31 = .ok (.getfield 12, 3) := by decide +kernel
theorem dX3_slate_34 : decode cX3_slate 34 = .ok (.iload_n 1, 1) := by decide +kernel
theorem dX3_slate_35 : decode cX3_slate 35 = .ok (.iload_n 2, 1) := by decide +kernel
theorem dX3_slate_36 : decode cX3_slate 36 = .ok (.invokevirtual 129, 3) := by decide +kernel
theorem dX3_slate_39 : decode cX3_slate 39 = .ok (.ireturn, 1) := by decide +kernel
theorem dX3_place_0 : decode cX3_place 0 = .ok (.iload_n 1, 1) := by decide +kernel
theorem dX3_place_1 : decode cX3_place 1 = .ok (.iload_n 2, 1) := by decide +kernel
theorem dX3_place_2 : decode cX3_place 2 = .ok (.invokestatic 94, 3) := by decide +kernel
theorem dX3_place_5 : decode cX3_place 5 = .ok (.ifCond .eq 11, 3) := by decide +kernel
theorem dX3_place_8 : decode cX3_place 8 = .ok (.iload_n 3, 1) := by decide +kernel
theorem dX3_place_9 : decode cX3_place 9 = .ok (.iconst 2, 1) := by decide +kernel
theorem dX3_place_10 : decode cX3_place 10 = .ok (.invokestatic 113, 3) := by decide +kernel
theorem dX3_place_13 : decode cX3_place 13 = .ok (.ifCond .ne 13, 3) := by decide +kernel
theorem dX3_place_16 : decode cX3_place 16 = .ok (.new 70, 3) := by decide +kernel
theorem dX3_place_19 : decode cX3_place 19 = .ok (.dup, 1) := by decide +kernel
theorem dX3_place_20 : decode cX3_place 20 = .ok (.ldc 132, 2) := by decide +kernel
theorem dX3_place_22 : decode cX3_place 22 = .ok (.invokespecial 74, 3) := by decide +kernel
theorem dX3_place_25 : decode cX3_place 25 = .ok (.athrow, 1) := by decide +kernel
theorem dX3_place_26 : decode cX3_place 26 = .ok (.iload_n 3, 1) := by decide +kernel
theorem dX3_place_27 : decode cX3_place 27 = .ok (.lookupswitch 53 #[(0, 25), (1, 35)], 25) := by decide +kernel
theorem dX3_place_52 : decode cX3_place 52 = .ok (.aload_n 0, 1) := by decide +kernel
theorem dX3_place_53 : decode cX3_place 53 = .ok (.getfield 12, 3) := by decide +kernel
theorem dX3_place_56 : decode cX3_place 56 = .ok (.iload_n 1, 1) := by decide +kernel
theorem dX3_place_57 : decode cX3_place 57 = .ok (.iload_n 2, 1) := by decide +kernel
theorem dX3_place_58 : decode cX3_place 58 = .ok (.invokevirtual 100, 3) := by decide +kernel
theorem dX3_place_61 : decode cX3_place 61 = .ok (.ireturn, 1) := by decide +kernel
theorem dX3_place_62 : decode cX3_place 62 = .ok (.aload_n 0, 1) := by decide +kernel
theorem dX3_place_63 : decode cX3_place 63 = .ok (.getfield 12, 3) := by decide +kernel
theorem dX3_place_66 : decode cX3_place 66 = .ok (.iload_n 1, 1) := by decide +kernel
theorem dX3_place_67 : decode cX3_place 67 = .ok (.iload_n 2, 1) := by decide +kernel
theorem dX3_place_68 : decode cX3_place 68 = .ok (.invokevirtual 134, 3) := by decide +kernel
theorem dX3_place_71 : decode cX3_place 71 = .ok (.ifCond .eq 7, 3) := by decide +kernel
theorem dX3_place_74 : decode cX3_place 74 = .ok (.iconst 1, 1) := by decide +kernel
theorem dX3_place_75 : decode cX3_place 75 = .ok (.goto 4, 3) := by decide +kernel
theorem dX3_place_78 : decode cX3_place 78 = .ok (.iconst 0, 1) := by decide +kernel
theorem dX3_place_79 : decode cX3_place 79 = .ok (.ireturn, 1) := by decide +kernel
theorem dX3_place_80 : decode cX3_place 80 = .ok (.aload_n 0, 1) := by decide +kernel
theorem dX3_place_81 : decode cX3_place 81 = .ok (.getfield 12, 3) := by decide +kernel
theorem dX3_place_84 : decode cX3_place 84 = .ok (.iload_n 1, 1) := by decide +kernel
theorem dX3_place_85 : decode cX3_place 85 = .ok (.iload_n 2, 1) := by decide +kernel
theorem dX3_place_86 : decode cX3_place 86 = .ok (.invokevirtual 106, 3) := by decide +kernel
theorem dX3_place_89 : decode cX3_place 89 = .ok (.ireturn, 1) := by decide +kernel
theorem dX3_count_0 : decode cX3_count 0 = .ok (.iload_n 1, 1) := by decide +kernel
theorem dX3_count_1 : decode cX3_count 1 = .ok (.bipush 6, 2) := by decide +kernel
theorem dX3_count_3 : decode cX3_count 3 = .ok (.invokestatic 113, 3) := by decide +kernel
theorem dX3_count_6 : decode cX3_count 6 = .ok (.ifCond .ne 13, 3) := by decide +kernel
theorem dX3_count_9 : decode cX3_count 9 = .ok (.new 70, 3) := by decide +kernel
theorem dX3_count_12 : decode cX3_count 12 = .ok (.dup, 1) := by decide +kernel
theorem dX3_count_13 : decode cX3_count 13 = .ok (.ldc 137, 2) := by decide +kernel
theorem dX3_count_15 : decode cX3_count 15 = .ok (.invokespecial 74, 3) := by decide +kernel
theorem dX3_count_18 : decode cX3_count 18 = .ok (.athrow, 1) := by decide +kernel
theorem dX3_count_19 : decode cX3_count 19 = .ok (.iload_n 1, 1) := by decide +kernel
theorem dX3_count_20 : decode cX3_count 20 = .ok (.tableswitch 88 0 5 #[40, 48, 56, 64, 72, 80], 40) := by decide +kernel
theorem dX3_count_60 : decode cX3_count 60 = .ok (.aload_n 0, 1) := by decide +kernel
theorem dX3_count_61 : decode cX3_count 61 = .ok (.getfield 12, 3) := by decide +kernel
theorem dX3_count_64 : decode cX3_count 64 = .ok (.getfield 139, 3) := by decide +kernel
theorem dX3_count_67 : decode cX3_count 67 = .ok (.ireturn, 1) := by decide +kernel
theorem dX3_count_68 : decode cX3_count 68 = .ok (.aload_n 0, 1) := by decide +kernel
theorem dX3_count_69 : decode cX3_count 69 = .ok (.getfield 12, 3) := by decide +kernel
theorem dX3_count_72 : decode cX3_count 72 = .ok (.getfield 52, 3) := by decide +kernel
theorem dX3_count_75 : decode cX3_count 75 = .ok (.ireturn, 1) := by decide +kernel
theorem dX3_count_76 : decode cX3_count 76 = .ok (.aload_n 0, 1) := by decide +kernel
theorem dX3_count_77 : decode cX3_count 77 = .ok (.getfield 12, 3) := by decide +kernel
theorem dX3_count_80 : decode cX3_count 80 = .ok (.getfield 48, 3) := by decide +kernel
theorem dX3_count_83 : decode cX3_count 83 = .ok (.ireturn, 1) := by decide +kernel
theorem dX3_count_84 : decode cX3_count 84 = .ok (.aload_n 0, 1) := by decide +kernel
theorem dX3_count_85 : decode cX3_count 85 = .ok (.getfield 12, 3) := by decide +kernel
theorem dX3_count_88 : decode cX3_count 88 = .ok (.invokevirtual 142, 3) := by decide +kernel
theorem dX3_count_91 : decode cX3_count 91 = .ok (.ireturn, 1) := by decide +kernel
theorem dX3_count_92 : decode cX3_count 92 = .ok (.aload_n 0, 1) := by decide +kernel
theorem dX3_count_93 : decode cX3_count 93 = .ok (.getfield 12, 3) := by decide +kernel
theorem dX3_count_96 : decode cX3_count 96 = .ok (.invokevirtual 146, 3) := by decide +kernel
theorem dX3_count_99 : decode cX3_count 99 = .ok (.ireturn, 1) := by decide +kernel
theorem dX3_count_100 : decode cX3_count 100 = .ok (.aload_n 0, 1) := by decide +kernel
theorem dX3_count_101 : decode cX3_count 101 = .ok (.getfield 12, 3) := by decide +kernel
theorem dX3_count_104 : decode cX3_count 104 = .ok (.getfield 149, 3) := by decide +kernel
theorem dX3_count_107 : decode cX3_count 107 = .ok (.ireturn, 1) := by decide +kernel
theorem dX3_count_108 : decode cX3_count 108 = .ok (.aload_n 0, 1) := by decide +kernel
theorem dX3_count_109 : decode cX3_count 109 = .ok (.getfield 12, 3) := by decide +kernel
theorem dX3_count_112 : decode cX3_count 112 = .ok (.invokevirtual 152, 3) := by decide +kernel
theorem dX3_count_115 : decode cX3_count 115 = .ok (.ireturn, 1) := by decide +kernel
theorem dX3_lift_0 : decode cX3_lift 0 = .ok (.aload_n 0, 1) := by decide +kernel
theorem dX3_lift_1 : decode cX3_lift 1 = .ok (.getfield 12, 3) := by decide +kernel
theorem dX3_lift_4 : decode cX3_lift 4 = .ok (.iload_n 1, 1) := by decide +kernel
theorem dX3_lift_5 : decode cX3_lift 5 = .ok (.invokevirtual 67, 3) := by decide +kernel
theorem dX3_lift_8 : decode cX3_lift 8 = .ok (.ifCond .ne 13, 3) := by decide +kernel
theorem dX3_lift_11 : decode cX3_lift 11 = .ok (.new 70, 3) := by decide +kernel
theorem dX3_lift_14 : decode cX3_lift 14 = .ok (.dup, 1) := by decide +kernel
theorem dX3_lift_15 : decode cX3_lift 15 = .ok (.ldc 72, 2) := by decide +kernel
theorem dX3_lift_17 : decode cX3_lift 17 = .ok (.invokespecial 74, 3) := by decide +kernel
theorem dX3_lift_20 : decode cX3_lift 20 = .ok (.athrow, 1) := by decide +kernel
theorem dX3_lift_21 : decode cX3_lift 21 = .ok (.iload_n 2, 1) := by decide +kernel
theorem dX3_lift_22 : decode cX3_lift 22 = .ok (.bipush 20, 2) := by decide +kernel
theorem dX3_lift_24 : decode cX3_lift 24 = .ok (.invokestatic 113, 3) := by decide +kernel
theorem dX3_lift_27 : decode cX3_lift 27 = .ok (.ifCond .ne 13, 3) := by decide +kernel
theorem dX3_lift_30 : decode cX3_lift 30 = .ok (.new 41, 3) := by decide +kernel
theorem dX3_lift_33 : decode cX3_lift 33 = .ok (.dup, 1) := by decide +kernel
theorem dX3_lift_34 : decode cX3_lift 34 = .ok (.ldc 155, 2) := by decide +kernel
theorem dX3_lift_36 : decode cX3_lift 36 = .ok (.invokespecial 45, 3) := by decide +kernel
theorem dX3_lift_39 : decode cX3_lift 39 = .ok (.athrow, 1) := by decide +kernel
theorem dX3_lift_40 : decode cX3_lift 40 = .ok (.aload_n 0, 1) := by decide +kernel
theorem dX3_lift_41 : decode cX3_lift 41 = .ok (.getfield 12, 3) := by decide +kernel
theorem dX3_lift_44 : decode cX3_lift 44 = .ok (.iload_n 1, 1) := by decide +kernel
theorem dX3_lift_45 : decode cX3_lift 45 = .ok (.invokevirtual 157, 3) := by decide +kernel
theorem dX3_lift_48 : decode cX3_lift 48 = .ok (.ifCond .ne 13, 3) := by decide +kernel
theorem dX3_lift_51 : decode cX3_lift 51 = .ok (.new 58, 3) := by decide +kernel
theorem dX3_lift_54 : decode cX3_lift 54 = .ok (.dup, 1) := by decide +kernel
theorem dX3_lift_55 : decode cX3_lift 55 = .ok (.ldc 160, 2) := by decide +kernel
theorem dX3_lift_57 : decode cX3_lift 57 = .ok (.invokespecial 62, 3) := by decide +kernel
theorem dX3_lift_60 : decode cX3_lift 60 = .ok (.athrow, 1) := by decide +kernel
theorem dX3_lift_61 : decode cX3_lift 61 = .ok (.aload_n 0, 1) := by decide +kernel
theorem dX3_lift_62 : decode cX3_lift 62 = .ok (.getfield 12, 3) := by decide +kernel
theorem dX3_lift_65 : decode cX3_lift 65 = .ok (.iload_n 1, 1) := by decide +kernel
theorem dX3_lift_66 : decode cX3_lift 66 = .ok (.iload_n 2, 1) := by decide +kernel
theorem dX3_lift_67 : decode cX3_lift 67 = .ok (.iload_n 3, 1) := by decide +kernel
theorem dX3_lift_68 : decode cX3_lift 68 = .ok (.invokevirtual 162, 3) := by decide +kernel
theorem dX3_lift_71 : decode cX3_lift 71 = .ok (.ireturn, 1) := by decide +kernel
theorem dX3_storm_0 : decode cX3_storm 0 = .ok (.iload_n 1, 1) := by decide +kernel
theorem dX3_storm_1 : decode cX3_storm 1 = .ok (.bipush 20, 2) := by decide +kernel
theorem dX3_storm_3 : decode cX3_storm 3 = .ok (.invokestatic 113, 3) := by decide +kernel
theorem dX3_storm_6 : decode cX3_storm 6 = .ok (.ifCond .ne 13, 3) := by decide +kernel
theorem dX3_storm_9 : decode cX3_storm 9 = .ok (.new 41, 3) := by decide +kernel
theorem dX3_storm_12 : decode cX3_storm 12 = .ok (.dup, 1) := by decide +kernel
theorem dX3_storm_13 : decode cX3_storm 13 = .ok (.ldc 155, 2) := by decide +kernel
theorem dX3_storm_15 : decode cX3_storm 15 = .ok (.invokespecial 45, 3) := by decide +kernel
theorem dX3_storm_18 : decode cX3_storm 18 = .ok (.athrow, 1) := by decide +kernel
theorem dX3_storm_19 : decode cX3_storm 19 = .ok (.iload_n 3, 1) := by decide +kernel
theorem dX3_storm_20 : decode cX3_storm 20 = .ok (.iconst 2, 1) := by decide +kernel
theorem dX3_storm_21 : decode cX3_storm 21 = .ok (.invokestatic 113, 3) := by decide +kernel
theorem dX3_storm_24 : decode cX3_storm 24 = .ok (.ifCond .ne 13, 3) := by decide +kernel
theorem dX3_storm_27 : decode cX3_storm 27 = .ok (.new 70, 3) := by decide +kernel
theorem dX3_storm_30 : decode cX3_storm 30 = .ok (.dup, 1) := by decide +kernel
theorem dX3_storm_31 : decode cX3_storm 31 = .ok (.ldc 166, 2) := by decide +kernel
theorem dX3_storm_33 : decode cX3_storm 33 = .ok (.invokespecial 74, 3) := by decide +kernel
theorem dX3_storm_36 : decode cX3_storm 36 = .ok (.athrow, 1) := by decide +kernel
theorem dX3_storm_37 : decode cX3_storm 37 = .ok (.aload_n 0, 1) := by decide +kernel
theorem dX3_storm_38 : decode cX3_storm 38 = .ok (.getfield 16, 3) := by decide +kernel
theorem dX3_storm_41 : decode cX3_storm 41 = .ok (.aload_n 0, 1) := by decide +kernel
theorem dX3_storm_42 : decode cX3_storm 42 = .ok (.getfield 12, 3) := by decide +kernel
theorem dX3_storm_45 : decode cX3_storm 45 = .ok (.invokevirtual 168, 3) := by decide +kernel
theorem dX3_storm_48 : decode cX3_storm 48 = .ok (.aload_n 0, 1) := by decide +kernel
theorem dX3_storm_49 : decode cX3_storm 49 = .ok (.getfield 16, 3) := by decide +kernel
theorem dX3_storm_52 : decode cX3_storm 52 = .ok (.iload_n 1, 1) := by decide +kernel
theorem dX3_storm_53 : decode cX3_storm 53 = .ok (.iload_n 2, 1) := by decide +kernel
theorem dX3_storm_54 : decode cX3_storm 54 = .ok (.invokevirtual 172, 3) := by decide +kernel
theorem dX3_storm_57 : decode cX3_storm 57 = .ok (.istore 4, 2) := by decide +kernel
theorem dX3_storm_59 : decode cX3_storm 59 = .ok (.iload_n 3, 1) := by decide +kernel
theorem dX3_storm_60 : decode cX3_storm 60 = .ok (.lookupswitch 47 #[(0, 28), (1, 44)], 28) := by decide +kernel
theorem dX3_storm_88 : decode cX3_storm 88 = .ok (.aload_n 0, 1) := by decide +kernel
theorem dX3_storm_89 : decode cX3_storm 89 = .ok (.getfield 16, 3) := by decide +kernel
theorem dX3_storm_92 : decode cX3_storm 92 = .ok (.getfield 149, 3) := by decide +kernel
theorem dX3_storm_95 : decode cX3_storm 95 = .ok (.aload_n 0, 1) := by decide +kernel
theorem dX3_storm_96 : decode cX3_storm 96 = .ok (.getfield 12, 3) := by decide +kernel
theorem dX3_storm_99 : decode cX3_storm 99 = .ok (.getfield 149, 3) := by decide +kernel
theorem dX3_storm_102 : decode cX3_storm 102 = .ok (.isub, 1) := by decide +kernel
theorem dX3_storm_103 : decode cX3_storm 103 = .ok (.ireturn, 1) := by decide +kernel
theorem dX3_storm_104 : decode cX3_storm 104 = .ok (.iload 4, 2) := by decide +kernel
theorem dX3_storm_106 : decode cX3_storm 106 = .ok (.ireturn, 1) := by decide +kernel
theorem dX3_storm_107 : decode cX3_storm 107 = .ok (.aload_n 0, 1) := by decide +kernel
theorem dX3_storm_108 : decode cX3_storm 108 = .ok (.getfield 16, 3) := by decide +kernel
theorem dX3_storm_111 : decode cX3_storm 111 = .ok (.invokevirtual 146, 3) := by decide +kernel
theorem dX3_storm_114 : decode cX3_storm 114 = .ok (.ireturn, 1) := by decide +kernel
theorem dX3_bears_0 : decode cX3_bears 0 = .ok (.iconst 1, 1) := by decide +kernel
theorem dX3_bears_1 : decode cX3_bears 1 = .ok (.istore_n 2, 1) := by decide +kernel
theorem dX3_bears_2 : decode cX3_bears 2 = .ok (.iload_n 2, 1) := by decide +kernel
theorem dX3_bears_3 : decode cX3_bears 3 = .ok (.bipush 20, 2) := by decide +kernel
theorem dX3_bears_5 : decode cX3_bears 5 = .ok (.if_icmp .gt 25, 3) := by decide +kernel
theorem dX3_bears_8 : decode cX3_bears 8 = .ok (.aload_n 0, 1) := by decide +kernel
theorem dX3_bears_9 : decode cX3_bears 9 = .ok (.getfield 12, 3) := by decide +kernel
theorem dX3_bears_12 : decode cX3_bears 12 = .ok (.iload_n 2, 1) := by decide +kernel
theorem dX3_bears_13 : decode cX3_bears 13 = .ok (.iload_n 1, 1) := by decide +kernel
theorem dX3_bears_14 : decode cX3_bears 14 = .ok (.invokevirtual 176, 3) := by decide +kernel
theorem dX3_bears_17 : decode cX3_bears 17 = .ok (.ifCond .le 7, 3) := by decide +kernel
theorem dX3_bears_20 : decode cX3_bears 20 = .ok (.iload_n 2, 1) := by decide +kernel
theorem dX3_bears_21 : decode cX3_bears 21 = .ok (.iconst 1, 1) := by decide +kernel
theorem dX3_bears_22 : decode cX3_bears 22 = .ok (.isub, 1) := by decide +kernel
theorem dX3_bears_23 : decode cX3_bears 23 = .ok (.ireturn, 1) := by decide +kernel
theorem dX3_bears_24 : decode cX3_bears 24 = .ok (.iinc 2 1, 3) := by decide +kernel
theorem dX3_bears_27 : decode cX3_bears 27 = .ok (.goto (-25), 3) := by decide +kernel
theorem dX3_bears_30 : decode cX3_bears 30 = .ok (.bipush 20, 2) := by decide +kernel
theorem dX3_bears_32 : decode cX3_bears 32 = .ok (.ireturn, 1) := by decide +kernel
theorem dX3_comes_0 : decode cX3_comes 0 = .ok (.iload_n 1, 1) := by decide +kernel
theorem dX3_comes_1 : decode cX3_comes 1 = .ok (.bipush 9, 2) := by decide +kernel
theorem dX3_comes_3 : decode cX3_comes 3 = .ok (.invokestatic 113, 3) := by decide +kernel
theorem dX3_comes_6 : decode cX3_comes 6 = .ok (.ifCond .ne 13, 3) := by decide +kernel
theorem dX3_comes_9 : decode cX3_comes 9 = .ok (.new 41, 3) := by decide +kernel
theorem dX3_comes_12 : decode cX3_comes 12 = .ok (.dup, 1) := by decide +kernel
theorem dX3_comes_13 : decode cX3_comes 13 = .ok (.ldc 179, 2) := by decide +kernel
theorem dX3_comes_15 : decode cX3_comes 15 = .ok (.invokespecial 45, 3) := by decide +kernel
theorem dX3_comes_18 : decode cX3_comes 18 = .ok (.athrow, 1) := by decide +kernel
theorem dX3_comes_19 : decode cX3_comes 19 = .ok (.iload_n 2, 1) := by decide +kernel
theorem dX3_comes_20 : decode cX3_comes 20 = .ok (.iload_n 3, 1) := by decide +kernel
theorem dX3_comes_21 : decode cX3_comes 21 = .ok (.invokestatic 94, 3) := by decide +kernel
theorem dX3_comes_24 : decode cX3_comes 24 = .ok (.ifCond .ne 13, 3) := by decide +kernel
theorem dX3_comes_27 : decode cX3_comes 27 = .ok (.new 70, 3) := by decide +kernel
theorem dX3_comes_30 : decode cX3_comes 30 = .ok (.dup, 1) := by decide +kernel
theorem dX3_comes_31 : decode cX3_comes 31 = .ok (.ldc 98, 2) := by decide +kernel
theorem dX3_comes_33 : decode cX3_comes 33 = .ok (.invokespecial 74, 3) := by decide +kernel
theorem dX3_comes_36 : decode cX3_comes 36 = .ok (.athrow, 1) := by decide +kernel
theorem dX3_comes_37 : decode cX3_comes 37 = .ok (.aload_n 0, 1) := by decide +kernel
theorem dX3_comes_38 : decode cX3_comes 38 = .ok (.getfield 22, 3) := by decide +kernel
theorem dX3_comes_41 : decode cX3_comes 41 = .ok (.aload_n 0, 1) := by decide +kernel
theorem dX3_comes_42 : decode cX3_comes 42 = .ok (.getfield 12, 3) := by decide +kernel
theorem dX3_comes_45 : decode cX3_comes 45 = .ok (.invokevirtual 181, 3) := by decide +kernel
theorem dX3_comes_48 : decode cX3_comes 48 = .ok (.aload_n 0, 1) := by decide +kernel
theorem dX3_comes_49 : decode cX3_comes 49 = .ok (.getfield 22, 3) := by decide +kernel
theorem dX3_comes_52 : decode cX3_comes 52 = .ok (.iload_n 1, 1) := by decide +kernel
theorem dX3_comes_53 : decode cX3_comes 53 = .ok (.iload_n 2, 1) := by decide +kernel
theorem dX3_comes_54 : decode cX3_comes 54 = .ok (.iload_n 3, 1) := by decide +kernel
theorem dX3_comes_55 : decode cX3_comes 55 = .ok (.invokevirtual 184, 3) := by decide +kernel
theorem dX3_comes_58 : decode cX3_comes 58 = .ok (.ireturn, 1) := by decide +kernel
theorem dX3_leaks_0 : decode cX3_leaks 0 = .ok (.iload_n 1, 1) := by decide +kernel
theorem dX3_leaks_1 : decode cX3_leaks 1 = .ok (.bipush 9, 2) := by decide +kernel
theorem dX3_leaks_3 : decode cX3_leaks 3 = .ok (.invokestatic 113, 3) := by decide +kernel
theorem dX3_leaks_6 : decode cX3_leaks 6 = .ok (.ifCond .ne 13, 3) := by decide +kernel
theorem dX3_leaks_9 : decode cX3_leaks 9 = .ok (.new 41, 3) := by decide +kernel
theorem dX3_leaks_12 : decode cX3_leaks 12 = .ok (.dup, 1) := by decide +kernel
theorem dX3_leaks_13 : decode cX3_leaks 13 = .ok (.ldc 179, 2) := by decide +kernel
theorem dX3_leaks_15 : decode cX3_leaks 15 = .ok (.invokespecial 45, 3) := by decide +kernel
theorem dX3_leaks_18 : decode cX3_leaks 18 = .ok (.athrow, 1) := by decide +kernel
theorem dX3_leaks_19 : decode cX3_leaks 19 = .ok (.aload_n 0, 1) := by decide +kernel
theorem dX3_leaks_20 : decode cX3_leaks 20 = .ok (.getfield 22, 3) := by decide +kernel
theorem dX3_leaks_23 : decode cX3_leaks 23 = .ok (.aload_n 0, 1) := by decide +kernel
theorem dX3_leaks_24 : decode cX3_leaks 24 = .ok (.getfield 12, 3) := by decide +kernel
theorem dX3_leaks_27 : decode cX3_leaks 27 = .ok (.invokevirtual 181, 3) := by decide +kernel
theorem dX3_leaks_30 : decode cX3_leaks 30 = .ok (.aload_n 0, 1) := by decide +kernel
theorem dX3_leaks_31 : decode cX3_leaks 31 = .ok (.getfield 22, 3) := by decide +kernel
theorem dX3_leaks_34 : decode cX3_leaks 34 = .ok (.iload_n 1, 1) := by decide +kernel
theorem dX3_leaks_35 : decode cX3_leaks 35 = .ok (.invokevirtual 188, 3) := by decide +kernel
theorem dX3_leaks_38 : decode cX3_leaks 38 = .ok (.ireturn, 1) := by decide +kernel
theorem dX3_needs_0 : decode cX3_needs 0 = .ok (.iload_n 1, 1) := by decide +kernel
theorem dX3_needs_1 : decode cX3_needs 1 = .ok (.iload_n 2, 1) := by decide +kernel
theorem dX3_needs_2 : decode cX3_needs 2 = .ok (.iload_n 3, 1) := by decide +kernel
theorem dX3_needs_3 : decode cX3_needs 3 = .ok (.invokestatic 33, 3) := by decide +kernel
theorem dX3_needs_6 : decode cX3_needs 6 = .ok (.ifCond .ne 13, 3) := by decide +kernel
theorem dX3_needs_9 : decode cX3_needs 9 = .ok (.new 41, 3) := by decide +kernel
theorem dX3_needs_12 : decode cX3_needs 12 = .ok (.dup, 1) := by decide +kernel
theorem dX3_needs_13 : decode cX3_needs 13 = .ok (.ldc 191, 2) := by decide +kernel
theorem dX3_needs_15 : decode cX3_needs 15 = .ok (.invokespecial 45, 3) := by decide +kernel
theorem dX3_needs_18 : decode cX3_needs 18 = .ok (.athrow, 1) := by decide +kernel
theorem dX3_needs_19 : decode cX3_needs 19 = .ok (.aload_n 0, 1) := by decide +kernel
theorem dX3_needs_20 : decode cX3_needs 20 = .ok (.getfield 12, 3) := by decide +kernel
theorem dX3_needs_23 : decode cX3_needs 23 = .ok (.iload_n 1, 1) := by decide +kernel
theorem dX3_needs_24 : decode cX3_needs 24 = .ok (.iload_n 2, 1) := by decide +kernel
theorem dX3_needs_25 : decode cX3_needs 25 = .ok (.iload_n 3, 1) := by decide +kernel
theorem dX3_needs_26 : decode cX3_needs 26 = .ok (.invokevirtual 193, 3) := by decide +kernel
theorem dX3_needs_29 : decode cX3_needs 29 = .ok (.ireturn, 1) := by decide +kernel
theorem dX3_best_0 : decode cX3_best 0 = .ok (.aload_n 0, 1) := by decide +kernel
theorem dX3_best_1 : decode cX3_best 1 = .ok (.getfield 22, 3) := by decide +kernel
theorem dX3_best_4 : decode cX3_best 4 = .ok (.aload_n 0, 1) := by decide +kernel
theorem dX3_best_5 : decode cX3_best 5 = .ok (.getfield 12, 3) := by decide +kernel
theorem dX3_best_8 : decode cX3_best 8 = .ok (.invokevirtual 181, 3) := by decide +kernel
theorem dX3_best_11 : decode cX3_best 11 = .ok (.aload_n 0, 1) := by decide +kernel
theorem dX3_best_12 : decode cX3_best 12 = .ok (.getfield 22, 3) := by decide +kernel
theorem dX3_best_15 : decode cX3_best 15 = .ok (.bipush 9, 2) := by decide +kernel
theorem dX3_best_17 : decode cX3_best 17 = .ok (.invokevirtual 188, 3) := by decide +kernel
theorem dX3_best_20 : decode cX3_best 20 = .ok (.istore_n 1, 1) := by decide +kernel
theorem dX3_best_21 : decode cX3_best 21 = .ok (.iconst (-1), 1) := by decide +kernel
theorem dX3_best_22 : decode cX3_best 22 = .ok (.istore_n 2, 1) := by decide +kernel
theorem dX3_best_23 : decode cX3_best 23 = .ok (.iconst 0, 1) := by decide +kernel
theorem dX3_best_24 : decode cX3_best 24 = .ok (.istore_n 3, 1) := by decide +kernel
theorem dX3_best_25 : decode cX3_best 25 = .ok (.iload_n 3, 1) := by decide +kernel
theorem dX3_best_26 : decode cX3_best 26 = .ok (.bipush 8, 2) := by decide +kernel
theorem dX3_best_28 : decode cX3_best 28 = .ok (.if_icmp .ge 66, 3) := by decide +kernel
theorem dX3_best_31 : decode cX3_best 31 = .ok (.iconst 0, 1) := by decide +kernel
theorem dX3_best_32 : decode cX3_best 32 = .ok (.istore 4, 2) := by decide +kernel
theorem dX3_best_34 : decode cX3_best 34 = .ok (.iload 4, 2) := by decide +kernel
theorem dX3_best_36 : decode cX3_best 36 = .ok (.bipush 8, 2) := by decide +kernel
theorem dX3_best_38 : decode cX3_best 38 = .ok (.if_icmp .gt 50, 3) := by decide +kernel
theorem dX3_best_41 : decode cX3_best 41 = .ok (.aload_n 0, 1) := by decide +kernel
theorem dX3_best_42 : decode cX3_best 42 = .ok (.getfield 12, 3) := by decide +kernel
theorem dX3_best_45 : decode cX3_best 45 = .ok (.iload_n 3, 1) := by decide +kernel
theorem dX3_best_46 : decode cX3_best 46 = .ok (.iload 4, 2) := by decide +kernel
theorem dX3_best_48 : decode cX3_best 48 = .ok (.iconst 4, 1) := by decide +kernel
theorem dX3_best_49 : decode cX3_best 49 = .ok (.invokevirtual 55, 3) := by decide +kernel
theorem dX3_best_52 : decode cX3_best 52 = .ok (.ifCond .eq 30, 3) := by decide +kernel
theorem dX3_best_55 : decode cX3_best 55 = .ok (.aload_n 0, 1) := by decide +kernel
theorem dX3_best_56 : decode cX3_best 56 = .ok (.iload_n 3, 1) := by decide +kernel
theorem dX3_best_57 : decode cX3_best 57 = .ok (.iload 4, 2) := by decide +kernel
theorem dX3_best_59 : decode cX3_best 59 = .ok (.iconst 4, 1) := by decide +kernel
theorem dX3_best_60 : decode cX3_best 60 = .ok (.invokevirtual 196, 3) := by decide +kernel
theorem dX3_best_63 : decode cX3_best 63 = .ok (.istore 5, 2) := by decide +kernel
theorem dX3_best_65 : decode cX3_best 65 = .ok (.iload 5, 2) := by decide +kernel
theorem dX3_best_67 : decode cX3_best 67 = .ok (.iload_n 1, 1) := by decide +kernel
theorem dX3_best_68 : decode cX3_best 68 = .ok (.if_icmp .ge 14, 3) := by decide +kernel
theorem dX3_best_71 : decode cX3_best 71 = .ok (.iload 5, 2) := by decide +kernel
theorem dX3_best_73 : decode cX3_best 73 = .ok (.istore_n 1, 1) := by decide +kernel
theorem dX3_best_74 : decode cX3_best 74 = .ok (.bipush 100, 2) := by decide +kernel
theorem dX3_best_76 : decode cX3_best 76 = .ok (.iload_n 3, 1) := by decide +kernel
theorem dX3_best_77 : decode cX3_best 77 = .ok (.imul, 1) := by decide +kernel
theorem dX3_best_78 : decode cX3_best 78 = .ok (.iload 4, 2) := by decide +kernel
theorem dX3_best_80 : decode cX3_best 80 = .ok (.iadd, 1) := by decide +kernel
theorem dX3_best_81 : decode cX3_best 81 = .ok (.istore_n 2, 1) := by decide +kernel
theorem dX3_best_82 : decode cX3_best 82 = .ok (.iinc 4 1, 3) := by decide +kernel
theorem dX3_best_85 : decode cX3_best 85 = .ok (.goto (-51), 3) := by decide +kernel
theorem dX3_best_88 : decode cX3_best 88 = .ok (.iinc 3 1, 3) := by decide +kernel
theorem dX3_best_91 : decode cX3_best 91 = .ok (.goto (-66), 3) := by decide +kernel
theorem dX3_best_94 : decode cX3_best 94 = .ok (.iload_n 2, 1) := by decide +kernel
theorem dX3_best_95 : decode cX3_best 95 = .ok (.ireturn, 1) := by decide +kernel
theorem dX3_pass_0 : decode cX3_pass 0 = .ok (.iload_n 1, 1) := by decide +kernel
theorem dX3_pass_1 : decode cX3_pass 1 = .ok (.invokestatic 199, 3) := by decide +kernel
theorem dX3_pass_4 : decode cX3_pass 4 = .ok (.ifCond .ne 13, 3) := by decide +kernel
theorem dX3_pass_7 : decode cX3_pass 7 = .ok (.new 41, 3) := by decide +kernel
theorem dX3_pass_10 : decode cX3_pass 10 = .ok (.dup, 1) := by decide +kernel
theorem dX3_pass_11 : decode cX3_pass 11 = .ok (.ldc 202, 2) := by decide +kernel
theorem dX3_pass_13 : decode cX3_pass 13 = .ok (.invokespecial 45, 3) := by decide +kernel
theorem dX3_pass_16 : decode cX3_pass 16 = .ok (.athrow, 1) := by decide +kernel
theorem dX3_pass_17 : decode cX3_pass 17 = .ok (.aload_n 0, 1) := by decide +kernel
theorem dX3_pass_18 : decode cX3_pass 18 = .ok (.getfield 12, 3) := by decide +kernel
theorem dX3_pass_21 : decode cX3_pass 21 = .ok (.getfield 149, 3) := by decide +kernel
theorem dX3_pass_24 : decode cX3_pass 24 = .ok (.istore_n 2, 1) := by decide +kernel
theorem dX3_pass_25 : decode cX3_pass 25 = .ok (.aload_n 0, 1) := by decide +kernel
theorem dX3_pass_26 : decode cX3_pass 26 = .ok (.aload_n 0, 1) := by decide +kernel
theorem dX3_pass_27 : decode cX3_pass 27 = .ok (.getfield 12, 3) := by decide +kernel
theorem dX3_pass_30 : decode cX3_pass 30 = .ok (.iload_n 1, 1) := by decide +kernel
theorem dX3_pass_31 : decode cX3_pass 31 = .ok (.invokevirtual 204, 3) := by decide +kernel
theorem dX3_pass_34 : decode cX3_pass 34 = .ok (.aload_n 0, 1) := by decide +kernel
theorem dX3_pass_35 : decode cX3_pass 35 = .ok (.getfield 12, 3) := by decide +kernel
theorem dX3_pass_38 : decode cX3_pass 38 = .ok (.getfield 149, 3) := by decide +kernel
theorem dX3_pass_41 : decode cX3_pass 41 = .ok (.iload_n 2, 1) := by decide +kernel
theorem dX3_pass_42 : decode cX3_pass 42 = .ok (.isub, 1) := by decide +kernel
theorem dX3_pass_43 : decode cX3_pass 43 = .ok (.ireturn, 1) := by decide +kernel
theorem dX3_foresee_0 : decode cX3_foresee 0 = .ok (.iload_n 1, 1) := by decide +kernel
theorem dX3_foresee_1 : decode cX3_foresee 1 = .ok (.invokestatic 199, 3) := by decide +kernel
theorem dX3_foresee_4 : decode cX3_foresee 4 = .ok (.ifCond .ne 13, 3) := by decide +kernel
theorem dX3_foresee_7 : decode cX3_foresee 7 = .ok (.new 41, 3) := by decide +kernel
theorem dX3_foresee_10 : decode cX3_foresee 10 = .ok (.dup, 1) := by decide +kernel
theorem dX3_foresee_11 : decode cX3_foresee 11 = .ok (.ldc 202, 2) := by decide +kernel
theorem dX3_foresee_13 : decode cX3_foresee 13 = .ok (.invokespecial 45, 3) := by decide +kernel
theorem dX3_foresee_16 : decode cX3_foresee 16 = .ok (.athrow, 1) := by decide +kernel
theorem dX3_foresee_17 : decode cX3_foresee 17 = .ok (.iload_n 2, 1) := by decide +kernel
theorem dX3_foresee_18 : decode cX3_foresee 18 = .ok (.iconst 2, 1) := by decide +kernel
theorem dX3_foresee_19 : decode cX3_foresee 19 = .ok (.invokestatic 113, 3) := by decide +kernel
theorem dX3_foresee_22 : decode cX3_foresee 22 = .ok (.ifCond .ne 13, 3) := by decide +kernel
theorem dX3_foresee_25 : decode cX3_foresee 25 = .ok (.new 70, 3) := by decide +kernel
theorem dX3_foresee_28 : decode cX3_foresee 28 = .ok (.dup, 1) := by decide +kernel
theorem dX3_foresee_29 : decode cX3_foresee 29 = .ok (.ldc 208, 2) := by decide +kernel
theorem dX3_foresee_31 : decode cX3_foresee 31 = .ok (.invokespecial 74, 3) := by decide +kernel
theorem dX3_foresee_34 : decode cX3_foresee 34 = .ok (.athrow, 1) := by decide +kernel
theorem dX3_foresee_35 : decode cX3_foresee 35 = .ok (.aload_n 0, 1) := by decide +kernel
theorem dX3_foresee_36 : decode cX3_foresee 36 = .ok (.getfield 16, 3) := by decide +kernel
theorem dX3_foresee_39 : decode cX3_foresee 39 = .ok (.aload_n 0, 1) := by decide +kernel
theorem dX3_foresee_40 : decode cX3_foresee 40 = .ok (.getfield 12, 3) := by decide +kernel
theorem dX3_foresee_43 : decode cX3_foresee 43 = .ok (.invokevirtual 168, 3) := by decide +kernel
theorem dX3_foresee_46 : decode cX3_foresee 46 = .ok (.aload_n 0, 1) := by decide +kernel
theorem dX3_foresee_47 : decode cX3_foresee 47 = .ok (.aload_n 0, 1) := by decide +kernel
theorem dX3_foresee_48 : decode cX3_foresee 48 = .ok (.getfield 16, 3) := by decide +kernel
theorem dX3_foresee_51 : decode cX3_foresee 51 = .ok (.iload_n 1, 1) := by decide +kernel
theorem dX3_foresee_52 : decode cX3_foresee 52 = .ok (.invokevirtual 204, 3) := by decide +kernel
theorem dX3_foresee_55 : decode cX3_foresee 55 = .ok (.iload_n 2, 1) := by decide +kernel
theorem dX3_foresee_56 : decode cX3_foresee 56 = .ok (.lookupswitch 44 #[(0, 28), (1, 36)], 28) := by decide +kernel
theorem dX3_foresee_84 : decode cX3_foresee 84 = .ok (.aload_n 0, 1) := by decide +kernel
theorem dX3_foresee_85 : decode cX3_foresee 85 = .ok (.getfield 16, 3) := by decide +kernel
theorem dX3_foresee_88 : decode cX3_foresee 88 = .ok (.getfield 48, 3) := by decide +kernel
theorem dX3_foresee_91 : decode cX3_foresee 91 = .ok (.ireturn, 1) := by decide +kernel
theorem dX3_foresee_92 : decode cX3_foresee 92 = .ok (.aload_n 0, 1) := by decide +kernel
theorem dX3_foresee_93 : decode cX3_foresee 93 = .ok (.getfield 16, 3) := by decide +kernel
theorem dX3_foresee_96 : decode cX3_foresee 96 = .ok (.invokevirtual 142, 3) := by decide +kernel
theorem dX3_foresee_99 : decode cX3_foresee 99 = .ok (.ireturn, 1) := by decide +kernel
theorem dX3_foresee_100 : decode cX3_foresee 100 = .ok (.aload_n 0, 1) := by decide +kernel
theorem dX3_foresee_101 : decode cX3_foresee 101 = .ok (.getfield 16, 3) := by decide +kernel
theorem dX3_foresee_104 : decode cX3_foresee 104 = .ok (.invokevirtual 152, 3) := by decide +kernel
theorem dX3_foresee_107 : decode cX3_foresee 107 = .ok (.ireturn, 1) := by decide +kernel
theorem dX3_share_0 : decode cX3_share 0 = .ok (.aload_n 0, 1) := by decide +kernel
theorem dX3_share_1 : decode cX3_share 1 = .ok (.getfield 12, 3) := by decide +kernel
theorem dX3_share_4 : decode cX3_share 4 = .ok (.invokevirtual 146, 3) := by decide +kernel
theorem dX3_share_7 : decode cX3_share 7 = .ok (.i2d, 1) := by decide +kernel
theorem dX3_share_8 : decode cX3_share 8 = .ok (.ldc2_w 210, 3) := by decide +kernel
theorem dX3_share_11 : decode cX3_share 11 = .ok (.ddiv, 1) := by decide +kernel
theorem dX3_share_12 : decode cX3_share 12 = .ok (.dreturn, 1) := by decide +kernel
theorem dX3_comesInWith_0 : decode cX3_comesInWith 0 = .ok (.aload_n 0, 1) := by decide +kernel
theorem dX3_comesInWith_1 : decode cX3_comesInWith 1 = .ok (.getfield 22, 3) := by decide +kernel
theorem dX3_comesInWith_4 : decode cX3_comesInWith 4 = .ok (.aload_n 0, 1) := by decide +kernel
theorem dX3_comesInWith_5 : decode cX3_comesInWith 5 = .ok (.getfield 12, 3) := by decide +kernel
theorem dX3_comesInWith_8 : decode cX3_comesInWith 8 = .ok (.invokevirtual 181, 3) := by decide +kernel
theorem dX3_comesInWith_11 : decode cX3_comesInWith 11 = .ok (.aload_n 0, 1) := by decide +kernel
theorem dX3_comesInWith_12 : decode cX3_comesInWith 12 = .ok (.getfield 22, 3) := by decide +kernel
theorem dX3_comesInWith_15 : decode cX3_comesInWith 15 = .ok (.iload_n 1, 1) := by decide +kernel
theorem dX3_comesInWith_16 : decode cX3_comesInWith 16 = .ok (.iload_n 2, 1) := by decide +kernel
theorem dX3_comesInWith_17 : decode cX3_comesInWith 17 = .ok (.iload_n 3, 1) := by decide +kernel
theorem dX3_comesInWith_18 : decode cX3_comesInWith 18 = .ok (.invokevirtual 228, 3) := by decide +kernel
theorem dX3_comesInWith_21 : decode cX3_comesInWith 21 = .ok (.aload_n 0, 1) := by decide +kernel
theorem dX3_comesInWith_22 : decode cX3_comesInWith 22 = .ok (.getfield 22, 3) := by decide +kernel
theorem dX3_comesInWith_25 : decode cX3_comesInWith 25 = .ok (.bipush 9, 2) := by decide +kernel
theorem dX3_comesInWith_27 : decode cX3_comesInWith 27 = .ok (.invokevirtual 188, 3) := by decide +kernel
theorem dX3_comesInWith_30 : decode cX3_comesInWith 30 = .ok (.ireturn, 1) := by decide +kernel
theorem dX3_letGoBy_0 : decode cX3_letGoBy 0 = .ok (.iconst 0, 1) := by decide +kernel
theorem dX3_letGoBy_1 : decode cX3_letGoBy 1 = .ok (.istore_n 3, 1) := by decide +kernel
theorem dX3_letGoBy_2 : decode cX3_letGoBy 2 = .ok (.iload_n 3, 1) := by decide +kernel
theorem dX3_letGoBy_3 : decode cX3_letGoBy 3 = .ok (.iload_n 2, 1) := by decide +kernel
theorem dX3_letGoBy_4 : decode cX3_letGoBy 4 = .ok (.if_icmp .ge 91, 3) := by decide +kernel
theorem dX3_letGoBy_7 : decode cX3_letGoBy 7 = .ok (.aload_n 1, 1) := by decide +kernel
theorem dX3_letGoBy_8 : decode cX3_letGoBy 8 = .ok (.getfield 139, 3) := by decide +kernel
theorem dX3_letGoBy_11 : decode cX3_letGoBy 11 = .ok (.bipush 7, 2) := by decide +kernel
theorem dX3_letGoBy_13 : decode cX3_letGoBy 13 = .ok (.invokestatic 231, 3) := by decide +kernel
theorem dX3_letGoBy_16 : decode cX3_letGoBy 16 = .ok (.istore 4, 2) := by decide +kernel
theorem dX3_letGoBy_18 : decode cX3_letGoBy 18 = .ok (.aload_n 1, 1) := by decide +kernel
theorem dX3_letGoBy_19 : decode cX3_letGoBy 19 = .ok (.aload_n 0, 1) := by decide +kernel
theorem dX3_letGoBy_20 : decode cX3_letGoBy 20 = .ok (.getfield 29, 3) := by decide +kernel
theorem dX3_letGoBy_23 : decode cX3_letGoBy 23 = .ok (.iload 4, 2) := by decide +kernel
theorem dX3_letGoBy_25 : decode cX3_letGoBy 25 = .ok (.invokevirtual 236, 3) := by decide +kernel
theorem dX3_letGoBy_28 : decode cX3_letGoBy 28 = .ok (.aload_n 0, 1) := by decide +kernel
theorem dX3_letGoBy_29 : decode cX3_letGoBy 29 = .ok (.getfield 29, 3) := by decide +kernel
theorem dX3_letGoBy_32 : decode cX3_letGoBy 32 = .ok (.iload 4, 2) := by decide +kernel
theorem dX3_letGoBy_34 : decode cX3_letGoBy 34 = .ok (.invokevirtual 225, 3) := by decide +kernel
theorem dX3_letGoBy_37 : decode cX3_letGoBy 37 = .ok (.invokevirtual 172, 3) := by decide +kernel
theorem dX3_letGoBy_40 : decode cX3_letGoBy 40 = .ok (.pop, 1) := by decide +kernel
theorem dX3_letGoBy_41 : decode cX3_letGoBy 41 = .ok (.aload_n 1, 1) := by decide +kernel
theorem dX3_letGoBy_42 : decode cX3_letGoBy 42 = .ok (.aload_n 0, 1) := by decide +kernel
theorem dX3_letGoBy_43 : decode cX3_letGoBy 43 = .ok (.getfield 29, 3) := by decide +kernel
theorem dX3_letGoBy_46 : decode cX3_letGoBy 46 = .ok (.iload 4, 2) := by decide +kernel
theorem dX3_letGoBy_48 : decode cX3_letGoBy 48 = .ok (.invokevirtual 239, 3) := by decide +kernel
theorem dX3_letGoBy_51 : decode cX3_letGoBy 51 = .ok (.invokevirtual 242, 3) := by decide +kernel
theorem dX3_letGoBy_54 : decode cX3_letGoBy 54 = .ok (.aload_n 0, 1) := by decide +kernel
theorem dX3_letGoBy_55 : decode cX3_letGoBy 55 = .ok (.getfield 22, 3) := by decide +kernel
theorem dX3_letGoBy_58 : decode cX3_letGoBy 58 = .ok (.aload_n 1, 1) := by decide +kernel
theorem dX3_letGoBy_59 : decode cX3_letGoBy 59 = .ok (.invokevirtual 181, 3) := by decide +kernel
theorem dX3_letGoBy_62 : decode cX3_letGoBy 62 = .ok (.aload_n 1, 1) := by decide +kernel
theorem dX3_letGoBy_63 : decode cX3_letGoBy 63 = .ok (.aload_n 0, 1) := by decide +kernel
theorem dX3_letGoBy_64 : decode cX3_letGoBy 64 = .ok (.getfield 22, 3) := by decide +kernel
theorem dX3_letGoBy_67 : decode cX3_letGoBy 67 = .ok (.aload_n 0, 1) := by decide +kernel
theorem dX3_letGoBy_68 : decode cX3_letGoBy 68 = .ok (.getfield 29, 3) := by decide +kernel
theorem dX3_letGoBy_71 : decode cX3_letGoBy 71 = .ok (.iload 4, 2) := by decide +kernel
theorem dX3_letGoBy_73 : decode cX3_letGoBy 73 = .ok (.invokevirtual 245, 3) := by decide +kernel
theorem dX3_letGoBy_76 : decode cX3_letGoBy 76 = .ok (.invokevirtual 248, 3) := by decide +kernel
theorem dX3_letGoBy_79 : decode cX3_letGoBy 79 = .ok (.aload_n 1, 1) := by decide +kernel
theorem dX3_letGoBy_80 : decode cX3_letGoBy 80 = .ok (.dup, 1) := by decide +kernel
theorem dX3_letGoBy_81 : decode cX3_letGoBy 81 = .ok (.getfield 139, 3) := by decide +kernel
theorem dX3_letGoBy_84 : decode cX3_letGoBy 84 = .ok (.iconst 1, 1) := by decide +kernel
theorem dX3_letGoBy_85 : decode cX3_letGoBy 85 = .ok (.iadd, 1) := by decide +kernel
theorem dX3_letGoBy_86 : decode cX3_letGoBy 86 = .ok (.putfield 139, 3) := by decide +kernel
theorem dX3_letGoBy_89 : decode cX3_letGoBy 89 = .ok (.iinc 3 1, 3) := by decide +kernel
theorem dX3_letGoBy_92 : decode cX3_letGoBy 92 = .ok (.goto (-90), 3) := by decide +kernel
theorem dX3_letGoBy_95 : decode cX3_letGoBy 95 = .ok (.return_, 1) := by decide +kernel
theorem dX3_isUpTo_0 : decode cX3_isUpTo 0 = .ok (.iload_n 0, 1) := by decide +kernel
theorem dX3_isUpTo_1 : decode cX3_isUpTo 1 = .ok (.ifCond .lt 12, 3) := by decide +kernel
theorem dX3_isUpTo_4 : decode cX3_isUpTo 4 = .ok (.iload_n 0, 1) := by decide +kernel
theorem dX3_isUpTo_5 : decode cX3_isUpTo 5 = .ok (.iload_n 1, 1) := by decide +kernel
theorem dX3_isUpTo_6 : decode cX3_isUpTo 6 = .ok (.if_icmp .gt 7, 3) := by decide +kernel
theorem dX3_isUpTo_9 : decode cX3_isUpTo 9 = .ok (.iconst 1, 1) := by decide +kernel
theorem dX3_isUpTo_10 : decode cX3_isUpTo 10 = .ok (.goto 4, 3) := by decide +kernel
theorem dX3_isUpTo_13 : decode cX3_isUpTo 13 = .ok (.iconst 0, 1) := by decide +kernel
theorem dX3_isUpTo_14 : decode cX3_isUpTo 14 = .ok (.ireturn, 1) := by decide +kernel
theorem dX3_isPlace_0 : decode cX3_isPlace 0 = .ok (.iload_n 0, 1) := by decide +kernel
theorem dX3_isPlace_1 : decode cX3_isPlace 1 = .ok (.ifCond .lt 23, 3) := by decide +kernel
theorem dX3_isPlace_4 : decode cX3_isPlace 4 = .ok (.iload_n 0, 1) := by decide +kernel
theorem dX3_isPlace_5 : decode cX3_isPlace 5 = .ok (.bipush 12, 2) := by decide +kernel
theorem dX3_isPlace_7 : decode cX3_isPlace 7 = .ok (.if_icmp .ge 17, 3) := by decide +kernel
theorem dX3_isPlace_10 : decode cX3_isPlace 10 = .ok (.iload_n 1, 1) := by decide +kernel
theorem dX3_isPlace_11 : decode cX3_isPlace 11 = .ok (.ifCond .lt 13, 3) := by decide +kernel
theorem dX3_isPlace_14 : decode cX3_isPlace 14 = .ok (.iload_n 1, 1) := by decide +kernel
theorem dX3_isPlace_15 : decode cX3_isPlace 15 = .ok (.bipush 8, 2) := by decide +kernel
theorem dX3_isPlace_17 : decode cX3_isPlace 17 = .ok (.if_icmp .ge 7, 3) := by decide +kernel
theorem dX3_isPlace_20 : decode cX3_isPlace 20 = .ok (.iconst 1, 1) := by decide +kernel
theorem dX3_isPlace_21 : decode cX3_isPlace 21 = .ok (.goto 4, 3) := by decide +kernel
theorem dX3_isPlace_24 : decode cX3_isPlace 24 = .ok (.iconst 0, 1) := by decide +kernel
theorem dX3_isPlace_25 : decode cX3_isPlace 25 = .ok (.ireturn, 1) := by decide +kernel
theorem dX3_fits_0 : decode cX3_fits 0 = .ok (.iload_n 1, 1) := by decide +kernel
theorem dX3_fits_1 : decode cX3_fits 1 = .ok (.iload_n 0, 1) := by decide +kernel
theorem dX3_fits_2 : decode cX3_fits 2 = .ok (.invokestatic 94, 3) := by decide +kernel
theorem dX3_fits_5 : decode cX3_fits 5 = .ok (.ifCond .eq 25, 3) := by decide +kernel
theorem dX3_fits_8 : decode cX3_fits 8 = .ok (.iload_n 2, 1) := by decide +kernel
theorem dX3_fits_9 : decode cX3_fits 9 = .ok (.iconst 1, 1) := by decide +kernel
theorem dX3_fits_10 : decode cX3_fits 10 = .ok (.if_icmp .lt 20, 3) := by decide +kernel
theorem dX3_fits_13 : decode cX3_fits 13 = .ok (.iload_n 2, 1) := by decide +kernel
theorem dX3_fits_14 : decode cX3_fits 14 = .ok (.iconst 4, 1) := by decide +kernel
theorem dX3_fits_15 : decode cX3_fits 15 = .ok (.if_icmp .gt 15, 3) := by decide +kernel
theorem dX3_fits_18 : decode cX3_fits 18 = .ok (.iload_n 2, 1) := by decide +kernel
theorem dX3_fits_19 : decode cX3_fits 19 = .ok (.bipush 12, 2) := by decide +kernel
theorem dX3_fits_21 : decode cX3_fits 21 = .ok (.iload_n 1, 1) := by decide +kernel
theorem dX3_fits_22 : decode cX3_fits 22 = .ok (.isub, 1) := by decide +kernel
theorem dX3_fits_23 : decode cX3_fits 23 = .ok (.if_icmp .gt 7, 3) := by decide +kernel
theorem dX3_fits_26 : decode cX3_fits 26 = .ok (.iconst 1, 1) := by decide +kernel
theorem dX3_fits_27 : decode cX3_fits 27 = .ok (.goto 4, 3) := by decide +kernel
theorem dX3_fits_30 : decode cX3_fits 30 = .ok (.iconst 0, 1) := by decide +kernel
theorem dX3_fits_31 : decode cX3_fits 31 = .ok (.ireturn, 1) := by decide +kernel
theorem dX3_isNails_0 : decode cX3_isNails 0 = .ok (.iload_n 0, 1) := by decide +kernel
theorem dX3_isNails_1 : decode cX3_isNails 1 = .ok (.iconst 1, 1) := by decide +kernel
theorem dX3_isNails_2 : decode cX3_isNails 2 = .ok (.if_icmp .lt 12, 3) := by decide +kernel
theorem dX3_isNails_5 : decode cX3_isNails 5 = .ok (.iload_n 0, 1) := by decide +kernel
theorem dX3_isNails_6 : decode cX3_isNails 6 = .ok (.iconst 3, 1) := by decide +kernel
theorem dX3_isNails_7 : decode cX3_isNails 7 = .ok (.if_icmp .gt 7, 3) := by decide +kernel
theorem dX3_isNails_10 : decode cX3_isNails 10 = .ok (.iconst 1, 1) := by decide +kernel
theorem dX3_isNails_11 : decode cX3_isNails 11 = .ok (.goto 4, 3) := by decide +kernel
theorem dX3_isNails_14 : decode cX3_isNails 14 = .ok (.iconst 0, 1) := by decide +kernel
theorem dX3_isNails_15 : decode cX3_isNails 15 = .ok (.ireturn, 1) := by decide +kernel
theorem dX3_isDays_0 : decode cX3_isDays 0 = .ok (.iload_n 0, 1) := by decide +kernel
theorem dX3_isDays_1 : decode cX3_isDays 1 = .ok (.iconst 1, 1) := by decide +kernel
theorem dX3_isDays_2 : decode cX3_isDays 2 = .ok (.if_icmp .lt 13, 3) := by decide +kernel
theorem dX3_isDays_5 : decode cX3_isDays 5 = .ok (.iload_n 0, 1) := by decide +kernel
theorem dX3_isDays_6 : decode cX3_isDays 6 = .ok (.bipush 60, 2) := by decide +kernel
theorem dX3_isDays_8 : decode cX3_isDays 8 = .ok (.if_icmp .gt 7, 3) := by decide +kernel
theorem dX3_isDays_11 : decode cX3_isDays 11 = .ok (.iconst 1, 1) := by decide +kernel
theorem dX3_isDays_12 : decode cX3_isDays 12 = .ok (.goto 4, 3) := by decide +kernel
theorem dX3_isDays_15 : decode cX3_isDays 15 = .ok (.iconst 0, 1) := by decide +kernel
theorem dX3_isDays_16 : decode cX3_isDays 16 = .ok (.ireturn, 1) := by decide +kernel
theorem dX4_init_0 : decode cX4_init 0 = .ok (.aload_n 0, 1) := by decide +kernel
theorem dX4_init_1 : decode cX4_init 1 = .ok (.invokespecial 1, 3) := by decide +kernel
theorem dX4_init_4 : decode cX4_init 4 = .ok (.aload_n 0, 1) := by decide +kernel
theorem dX4_init_5 : decode cX4_init 5 = .ok (.iconst 0, 1) := by decide +kernel
theorem dX4_init_6 : decode cX4_init 6 = .ok (.anewarray 7, 3) := by decide +kernel
theorem dX4_init_9 : decode cX4_init 9 = .ok (.putfield 9, 3) := by decide +kernel
theorem dX4_init_12 : decode cX4_init 12 = .ok (.aload_n 0, 1) := by decide +kernel
theorem dX4_init_13 : decode cX4_init 13 = .ok (.bipush 12, 2) := by decide +kernel
theorem dX4_init_15 : decode cX4_init 15 = .ok (.bipush 8, 2) := by decide +kernel
theorem dX4_init_17 : decode cX4_init 17 = .ok (.multianewarray 15 2, 4) := by decide +kernel
theorem dX4_init_21 : decode cX4_init 21 = .ok (.putfield 16, 3) := by decide +kernel
theorem dX4_init_24 : decode cX4_init 24 = .ok (.aload_n 0, 1) := by decide +kernel
theorem dX4_init_25 : decode cX4_init 25 = .ok (.bipush 7, 2) := by decide +kernel
theorem dX4_init_27 : decode cX4_init 27 = .ok (.iconst 4, 1) := by decide +kernel
theorem dX4_init_28 : decode cX4_init 28 = .ok (.multianewarray 15 2, 4) := by decide +kernel
theorem dX4_init_32 : decode cX4_init 32 = .ok (.putfield 19, 3) := by decide +kernel
theorem dX4_init_35 : decode cX4_init 35 = .ok (.return_, 1) := by decide +kernel
theorem dX4_add_0 : decode cX4_add 0 = .ok (.aload_n 0, 1) := by decide +kernel
theorem dX4_add_1 : decode cX4_add 1 = .ok (.getfield 9, 3) := by decide +kernel
theorem dX4_add_4 : decode cX4_add 4 = .ok (.arraylength, 1) := by decide +kernel
theorem dX4_add_5 : decode cX4_add 5 = .ok (.iconst 1, 1) := by decide +kernel
theorem dX4_add_6 : decode cX4_add 6 = .ok (.iadd, 1) := by decide +kernel
theorem dX4_add_7 : decode cX4_add 7 = .ok (.anewarray 7, 3) := by decide +kernel
theorem dX4_add_10 : decode cX4_add 10 = .ok (.astore 5, 2) := by decide +kernel
theorem dX4_add_12 : decode cX4_add 12 = .ok (.iconst 0, 1) := by decide +kernel
theorem dX4_add_13 : decode cX4_add 13 = .ok (.istore 6, 2) := by decide +kernel
theorem dX4_add_15 : decode cX4_add 15 = .ok (.iload 6, 2) := by decide +kernel
theorem dX4_add_17 : decode cX4_add 17 = .ok (.aload_n 0, 1) := by decide +kernel
theorem dX4_add_18 : decode cX4_add 18 = .ok (.getfield 9, 3) := by decide +kernel
theorem dX4_add_21 : decode cX4_add 21 = .ok (.arraylength, 1) := by decide +kernel
theorem dX4_add_22 : decode cX4_add 22 = .ok (.if_icmp .ge 21, 3) := by decide +kernel
theorem dX4_add_25 : decode cX4_add 25 = .ok (.aload 5, 2) := by decide +kernel
theorem dX4_add_27 : decode cX4_add 27 = .ok (.iload 6, 2) := by decide +kernel
theorem dX4_add_29 : decode cX4_add 29 = .ok (.aload_n 0, 1) := by decide +kernel
theorem dX4_add_30 : decode cX4_add 30 = .ok (.getfield 9, 3) := by decide +kernel
theorem dX4_add_33 : decode cX4_add 33 = .ok (.iload 6, 2) := by decide +kernel
theorem dX4_add_35 : decode cX4_add 35 = .ok (.aaload, 1) := by decide +kernel
theorem dX4_add_36 : decode cX4_add 36 = .ok (.aastore, 1) := by decide +kernel
theorem dX4_add_37 : decode cX4_add 37 = .ok (.iinc 6 1, 3) := by decide +kernel
theorem dX4_add_40 : decode cX4_add 40 = .ok (.goto (-25), 3) := by decide +kernel
theorem dX4_add_43 : decode cX4_add 43 = .ok (.aload 5, 2) := by decide +kernel
theorem dX4_add_45 : decode cX4_add 45 = .ok (.aload_n 0, 1) := by decide +kernel
theorem dX4_add_46 : decode cX4_add 46 = .ok (.getfield 9, 3) := by decide +kernel
theorem dX4_add_49 : decode cX4_add 49 = .ok (.arraylength, 1) := by decide +kernel
theorem dX4_add_50 : decode cX4_add 50 = .ok (.bipush 6, 2) := by decide +kernel
theorem dX4_add_52 : decode cX4_add 52 = .ok (.newarray .int, 2) := by decide +kernel
theorem dX4_add_54 : decode cX4_add 54 = .ok (.dup, 1) := by decide +kernel
theorem dX4_add_55 : decode cX4_add 55 = .ok (.iconst 0, 1) := by decide +kernel
theorem dX4_add_56 : decode cX4_add 56 = .ok (.iload_n 1, 1) := by decide +kernel
theorem dX4_add_57 : decode cX4_add 57 = .ok (.iastore, 1) := by decide +kernel
theorem dX4_add_58 : decode cX4_add 58 = .ok (.dup, 1) := by decide +kernel
theorem dX4_add_59 : decode cX4_add 59 = .ok (.iconst 1, 1) := by decide +kernel
theorem dX4_add_60 : decode cX4_add 60 = .ok (.iload_n 2, 1) := by decide +kernel
theorem dX4_add_61 : decode cX4_add 61 = .ok (.iastore, 1) := by decide +kernel
theorem dX4_add_62 : decode cX4_add 62 = .ok (.dup, 1) := by decide +kernel
theorem dX4_add_63 : decode cX4_add 63 = .ok (.iconst 2, 1) := by decide +kernel
theorem dX4_add_64 : decode cX4_add 64 = .ok (.iload_n 3, 1) := by decide +kernel
theorem dX4_add_65 : decode cX4_add 65 = .ok (.iastore, 1) := by decide +kernel
theorem dX4_add_66 : decode cX4_add 66 = .ok (.dup, 1) := by decide +kernel
theorem dX4_add_67 : decode cX4_add 67 = .ok (.iconst 3, 1) := by decide +kernel
theorem dX4_add_68 : decode cX4_add 68 = .ok (.iload 4, 2) := by decide +kernel
theorem dX4_add_70 : decode cX4_add 70 = .ok (.iastore, 1) := by decide +kernel
theorem dX4_add_71 : decode cX4_add 71 = .ok (.dup, 1) := by decide +kernel
theorem dX4_add_72 : decode cX4_add 72 = .ok (.iconst 4, 1) := by decide +kernel
theorem dX4_add_73 : decode cX4_add 73 = .ok (.iconst 0, 1) := by decide +kernel
theorem dX4_add_74 : decode cX4_add 74 = .ok (.iastore, 1) := by decide +kernel
theorem dX4_add_75 : decode cX4_add 75 = .ok (.dup, 1) := by decide +kernel
theorem dX4_add_76 : decode cX4_add 76 = .ok (.iconst 5, 1) := by decide +kernel
theorem dX4_add_77 : decode cX4_add 77 = .ok (.iconst 1, 1) := by decide +kernel
theorem dX4_add_78 : decode cX4_add 78 = .ok (.iastore, 1) := by decide +kernel
theorem dX4_add_79 : decode cX4_add 79 = .ok (.aastore, 1) := by decide +kernel
theorem dX4_add_80 : decode cX4_add 80 = .ok (.aload_n 0, 1) := by decide +kernel
theorem dX4_add_81 : decode cX4_add 81 = .ok (.aload 5, 2) := by decide +kernel
theorem dX4_add_83 : decode cX4_add 83 = .ok (.putfield 9, 3) := by decide +kernel
theorem dX4_add_86 : decode cX4_add 86 = .ok (.return_, 1) := by decide +kernel
theorem dX4_meets_0 : decode cX4_meets 0 = .ok (.aload_n 0, 1) := by decide +kernel
theorem dX4_meets_1 : decode cX4_meets 1 = .ok (.iconst 5, 1) := by decide +kernel
theorem dX4_meets_2 : decode cX4_meets 2 = .ok (.iaload, 1) := by decide +kernel
theorem dX4_meets_3 : decode cX4_meets 3 = .ok (.iconst 1, 1) := by decide +kernel
theorem dX4_meets_4 : decode cX4_meets 4 = .ok (.if_icmp .ne 34, 3) := by decide +kernel
theorem dX4_meets_7 : decode cX4_meets 7 = .ok (.aload_n 0, 1) := by decide +kernel
theorem dX4_meets_8 : decode cX4_meets 8 = .ok (.iconst 0, 1) := by decide +kernel
theorem dX4_meets_9 : decode cX4_meets 9 = .ok (.iaload, 1) := by decide +kernel
theorem dX4_meets_10 : decode cX4_meets 10 = .ok (.iload_n 1, 1) := by decide +kernel
theorem dX4_meets_11 : decode cX4_meets 11 = .ok (.if_icmp .ne 27, 3) := by decide +kernel
theorem dX4_meets_14 : decode cX4_meets 14 = .ok (.aload_n 0, 1) := by decide +kernel
theorem dX4_meets_15 : decode cX4_meets 15 = .ok (.iconst 1, 1) := by decide +kernel
theorem dX4_meets_16 : decode cX4_meets 16 = .ok (.iaload, 1) := by decide +kernel
theorem dX4_meets_17 : decode cX4_meets 17 = .ok (.iload_n 2, 1) := by decide +kernel
theorem dX4_meets_18 : decode cX4_meets 18 = .ok (.iload_n 3, 1) := by decide +kernel
theorem dX4_meets_19 : decode cX4_meets 19 = .ok (.iadd, 1) := by decide +kernel
theorem dX4_meets_20 : decode cX4_meets 20 = .ok (.if_icmp .ge 18, 3) := by decide +kernel
theorem dX4_meets_23 : decode cX4_meets 23 = .ok (.iload_n 2, 1) := by decide +kernel
theorem dX4_meets_24 : decode cX4_meets 24 = .ok (.aload_n 0, 1) := by decide +kernel
theorem dX4_meets_25 : decode cX4_meets 25 = .ok (.iconst 1, 1) := by decide +kernel
theorem dX4_meets_26 : decode cX4_meets 26 = .ok (.iaload, 1) := by decide +kernel
theorem dX4_meets_27 : decode cX4_meets 27 = .ok (.aload_n 0, 1) := by decide +kernel
theorem dX4_meets_28 : decode cX4_meets 28 = .ok (.iconst 2, 1) := by decide +kernel
theorem dX4_meets_29 : decode cX4_meets 29 = .ok (.iaload, 1) := by decide +kernel
theorem dX4_meets_30 : decode cX4_meets 30 = .ok (.iadd, 1) := by decide +kernel
theorem dX4_meets_31 : decode cX4_meets 31 = .ok (.if_icmp .ge 7, 3) := by decide +kernel
theorem dX4_meets_34 : decode cX4_meets 34 = .ok (.iconst 1, 1) := by decide +kernel
theorem dX4_meets_35 : decode cX4_meets 35 = .ok (.goto 4, 3) := by decide +kernel
theorem dX4_meets_38 : decode cX4_meets 38 = .ok (.iconst 0, 1) := by decide +kernel
theorem dX4_meets_39 : decode cX4_meets 39 = .ok (.ireturn, 1) := by decide +kernel
theorem dX4_upon_0 : decode cX4_upon 0 = .ok (.iconst 0, 1) := by decide +kernel
theorem dX4_upon_1 : decode cX4_upon 1 = .ok (.istore_n 2, 1) := by decide +kernel
theorem dX4_upon_2 : decode cX4_upon 2 = .ok (.aload_n 0, 1) := by decide +kernel
theorem dX4_upon_3 : decode cX4_upon 3 = .ok (.getfield 9, 3) := by decide +kernel
theorem dX4_upon_6 : decode cX4_upon 6 = .ok (.astore_n 3, 1) := by decide +kernel
theorem dX4_upon_7 : decode cX4_upon 7 = .ok (.aload_n 3, 1) := by decide +kernel
theorem dX4_upon_8 : decode cX4_upon 8 = .ok (.arraylength, 1) := by decide +kernel
theorem dX4_upon_9 : decode cX4_upon 9 = .ok (.istore 4, 2) := by decide +kernel
theorem dX4_upon_11 : decode cX4_upon 11 = .ok (.iconst 0, 1) := by decide +kernel
theorem dX4_upon_12 : decode cX4_upon 12 = .ok (.istore 5, 2) := by decide +kernel
theorem dX4_upon_14 : decode cX4_upon 14 = .ok (.iload 5, 2) := by decide +kernel
theorem dX4_upon_16 : decode cX4_upon 16 = .ok (.iload 4, 2) := by decide +kernel
theorem dX4_upon_18 : decode cX4_upon 18 = .ok (.if_icmp .ge 42, 3) := by decide +kernel
theorem dX4_upon_21 : decode cX4_upon 21 = .ok (.aload_n 3, 1) := by decide +kernel
theorem dX4_upon_22 : decode cX4_upon 22 = .ok (.iload 5, 2) := by decide +kernel
theorem dX4_upon_24 : decode cX4_upon 24 = .ok (.aaload, 1) := by decide +kernel
theorem dX4_upon_25 : decode cX4_upon 25 = .ok (.astore 6, 2) := by decide +kernel
theorem dX4_upon_27 : decode cX4_upon 27 = .ok (.iload_n 2, 1) := by decide +kernel
theorem dX4_upon_28 : decode cX4_upon 28 = .ok (.aload 6, 2) := by decide +kernel
theorem dX4_upon_30 : decode cX4_upon 30 = .ok (.aload_n 1, 1) := by decide +kernel
theorem dX4_upon_31 : decode cX4_upon 31 = .ok (.iconst 0, 1) := by decide +kernel
theorem dX4_upon_32 : decode cX4_upon 32 = .ok (.iaload, 1) := by decide +kernel
theorem dX4_upon_33 : decode cX4_upon 33 = .ok (.iconst 1, 1) := by decide +kernel
theorem dX4_upon_34 : decode cX4_upon 34 = .ok (.iadd, 1) := by decide +kernel
theorem dX4_upon_35 : decode cX4_upon 35 = .ok (.aload_n 1, 1) := by decide +kernel
theorem dX4_upon_36 : decode cX4_upon 36 = .ok (.iconst 1, 1) := by decide +kernel
theorem dX4_upon_37 : decode cX4_upon 37 = .ok (.iaload, 1) := by decide +kernel
theorem dX4_upon_38 : decode cX4_upon 38 = .ok (.aload_n 1, 1) := by decide +kernel
theorem dX4_upon_39 : decode cX4_upon 39 = .ok (.iconst 2, 1) := by decide +kernel
theorem dX4_upon_40 : decode cX4_upon 40 = .ok (.iaload, 1) := by decide +kernel
theorem dX4_upon_41 : decode cX4_upon 41 = .ok (.invokestatic 31, 3) := by decide +kernel
theorem dX4_upon_44 : decode cX4_upon 44 = .ok (.ifCond .eq 7, 3) := by decide +kernel
theorem dX4_upon_47 : decode cX4_upon 47 = .ok (.iconst 1, 1) := by decide +kernel
theorem dX4_upon_48 : decode cX4_upon 48 = .ok (.goto 4, 3) := by decide +kernel
theorem dX4_upon_51 : decode cX4_upon 51 = .ok (.iconst 0, 1) := by decide +kernel
theorem dX4_upon_52 : decode cX4_upon 52 = .ok (.iadd, 1) := by decide +kernel
theorem dX4_upon_53 : decode cX4_upon 53 = .ok (.istore_n 2, 1) := by decide +kernel
theorem dX4_upon_54 : decode cX4_upon 54 = .ok (.iinc 5 1, 3) := by decide +kernel
theorem dX4_upon_57 : decode cX4_upon 57 = .ok (.goto (-43), 3) := by decide +kernel
theorem dX4_upon_60 : decode cX4_upon 60 = .ok (.iload_n 2, 1) := by decide +kernel
theorem dX4_upon_61 : decode cX4_upon 61 = .ok (.ireturn, 1) := by decide +kernel
theorem dX4_isFree_0 : decode cX4_isFree 0 = .ok (.aload_n 0, 1) := by decide +kernel
theorem dX4_isFree_1 : decode cX4_isFree 1 = .ok (.getfield 9, 3) := by decide +kernel
theorem dX4_isFree_4 : decode cX4_isFree 4 = .ok (.astore 4, 2) := by decide +kernel
theorem dX4_isFree_6 : decode cX4_isFree 6 = .ok (.aload 4, 2) := by decide +kernel
theorem dX4_isFree_8 : decode cX4_isFree 8 = .ok (.arraylength, 1) := by decide +kernel
theorem dX4_isFree_9 : decode cX4_isFree 9 = .ok (.istore 5, 2) := by decide +kernel
theorem dX4_isFree_11 : decode cX4_isFree 11 = .ok (.iconst 0, 1) := by decide +kernel
theorem dX4_isFree_12 : decode cX4_isFree 12 = .ok (.istore 6, 2) := by decide +kernel
theorem dX4_isFree_14 : decode cX4_isFree 14 = .ok (.iload 6, 2) := by decide +kernel
theorem dX4_isFree_16 : decode cX4_isFree 16 = .ok (.iload 5, 2) := by decide +kernel
theorem dX4_isFree_18 : decode cX4_isFree 18 = .ok (.if_icmp .ge 42, 3) := by decide +kernel
theorem dX4_isFree_21 : decode cX4_isFree 21 = .ok (.aload 4, 2) := by decide +kernel
theorem dX4_isFree_23 : decode cX4_isFree 23 = .ok (.iload 6, 2) := by decide +kernel
theorem dX4_isFree_25 : decode cX4_isFree 25 = .ok (.aaload, 1) := by decide +kernel
theorem dX4_isFree_26 : decode cX4_isFree 26 = .ok (.astore 7, 2) := by decide +kernel
theorem dX4_isFree_28 : decode cX4_isFree 28 = .ok (.aload 7, 2) := by decide +kernel
theorem dX4_isFree_30 : decode cX4_isFree 30 = .ok (.iload_n 1, 1) := by decide +kernel
theorem dX4_isFree_31 : decode cX4_isFree 31 = .ok (.iload_n 2, 1) := by decide +kernel
theorem dX4_isFree_32 : decode cX4_isFree 32 = .ok (.iload_n 3, 1) := by decide +kernel
theorem dX4_isFree_33 : decode cX4_isFree 33 = .ok (.invokestatic 31, 3) := by decide +kernel
theorem dX4_isFree_36 : decode cX4_isFree 36 = .ok (.ifCond .ne 16, 3) := by decide +kernel
theorem dX4_isFree_39 : decode cX4_isFree 39 = .ok (.aload 7, 2) := by decide +kernel
theorem dX4_isFree_41 : decode cX4_isFree 41 = .ok (.iload_n 1, 1) := by decide +kernel
theorem dX4_isFree_42 : decode cX4_isFree 42 = .ok (.iconst 1, 1) := by decide +kernel
theorem dX4_isFree_43 : decode cX4_isFree 43 = .ok (.iadd, 1) := by decide +kernel
theorem dX4_isFree_44 : decode cX4_isFree 44 = .ok (.iload_n 2, 1) := by decide +kernel
theorem dX4_isFree_45 : decode cX4_isFree 45 = .ok (.iload_n 3, 1) := by decide +kernel
theorem dX4_isFree_46 : decode cX4_isFree 46 = .ok (.invokestatic 31, 3) := by decide +kernel
theorem dX4_isFree_49 : decode cX4_isFree 49 = .ok (.ifCond .eq 5, 3) := by decide +kernel
theorem dX4_isFree_52 : decode cX4_isFree 52 = .ok (.iconst 0, 1) := by decide +kernel
theorem dX4_isFree_53 : decode cX4_isFree 53 = .ok (.ireturn, 1) := by decide +kernel
theorem dX4_isFree_54 : decode cX4_isFree 54 = .ok (.iinc 6 1, 3) := by decide +kernel
theorem dX4_isFree_57 : decode cX4_isFree 57 = .ok (.goto (-43), 3) := by decide +kernel
theorem dX4_isFree_60 : decode cX4_isFree 60 = .ok (.iconst 1, 1) := by decide +kernel
theorem dX4_isFree_61 : decode cX4_isFree 61 = .ok (.ireturn, 1) := by decide +kernel
theorem dX4_at_0 : decode cX4_at 0 = .ok (.iconst 0, 1) := by decide +kernel
theorem dX4_at_1 : decode cX4_at 1 = .ok (.istore_n 3, 1) := by decide +kernel
theorem dX4_at_2 : decode cX4_at 2 = .ok (.iload_n 3, 1) := by decide +kernel
theorem dX4_at_3 : decode cX4_at 3 = .ok (.aload_n 0, 1) := by decide +kernel
theorem dX4_at_4 : decode cX4_at 4 = .ok (.getfield 9, 3) := by decide +kernel
theorem dX4_at_7 : decode cX4_at 7 = .ok (.arraylength, 1) := by decide +kernel
theorem dX4_at_8 : decode cX4_at 8 = .ok (.if_icmp .ge 26, 3) := by decide +kernel
theorem dX4_at_11 : decode cX4_at 11 = .ok (.aload_n 0, 1) := by decide +kernel
theorem dX4_at_12 : decode cX4_at 12 = .ok (.getfield 9, 3) := by decide +kernel
theorem dX4_at_15 : decode cX4_at 15 = .ok (.iload_n 3, 1) := by decide +kernel
theorem dX4_at_16 : decode cX4_at 16 = .ok (.aaload, 1) := by decide +kernel
theorem dX4_at_17 : decode cX4_at 17 = .ok (.iload_n 2, 1) := by decide +kernel
theorem dX4_at_18 : decode cX4_at 18 = .ok (.iload_n 1, 1) := by decide +kernel
theorem dX4_at_19 : decode cX4_at 19 = .ok (.iconst 1, 1) := by decide +kernel
theorem dX4_at_20 : decode cX4_at 20 = .ok (.invokestatic 31, 3) := by decide +kernel
theorem dX4_at_23 : decode cX4_at 23 = .ok (.ifCond .eq 5, 3) := by decide +kernel
theorem dX4_at_26 : decode cX4_at 26 = .ok (.iload_n 3, 1) := by decide +kernel
theorem dX4_at_27 : decode cX4_at 27 = .ok (.ireturn, 1) := by decide +kernel
theorem dX4_at_28 : decode cX4_at 28 = .ok (.iinc 3 1, 3) := by decide +kernel
theorem dX4_at_31 : decode cX4_at 31 = .ok (.goto (-29), 3) := by decide +kernel
theorem dX4_at_34 : decode cX4_at 34 = .ok (.iconst (-1), 1) := by decide +kernel
theorem dX4_at_35 : decode cX4_at 35 = .ok (.ireturn, 1) := by decide +kernel
theorem dX4_hold_0 : decode cX4_hold 0 = .ok (.iconst 3, 1) := by decide +kernel
theorem dX4_hold_1 : decode cX4_hold 1 = .ok (.istore_n 2, 1) := by decide +kernel
theorem dX4_hold_2 : decode cX4_hold 2 = .ok (.aload_n 1, 1) := by decide +kernel
theorem dX4_hold_3 : decode cX4_hold 3 = .ok (.iconst 1, 1) := by decide +kernel
theorem dX4_hold_4 : decode cX4_hold 4 = .ok (.iaload, 1) := by decide +kernel
theorem dX4_hold_5 : decode cX4_hold 5 = .ok (.istore_n 3, 1) := by decide +kernel
theorem dX4_hold_6 : decode cX4_hold 6 = .ok (.iload_n 3, 1) := by decide +kernel
theorem dX4_hold_7 : decode cX4_hold 7 = .ok (.aload_n 1, 1) := by decide +kernel
theorem dX4_hold_8 : decode cX4_hold 8 = .ok (.iconst 1, 1) := by decide +kernel
theorem dX4_hold_9 : decode cX4_hold 9 = .ok (.iaload, 1) := by decide +kernel
theorem dX4_hold_10 : decode cX4_hold 10 = .ok (.aload_n 1, 1) := by decide +kernel
theorem dX4_hold_11 : decode cX4_hold 11 = .ok (.iconst 2, 1) := by decide +kernel
theorem dX4_hold_12 : decode cX4_hold 12 = .ok (.iaload, 1) := by decide +kernel
theorem dX4_hold_13 : decode cX4_hold 13 = .ok (.iadd, 1) := by decide +kernel
theorem dX4_hold_14 : decode cX4_hold 14 = .ok (.if_icmp .ge 25, 3) := by decide +kernel
theorem dX4_hold_17 : decode cX4_hold 17 = .ok (.aload_n 0, 1) := by decide +kernel
theorem dX4_hold_18 : decode cX4_hold 18 = .ok (.getfield 16, 3) := by decide +kernel
theorem dX4_hold_21 : decode cX4_hold 21 = .ok (.iload_n 3, 1) := by decide +kernel
theorem dX4_hold_22 : decode cX4_hold 22 = .ok (.aaload, 1) := by decide +kernel
theorem dX4_hold_23 : decode cX4_hold 23 = .ok (.aload_n 1, 1) := by decide +kernel
theorem dX4_hold_24 : decode cX4_hold 24 = .ok (.iconst 0, 1) := by decide +kernel
theorem dX4_hold_25 : decode cX4_hold 25 = .ok (.iaload, 1) := by decide +kernel
theorem dX4_hold_26 : decode cX4_hold 26 = .ok (.iaload, 1) := by decide +kernel
theorem dX4_hold_27 : decode cX4_hold 27 = .ok (.iconst 4, 1) := by decide +kernel
theorem dX4_hold_28 : decode cX4_hold 28 = .ok (.if_icmp .le 5, 3) := by decide +kernel
theorem dX4_hold_31 : decode cX4_hold 31 = .ok (.iconst 2, 1) := by decide +kernel
theorem dX4_hold_32 : decode cX4_hold 32 = .ok (.istore_n 2, 1) := by decide +kernel
theorem dX4_hold_33 : decode cX4_hold 33 = .ok (.iinc 3 1, 3) := by decide +kernel
theorem dX4_hold_36 : decode cX4_hold 36 = .ok (.goto (-30), 3) := by decide +kernel
theorem dX4_hold_39 : decode cX4_hold 39 = .ok (.iload_n 2, 1) := by decide +kernel
theorem dX4_hold_40 : decode cX4_hold 40 = .ok (.aload_n 1, 1) := by decide +kernel
theorem dX4_hold_41 : decode cX4_hold 41 = .ok (.iconst 3, 1) := by decide +kernel
theorem dX4_hold_42 : decode cX4_hold 42 = .ok (.iaload, 1) := by decide +kernel
theorem dX4_hold_43 : decode cX4_hold 43 = .ok (.imul, 1) := by decide +kernel
theorem dX4_hold_44 : decode cX4_hold 44 = .ok (.iconst 2, 1) := by decide +kernel
theorem dX4_hold_45 : decode cX4_hold 45 = .ok (.aload_n 0, 1) := by decide +kernel
theorem dX4_hold_46 : decode cX4_hold 46 = .ok (.aload_n 1, 1) := by decide +kernel
theorem dX4_hold_47 : decode cX4_hold 47 = .ok (.invokevirtual 35, 3) := by decide +kernel
theorem dX4_hold_50 : decode cX4_hold 50 = .ok (.imul, 1) := by decide +kernel
theorem dX4_hold_51 : decode cX4_hold 51 = .ok (.iadd, 1) := by decide +kernel
theorem dX4_hold_52 : decode cX4_hold 52 = .ok (.istore_n 3, 1) := by decide +kernel
theorem dX4_hold_53 : decode cX4_hold 53 = .ok (.aload_n 1, 1) := by decide +kernel
theorem dX4_hold_54 : decode cX4_hold 54 = .ok (.iconst 4, 1) := by decide +kernel
theorem dX4_hold_55 : decode cX4_hold 55 = .ok (.iaload, 1) := by decide +kernel
theorem dX4_hold_56 : decode cX4_hold 56 = .ok (.iconst 1, 1) := by decide +kernel
theorem dX4_hold_57 : decode cX4_hold 57 = .ok (.if_icmp .ne 9, 3) := by decide +kernel
theorem dX4_hold_60 : decode cX4_hold 60 = .ok (.iload_n 3, 1) := by decide +kernel
theorem dX4_hold_61 : decode cX4_hold 61 = .ok (.iconst 2, 1) := by decide +kernel
theorem dX4_hold_62 : decode cX4_hold 62 = .ok (.idiv, 1) := by decide +kernel
theorem dX4_hold_63 : decode cX4_hold 63 = .ok (.goto 4, 3) := by decide +kernel
theorem dX4_hold_66 : decode cX4_hold 66 = .ok (.iload_n 3, 1) := by decide +kernel
theorem dX4_hold_67 : decode cX4_hold 67 = .ok (.ireturn, 1) := by decide +kernel
theorem dX4_lift_0 : decode cX4_lift 0 = .ok (.iload_n 2, 1) := by decide +kernel
theorem dX4_lift_1 : decode cX4_lift 1 = .ok (.aload_n 1, 1) := by decide +kernel
theorem dX4_lift_2 : decode cX4_lift 2 = .ok (.iconst 0, 1) := by decide +kernel
theorem dX4_lift_3 : decode cX4_lift 3 = .ok (.iaload, 1) := by decide +kernel
theorem dX4_lift_4 : decode cX4_lift 4 = .ok (.iadd, 1) := by decide +kernel
theorem dX4_lift_5 : decode cX4_lift 5 = .ok (.istore 4, 2) := by decide +kernel
theorem dX4_lift_7 : decode cX4_lift 7 = .ok (.aload_n 0, 1) := by decide +kernel
theorem dX4_lift_8 : decode cX4_lift 8 = .ok (.getfield 9, 3) := by decide +kernel
theorem dX4_lift_11 : decode cX4_lift 11 = .ok (.astore 5, 2) := by decide +kernel
theorem dX4_lift_13 : decode cX4_lift 13 = .ok (.aload 5, 2) := by decide +kernel
theorem dX4_lift_15 : decode cX4_lift 15 = .ok (.arraylength, 1) := by decide +kernel
theorem dX4_lift_16 : decode cX4_lift 16 = .ok (.istore 6, 2) := by decide +kernel
theorem dX4_lift_18 : decode cX4_lift 18 = .ok (.iconst 0, 1) := by decide +kernel
theorem dX4_lift_19 : decode cX4_lift 19 = .ok (.istore 7, 2) := by decide +kernel
theorem dX4_lift_21 : decode cX4_lift 21 = .ok (.iload 7, 2) := by decide +kernel
theorem dX4_lift_23 : decode cX4_lift 23 = .ok (.iload 6, 2) := by decide +kernel
theorem dX4_lift_25 : decode cX4_lift 25 = .ok (.if_icmp .ge 73, 3) := by decide +kernel
theorem dX4_lift_28 : decode cX4_lift 28 = .ok (.aload 5, 2) := by decide +kernel
theorem dX4_lift_30 : decode cX4_lift 30 = .ok (.iload 7, 2) := by decide +kernel
theorem dX4_lift_32 : decode cX4_lift 32 = .ok (.aaload, 1) := by decide +kernel
theorem dX4_lift_33 : decode cX4_lift 33 = .ok (.astore 8, 2) := by decide +kernel
theorem dX4_lift_35 : decode cX4_lift 35 = .ok (.aload 8, 2) := by decide +kernel
theorem dX4_lift_37 : decode cX4_lift 37 = .ok (.iconst 5, 1) := by decide +kernel
theorem dX4_lift_38 : decode cX4_lift 38 = .ok (.iaload, 1) := by decide +kernel
theorem dX4_lift_39 : decode cX4_lift 39 = .ok (.iconst 1, 1) := by decide +kernel
theorem dX4_lift_40 : decode cX4_lift 40 = .ok (.if_icmp .ne 52, 3) := by decide +kernel
theorem dX4_lift_43 : decode cX4_lift 43 = .ok (.aload 8, 2) := by decide +kernel
theorem dX4_lift_45 : decode cX4_lift 45 = .ok (.iconst 0, 1) := by decide +kernel
theorem dX4_lift_46 : decode cX4_lift 46 = .ok (.iaload, 1) := by decide +kernel
theorem dX4_lift_47 : decode cX4_lift 47 = .ok (.aload_n 1, 1) := by decide +kernel
theorem dX4_lift_48 : decode cX4_lift 48 = .ok (.iconst 0, 1) := by decide +kernel
theorem dX4_lift_49 : decode cX4_lift 49 = .ok (.iaload, 1) := by decide +kernel
theorem dX4_lift_50 : decode cX4_lift 50 = .ok (.if_icmp .ne 42, 3) := by decide +kernel
theorem dX4_lift_53 : decode cX4_lift 53 = .ok (.iload_n 3, 1) := by decide +kernel
theorem dX4_lift_54 : decode cX4_lift 54 = .ok (.ifCond .eq 20, 3) := by decide +kernel
theorem dX4_lift_57 : decode cX4_lift 57 = .ok (.aload 8, 2) := by decide +kernel
theorem dX4_lift_59 : decode cX4_lift 59 = .ok (.iconst 1, 1) := by decide +kernel
theorem dX4_lift_60 : decode cX4_lift 60 = .ok (.iaload, 1) := by decide +kernel
theorem dX4_lift_61 : decode cX4_lift 61 = .ok (.aload_n 1, 1) := by decide +kernel
theorem dX4_lift_62 : decode cX4_lift 62 = .ok (.iconst 1, 1) := by decide +kernel
theorem dX4_lift_63 : decode cX4_lift 63 = .ok (.iaload, 1) := by decide +kernel
theorem dX4_lift_64 : decode cX4_lift 64 = .ok (.aload_n 1, 1) := by decide +kernel
theorem dX4_lift_65 : decode cX4_lift 65 = .ok (.iconst 2, 1) := by decide +kernel
theorem dX4_lift_66 : decode cX4_lift 66 = .ok (.iaload, 1) := by decide +kernel
theorem dX4_lift_67 : decode cX4_lift 67 = .ok (.iadd, 1) := by decide +kernel
theorem dX4_lift_68 : decode cX4_lift 68 = .ok (.if_icmp .ne 24, 3) := by decide +kernel
theorem dX4_lift_71 : decode cX4_lift 71 = .ok (.goto 18, 3) := by decide +kernel
theorem dX4_lift_74 : decode cX4_lift 74 = .ok (.aload 8, 2) := by decide +kernel
theorem dX4_lift_76 : decode cX4_lift 76 = .ok (.iconst 1, 1) := by decide +kernel
theorem dX4_lift_77 : decode cX4_lift 77 = .ok (.iaload, 1) := by decide +kernel
theorem dX4_lift_78 : decode cX4_lift 78 = .ok (.aload 8, 2) := by decide +kernel
theorem dX4_lift_80 : decode cX4_lift 80 = .ok (.iconst 2, 1) := by decide +kernel
theorem dX4_lift_81 : decode cX4_lift 81 = .ok (.iaload, 1) := by decide +kernel
theorem dX4_lift_82 : decode cX4_lift 82 = .ok (.iadd, 1) := by decide +kernel
theorem dX4_lift_83 : decode cX4_lift 83 = .ok (.aload_n 1, 1) := by decide +kernel
theorem dX4_lift_84 : decode cX4_lift 84 = .ok (.iconst 1, 1) := by decide +kernel
theorem dX4_lift_85 : decode cX4_lift 85 = .ok (.iaload, 1) := by decide +kernel
theorem dX4_lift_86 : decode cX4_lift 86 = .ok (.if_icmp .ne 6, 3) := by decide +kernel
theorem dX4_lift_89 : decode cX4_lift 89 = .ok (.iinc 4 (-2), 3) := by decide +kernel
theorem dX4_lift_92 : decode cX4_lift 92 = .ok (.iinc 7 1, 3) := by decide +kernel
theorem dX4_lift_95 : decode cX4_lift 95 = .ok (.goto (-74), 3) := by decide +kernel
theorem dX4_lift_98 : decode cX4_lift 98 = .ok (.iload 4, 2) := by decide +kernel
theorem dX4_lift_100 : decode cX4_lift 100 = .ok (.ireturn, 1) := by decide +kernel
theorem dX4_storm_0 : decode cX4_storm 0 = .ok (.iload_n 1, 1) := by decide +kernel
theorem dX4_storm_1 : decode cX4_storm 1 = .ok (.iconst 1, 1) := by decide +kernel
theorem dX4_storm_2 : decode cX4_storm 2 = .ok (.if_icmp .ge 5, 3) := by decide +kernel
theorem dX4_storm_5 : decode cX4_storm 5 = .ok (.iconst 0, 1) := by decide +kernel
theorem dX4_storm_6 : decode cX4_storm 6 = .ok (.ireturn, 1) := by decide +kernel
theorem dX4_storm_7 : decode cX4_storm 7 = .ok (.iconst 0, 1) := by decide +kernel
theorem dX4_storm_8 : decode cX4_storm 8 = .ok (.istore_n 3, 1) := by decide +kernel
theorem dX4_storm_9 : decode cX4_storm 9 = .ok (.iconst 1, 1) := by decide +kernel
theorem dX4_storm_10 : decode cX4_storm 10 = .ok (.istore 4, 2) := by decide +kernel
theorem dX4_storm_12 : decode cX4_storm 12 = .ok (.iload 4, 2) := by decide +kernel
theorem dX4_storm_14 : decode cX4_storm 14 = .ok (.ifCond .eq 143, 3) := by decide +kernel
theorem dX4_storm_17 : decode cX4_storm 17 = .ok (.iconst 0, 1) := by decide +kernel
theorem dX4_storm_18 : decode cX4_storm 18 = .ok (.istore 4, 2) := by decide +kernel
theorem dX4_storm_20 : decode cX4_storm 20 = .ok (.iinc 3 1, 3) := by decide +kernel
theorem dX4_storm_23 : decode cX4_storm 23 = .ok (.aload_n 0, 1) := by decide +kernel
theorem dX4_storm_24 : decode cX4_storm 24 = .ok (.getfield 9, 3) := by decide +kernel
theorem dX4_storm_27 : decode cX4_storm 27 = .ok (.arraylength, 1) := by decide +kernel
theorem dX4_storm_28 : decode cX4_storm 28 = .ok (.newarray .boolean, 2) := by decide +kernel
theorem dX4_storm_30 : decode cX4_storm 30 = .ok (.astore 5, 2) := by decide +kernel
theorem dX4_storm_32 : decode cX4_storm 32 = .ok (.iconst 0, 1) := by decide +kernel
theorem dX4_storm_33 : decode cX4_storm 33 = .ok (.istore 6, 2) := by decide +kernel
theorem dX4_storm_35 : decode cX4_storm 35 = .ok (.iload 6, 2) := by decide +kernel
theorem dX4_storm_37 : decode cX4_storm 37 = .ok (.aload_n 0, 1) := by decide +kernel
theorem dX4_storm_38 : decode cX4_storm 38 = .ok (.getfield 9, 3) := by decide +kernel
theorem dX4_storm_41 : decode cX4_storm 41 = .ok (.arraylength, 1) := by decide +kernel
theorem dX4_storm_42 : decode cX4_storm 42 = .ok (.if_icmp .ge 59, 3) := by decide +kernel
theorem dX4_storm_45 : decode cX4_storm 45 = .ok (.aload 5, 2) := by decide +kernel
theorem dX4_storm_47 : decode cX4_storm 47 = .ok (.iload 6, 2) := by decide +kernel
theorem dX4_storm_49 : decode cX4_storm 49 = .ok (.aload_n 0, 1) := by decide +kernel
theorem dX4_storm_50 : decode cX4_storm 50 = .ok (.getfield 9, 3) := by decide +kernel
theorem dX4_storm_53 : decode cX4_storm 53 = .ok (.iload 6, 2) := by decide +kernel
theorem dX4_storm_55 : decode cX4_storm 55 = .ok (.aaload, 1) := by decide +kernel
theorem dX4_storm_56 : decode cX4_storm 56 = .ok (.iconst 5, 1) := by decide +kernel
theorem dX4_storm_57 : decode cX4_storm 57 = .ok (.iaload, 1) := by decide +kernel
theorem dX4_storm_58 : decode cX4_storm 58 = .ok (.iconst 1, 1) := by decide +kernel
theorem dX4_storm_59 : decode cX4_storm 59 = .ok (.if_icmp .ne 34, 3) := by decide +kernel
theorem dX4_storm_62 : decode cX4_storm 62 = .ok (.aload_n 0, 1) := by decide +kernel
theorem dX4_storm_63 : decode cX4_storm 63 = .ok (.aload_n 0, 1) := by decide +kernel
theorem dX4_storm_64 : decode cX4_storm 64 = .ok (.getfield 9, 3) := by decide +kernel
theorem dX4_storm_67 : decode cX4_storm 67 = .ok (.iload 6, 2) := by decide +kernel
theorem dX4_storm_69 : decode cX4_storm 69 = .ok (.aaload, 1) := by decide +kernel
theorem dX4_storm_70 : decode cX4_storm 70 = .ok (.iload_n 1, 1) := by decide +kernel
theorem dX4_storm_71 : decode cX4_storm 71 = .ok (.iload_n 2, 1) := by decide +kernel
theorem dX4_storm_72 : decode cX4_storm 72 = .ok (.invokevirtual 39, 3) := by decide +kernel
theorem dX4_storm_75 : decode cX4_storm 75 = .ok (.aload_n 0, 1) := by decide +kernel
theorem dX4_storm_76 : decode cX4_storm 76 = .ok (.aload_n 0, 1) := by decide +kernel
theorem dX4_storm_77 : decode cX4_storm 77 = .ok (.getfield 9, 3) := by decide +kernel
theorem dX4_storm_80 : decode cX4_storm 80 = .ok (.iload 6, 2) := by decide +kernel
theorem dX4_storm_82 : decode cX4_storm 82 = .ok (.aaload, 1) := by decide +kernel
theorem dX4_storm_83 : decode cX4_storm 83 = .ok (.invokevirtual 43, 3) := by decide +kernel
theorem dX4_storm_86 : decode cX4_storm 86 = .ok (.if_icmp .le 7, 3) := by decide +kernel
theorem dX4_storm_89 : decode cX4_storm 89 = .ok (.iconst 1, 1) := by decide +kernel
theorem dX4_storm_90 : decode cX4_storm 90 = .ok (.goto 4, 3) := by decide +kernel
theorem dX4_storm_93 : decode cX4_storm 93 = .ok (.iconst 0, 1) := by decide +kernel
theorem dX4_storm_94 : decode cX4_storm 94 = .ok (.bastore, 1) := by decide +kernel
theorem dX4_storm_95 : decode cX4_storm 95 = .ok (.iinc 6 1, 3) := by decide +kernel
theorem dX4_storm_98 : decode cX4_storm 98 = .ok (.goto (-63), 3) := by decide +kernel
theorem dX4_storm_101 : decode cX4_storm 101 = .ok (.iconst 0, 1) := by decide +kernel
theorem dX4_storm_102 : decode cX4_storm 102 = .ok (.istore 6, 2) := by decide +kernel
theorem dX4_storm_104 : decode cX4_storm 104 = .ok (.iload 6, 2) := by decide +kernel
theorem dX4_storm_106 : decode cX4_storm 106 = .ok (.aload_n 0, 1) := by decide +kernel
theorem dX4_storm_107 : decode cX4_storm 107 = .ok (.getfield 9, 3) := by decide +kernel
theorem dX4_storm_110 : decode cX4_storm 110 = .ok (.arraylength, 1) := by decide +kernel
theorem dX4_storm_111 : decode cX4_storm 111 = .ok (.if_icmp .ge 43, 3) := by decide +kernel
theorem dX4_storm_114 : decode cX4_storm 114 = .ok (.aload 5, 2) := by decide +kernel
theorem dX4_storm_116 : decode cX4_storm 116 = .ok (.iload 6, 2) := by decide +kernel
theorem dX4_storm_118 : decode cX4_storm 118 = .ok (.baload, 1) := by decide +kernel
theorem dX4_storm_119 : decode cX4_storm 119 = .ok (.ifCond .ne 6, 3) := by decide +kernel
theorem dX4_storm_122 : decode cX4_storm 122 = .ok (.goto 26, 3) := by decide +kernel
theorem dX4_storm_125 : decode cX4_storm 125 = .ok (.aload_n 0, 1) := by decide +kernel
theorem dX4_storm_126 : decode cX4_storm 126 = .ok (.getfield 9, 3) := by decide +kernel
theorem dX4_storm_129 : decode cX4_storm 129 = .ok (.iload 6, 2) := by decide +kernel
theorem dX4_storm_131 : decode cX4_storm 131 = .ok (.aaload, 1) := by decide +kernel
theorem dX4_storm_132 : decode cX4_storm 132 = .ok (.iconst 5, 1) := by decide +kernel
theorem dX4_storm_133 : decode cX4_storm 133 = .ok (.iconst 0, 1) := by decide +kernel
theorem dX4_storm_134 : decode cX4_storm 134 = .ok (.iastore, 1) := by decide +kernel
theorem dX4_storm_135 : decode cX4_storm 135 = .ok (.aload_n 0, 1) := by decide +kernel
theorem dX4_storm_136 : decode cX4_storm 136 = .ok (.dup, 1) := by decide +kernel
theorem dX4_storm_137 : decode cX4_storm 137 = .ok (.getfield 46, 3) := by decide +kernel
theorem dX4_storm_140 : decode cX4_storm 140 = .ok (.iconst 1, 1) := by decide +kernel
theorem dX4_storm_141 : decode cX4_storm 141 = .ok (.iadd, 1) := by decide +kernel
theorem dX4_storm_142 : decode cX4_storm 142 = .ok (.putfield 46, 3) := by decide +kernel
theorem dX4_storm_145 : decode cX4_storm 145 = .ok (.iconst 1, 1) := by decide +kernel
theorem dX4_storm_146 : decode cX4_storm 146 = .ok (.istore 4, 2) := by decide +kernel
theorem dX4_storm_148 : decode cX4_storm 148 = .ok (.iinc 6 1, 3) := by decide +kernel
theorem dX4_storm_151 : decode cX4_storm 151 = .ok (.goto (-47), 3) := by decide +kernel
theorem dX4_storm_154 : decode cX4_storm 154 = .ok (.goto (-142), 3) := by decide +kernel
theorem dX4_storm_157 : decode cX4_storm 157 = .ok (.iload_n 3, 1) := by decide +kernel
theorem dX4_storm_158 : decode cX4_storm 158 = .ok (.ireturn, 1) := by decide +kernel
theorem dX4_covered_0 : decode cX4_covered 0 = .ok (.aload_n 0, 1) := by decide +kernel
theorem dX4_covered_1 : decode cX4_covered 1 = .ok (.getfield 9, 3) := by decide +kernel
theorem dX4_covered_4 : decode cX4_covered 4 = .ok (.astore_n 3, 1) := by decide +kernel
theorem dX4_covered_5 : decode cX4_covered 5 = .ok (.aload_n 3, 1) := by decide +kernel
theorem dX4_covered_6 : decode cX4_covered 6 = .ok (.arraylength, 1) := by decide +kernel
theorem dX4_covered_7 : decode cX4_covered 7 = .ok (.istore 4, 2) := by decide +kernel
theorem dX4_covered_9 : decode cX4_covered 9 = .ok (.iconst 0, 1) := by decide +kernel
theorem dX4_covered_10 : decode cX4_covered 10 = .ok (.istore 5, 2) := by decide +kernel
theorem dX4_covered_12 : decode cX4_covered 12 = .ok (.iload 5, 2) := by decide +kernel
theorem dX4_covered_14 : decode cX4_covered 14 = .ok (.iload 4, 2) := by decide +kernel
theorem dX4_covered_16 : decode cX4_covered 16 = .ok (.if_icmp .ge 48, 3) := by decide +kernel
theorem dX4_covered_19 : decode cX4_covered 19 = .ok (.aload_n 3, 1) := by decide +kernel
theorem dX4_covered_20 : decode cX4_covered 20 = .ok (.iload 5, 2) := by decide +kernel
theorem dX4_covered_22 : decode cX4_covered 22 = .ok (.aaload, 1) := by decide +kernel
theorem dX4_covered_23 : decode cX4_covered 23 = .ok (.astore 6, 2) := by decide +kernel
theorem dX4_covered_25 : decode cX4_covered 25 = .ok (.aload 6, 2) := by decide +kernel
theorem dX4_covered_27 : decode cX4_covered 27 = .ok (.iconst 4, 1) := by decide +kernel
theorem dX4_covered_28 : decode cX4_covered 28 = .ok (.iaload, 1) := by decide +kernel
theorem dX4_covered_29 : decode cX4_covered 29 = .ok (.ifCond .ne 29, 3) := by decide +kernel
theorem dX4_covered_32 : decode cX4_covered 32 = .ok (.aload 6, 2) := by decide +kernel
theorem dX4_covered_34 : decode cX4_covered 34 = .ok (.iload_n 2, 1) := by decide +kernel
theorem dX4_covered_35 : decode cX4_covered 35 = .ok (.iload_n 1, 1) := by decide +kernel
theorem dX4_covered_36 : decode cX4_covered 36 = .ok (.iconst 1, 1) := by decide +kernel
theorem dX4_covered_37 : decode cX4_covered 37 = .ok (.invokestatic 31, 3) := by decide +kernel
theorem dX4_covered_40 : decode cX4_covered 40 = .ok (.ifCond .ne 16, 3) := by decide +kernel
theorem dX4_covered_43 : decode cX4_covered 43 = .ok (.aload 6, 2) := by decide +kernel
theorem dX4_covered_45 : decode cX4_covered 45 = .ok (.iload_n 2, 1) := by decide +kernel
theorem dX4_covered_46 : decode cX4_covered 46 = .ok (.iconst 1, 1) := by decide +kernel
theorem dX4_covered_47 : decode cX4_covered 47 = .ok (.iadd, 1) := by decide +kernel
theorem dX4_covered_48 : decode cX4_covered 48 = .ok (.iload_n 1, 1) := by decide +kernel
theorem dX4_covered_49 : decode cX4_covered 49 = .ok (.iconst 1, 1) := by decide +kernel
theorem dX4_covered_50 : decode cX4_covered 50 = .ok (.invokestatic 31, 3) := by decide +kernel
theorem dX4_covered_53 : decode cX4_covered 53 = .ok (.ifCond .eq 5, 3) := by decide +kernel
theorem dX4_covered_56 : decode cX4_covered 56 = .ok (.iconst 1, 1) := by decide +kernel
theorem dX4_covered_57 : decode cX4_covered 57 = .ok (.ireturn, 1) := by decide +kernel
theorem dX4_covered_58 : decode cX4_covered 58 = .ok (.iinc 5 1, 3) := by decide +kernel
theorem dX4_covered_61 : decode cX4_covered 61 = .ok (.goto (-49), 3) := by decide +kernel
theorem dX4_covered_64 : decode cX4_covered 64 = .ok (.iconst 0, 1) := by decide +kernel
theorem dX4_covered_65 : decode cX4_covered 65 = .ok (.ireturn, 1) := by decide +kernel
theorem dX4_covered__0 : decode cX4_covered_ 0 = .ok (.iconst 0, 1) := by decide +kernel
theorem dX4_covered__1 : decode cX4_covered_ 1 = .ok (.istore_n 1, 1) := by decide +kernel
theorem dX4_covered__2 : decode cX4_covered_ 2 = .ok (.iconst 0, 1) := by decide +kernel
theorem dX4_covered__3 : decode cX4_covered_ 3 = .ok (.istore_n 2, 1) := by decide +kernel
theorem dX4_covered__4 : decode cX4_covered_ 4 = .ok (.iload_n 2, 1) := by decide +kernel
theorem dX4_covered__5 : decode cX4_covered_ 5 = .ok (.bipush 12, 2) := by decide +kernel
theorem dX4_covered__7 : decode cX4_covered_ 7 = .ok (.if_icmp .ge 40, 3) := by decide +kernel
theorem dX4_covered__10 : decode cX4_covered_ 10 = .ok (.iconst 0, 1) := by decide +kernel
theorem dX4_covered__11 : decode cX4_covered_ 11 = .ok (.istore_n 3, 1) := by decide +kernel
theorem dX4_covered__12 : decode cX4_covered_ 12 = .ok (.iload_n 3, 1) := by decide +kernel
theorem dX4_covered__13 : decode cX4_covered_ 13 = .ok (.bipush 8, 2) := by decide +kernel
theorem dX4_covered__15 : decode cX4_covered_ 15 = .ok (.if_icmp .ge 26, 3) := by decide +kernel
theorem dX4_covered__18 : decode cX4_covered_ 18 = .ok (.iload_n 1, 1) := by decide +kernel
theorem dX4_covered__19 : decode cX4_covered_ 19 = .ok (.aload_n 0, 1) := by decide +kernel
theorem dX4_covered__20 : decode cX4_covered_ 20 = .ok (.iload_n 2, 1) := by decide +kernel
theorem dX4_covered__21 : decode cX4_covered_ 21 = .ok (.iload_n 3, 1) := by decide +kernel
theorem dX4_covered__22 : decode cX4_covered_ 22 = .ok (.invokevirtual 49, 3) := by decide +kernel
theorem dX4_covered__25 : decode cX4_covered_ 25 = .ok (.ifCond .eq 7, 3) := by decide +kernel
theorem dX4_covered__28 : decode cX4_covered_ 28 = .ok (.iconst 1, 1) := by decide +kernel
theorem dX4_covered__29 : decode cX4_covered_ 29 = .ok (.goto 4, 3) := by decide +kernel
theorem dX4_covered__32 : decode cX4_covered_ 32 = .ok (.iconst 0, 1) := by decide +kernel
theorem dX4_covered__33 : decode cX4_covered_ 33 = .ok (.iadd, 1) := by decide +kernel
theorem dX4_covered__34 : decode cX4_covered_ 34 = .ok (.istore_n 1, 1) := by decide +kernel
theorem dX4_covered__35 : decode cX4_covered_ 35 = .ok (.iinc 3 1, 3) := by decide +kernel
theorem dX4_covered__38 : decode cX4_covered_ 38 = .ok (.goto (-26), 3) := by decide +kernel
theorem dX4_covered__41 : decode cX4_covered_ 41 = .ok (.iinc 2 1, 3) := by decide +kernel
theorem dX4_covered__44 : decode cX4_covered_ 44 = .ok (.goto (-40), 3) := by decide +kernel
theorem dX4_covered__47 : decode cX4_covered_ 47 = .ok (.iload_n 1, 1) := by decide +kernel
theorem dX4_covered__48 : decode cX4_covered_ 48 = .ok (.ireturn, 1) := by decide +kernel
theorem dX4_comes_0 : decode cX4_comes 0 = .ok (.aload_n 0, 1) := by decide +kernel
theorem dX4_comes_1 : decode cX4_comes 1 = .ok (.iload_n 2, 1) := by decide +kernel
theorem dX4_comes_2 : decode cX4_comes 2 = .ok (.iload_n 3, 1) := by decide +kernel
theorem dX4_comes_3 : decode cX4_comes 3 = .ok (.invokevirtual 49, 3) := by decide +kernel
theorem dX4_comes_6 : decode cX4_comes 6 = .ok (.ifCond .eq 5, 3) := by decide +kernel
theorem dX4_comes_9 : decode cX4_comes 9 = .ok (.iconst 0, 1) := by decide +kernel
theorem dX4_comes_10 : decode cX4_comes 10 = .ok (.ireturn, 1) := by decide +kernel
theorem dX4_comes_11 : decode cX4_comes 11 = .ok (.iload_n 3, 1) := by decide +kernel
theorem dX4_comes_12 : decode cX4_comes 12 = .ok (.bipush 7, 2) := by decide +kernel
theorem dX4_comes_14 : decode cX4_comes 14 = .ok (.if_icmp .ne 7, 3) := by decide +kernel
theorem dX4_comes_17 : decode cX4_comes 17 = .ok (.iload_n 1, 1) := by decide +kernel
theorem dX4_comes_18 : decode cX4_comes 18 = .ok (.goto 16, 3) := by decide +kernel
theorem dX4_comes_21 : decode cX4_comes 21 = .ok (.iload_n 1, 1) := by decide +kernel
theorem dX4_comes_22 : decode cX4_comes 22 = .ok (.aload_n 0, 1) := by decide +kernel
theorem dX4_comes_23 : decode cX4_comes 23 = .ok (.iload_n 1, 1) := by decide +kernel
theorem dX4_comes_24 : decode cX4_comes 24 = .ok (.iload_n 2, 1) := by decide +kernel
theorem dX4_comes_25 : decode cX4_comes 25 = .ok (.iload_n 3, 1) := by decide +kernel
theorem dX4_comes_26 : decode cX4_comes 26 = .ok (.iconst 1, 1) := by decide +kernel
theorem dX4_comes_27 : decode cX4_comes 27 = .ok (.iadd, 1) := by decide +kernel
theorem dX4_comes_28 : decode cX4_comes 28 = .ok (.invokevirtual 53, 3) := by decide +kernel
theorem dX4_comes_31 : decode cX4_comes 31 = .ok (.iconst 2, 1) := by decide +kernel
theorem dX4_comes_32 : decode cX4_comes 32 = .ok (.idiv, 1) := by decide +kernel
theorem dX4_comes_33 : decode cX4_comes 33 = .ok (.iadd, 1) := by decide +kernel
theorem dX4_comes_34 : decode cX4_comes 34 = .ok (.ireturn, 1) := by decide +kernel
theorem dX4_pass_0 : decode cX4_pass 0 = .ok (.aload_n 0, 1) := by decide +kernel
theorem dX4_pass_1 : decode cX4_pass 1 = .ok (.getfield 19, 3) := by decide +kernel
theorem dX4_pass_4 : decode cX4_pass 4 = .ok (.aload_n 0, 1) := by decide +kernel
theorem dX4_pass_5 : decode cX4_pass 5 = .ok (.getfield 27, 3) := by decide +kernel
theorem dX4_pass_8 : decode cX4_pass 8 = .ok (.bipush 7, 2) := by decide +kernel
theorem dX4_pass_10 : decode cX4_pass 10 = .ok (.irem, 1) := by decide +kernel
theorem dX4_pass_11 : decode cX4_pass 11 = .ok (.aaload, 1) := by decide +kernel
theorem dX4_pass_12 : decode cX4_pass 12 = .ok (.astore_n 1, 1) := by decide +kernel
theorem dX4_pass_13 : decode cX4_pass 13 = .ok (.aload_n 0, 1) := by decide +kernel
theorem dX4_pass_14 : decode cX4_pass 14 = .ok (.aload_n 1, 1) := by decide +kernel
theorem dX4_pass_15 : decode cX4_pass 15 = .ok (.iconst 0, 1) := by decide +kernel
theorem dX4_pass_16 : decode cX4_pass 16 = .ok (.iaload, 1) := by decide +kernel
theorem dX4_pass_17 : decode cX4_pass 17 = .ok (.aload_n 1, 1) := by decide +kernel
theorem dX4_pass_18 : decode cX4_pass 18 = .ok (.iconst 1, 1) := by decide +kernel
theorem dX4_pass_19 : decode cX4_pass 19 = .ok (.iaload, 1) := by decide +kernel
theorem dX4_pass_20 : decode cX4_pass 20 = .ok (.iconst 1, 1) := by decide +kernel
theorem dX4_pass_21 : decode cX4_pass 21 = .ok (.if_icmp .ne 7, 3) := by decide +kernel
theorem dX4_pass_24 : decode cX4_pass 24 = .ok (.iconst 1, 1) := by decide +kernel
theorem dX4_pass_25 : decode cX4_pass 25 = .ok (.goto 4, 3) := by decide +kernel
theorem dX4_pass_28 : decode cX4_pass 28 = .ok (.iconst 0, 1) := by decide +kernel
theorem dX4_pass_29 : decode cX4_pass 29 = .ok (.invokevirtual 57, 3) := by decide +kernel
theorem dX4_pass_32 : decode cX4_pass 32 = .ok (.pop, 1) := by decide +kernel
theorem dX4_pass_33 : decode cX4_pass 33 = .ok (.aload_n 0, 1) := by decide +kernel
theorem dX4_pass_34 : decode cX4_pass 34 = .ok (.getfield 9, 3) := by decide +kernel
theorem dX4_pass_37 : decode cX4_pass 37 = .ok (.astore_n 2, 1) := by decide +kernel
theorem dX4_pass_38 : decode cX4_pass 38 = .ok (.aload_n 2, 1) := by decide +kernel
theorem dX4_pass_39 : decode cX4_pass 39 = .ok (.arraylength, 1) := by decide +kernel
theorem dX4_pass_40 : decode cX4_pass 40 = .ok (.istore_n 3, 1) := by decide +kernel
theorem dX4_pass_41 : decode cX4_pass 41 = .ok (.iconst 0, 1) := by decide +kernel
theorem dX4_pass_42 : decode cX4_pass 42 = .ok (.istore 4, 2) := by decide +kernel
theorem dX4_pass_44 : decode cX4_pass 44 = .ok (.iload 4, 2) := by decide +kernel
theorem dX4_pass_46 : decode cX4_pass 46 = .ok (.iload_n 3, 1) := by decide +kernel
theorem dX4_pass_47 : decode cX4_pass 47 = .ok (.if_icmp .ge 139, 3) := by decide +kernel
theorem dX4_pass_50 : decode cX4_pass 50 = .ok (.aload_n 2, 1) := by decide +kernel
theorem dX4_pass_51 : decode cX4_pass 51 = .ok (.iload 4, 2) := by decide +kernel
theorem dX4_pass_53 : decode cX4_pass 53 = .ok (.aaload, 1) := by decide +kernel
theorem dX4_pass_54 : decode cX4_pass 54 = .ok (.astore 5, 2) := by decide +kernel
theorem dX4_pass_56 : decode cX4_pass 56 = .ok (.aload 5, 2) := by decide +kernel
theorem dX4_pass_58 : decode cX4_pass 58 = .ok (.iconst 5, 1) := by decide +kernel
theorem dX4_pass_59 : decode cX4_pass 59 = .ok (.iaload, 1) := by decide +kernel
theorem dX4_pass_60 : decode cX4_pass 60 = .ok (.ifCond .eq 120, 3) := by decide +kernel
theorem dX4_pass_63 : decode cX4_pass 63 = .ok (.aload_n 1, 1) := by decide +kernel
theorem dX4_pass_64 : decode cX4_pass 64 = .ok (.iconst 2, 1) := by decide +kernel
theorem dX4_pass_65 : decode cX4_pass 65 = .ok (.iaload, 1) := by decide +kernel
theorem dX4_pass_66 : decode cX4_pass 66 = .ok (.aload 5, 2) := by decide +kernel
theorem dX4_pass_68 : decode cX4_pass 68 = .ok (.iconst 3, 1) := by decide +kernel
theorem dX4_pass_69 : decode cX4_pass 69 = .ok (.iaload, 1) := by decide +kernel
theorem dX4_pass_70 : decode cX4_pass 70 = .ok (.iconst 4, 1) := by decide +kernel
theorem dX4_pass_71 : decode cX4_pass 71 = .ok (.iadd, 1) := by decide +kernel
theorem dX4_pass_72 : decode cX4_pass 72 = .ok (.if_icmp .ge 6, 3) := by decide +kernel
theorem dX4_pass_75 : decode cX4_pass 75 = .ok (.goto 105, 3) := by decide +kernel
theorem dX4_pass_78 : decode cX4_pass 78 = .ok (.aload 5, 2) := by decide +kernel
theorem dX4_pass_80 : decode cX4_pass 80 = .ok (.iconst 1, 1) := by decide +kernel
theorem dX4_pass_81 : decode cX4_pass 81 = .ok (.iaload, 1) := by decide +kernel
theorem dX4_pass_82 : decode cX4_pass 82 = .ok (.istore 6, 2) := by decide +kernel
theorem dX4_pass_84 : decode cX4_pass 84 = .ok (.iload 6, 2) := by decide +kernel
theorem dX4_pass_86 : decode cX4_pass 86 = .ok (.aload 5, 2) := by decide +kernel
theorem dX4_pass_88 : decode cX4_pass 88 = .ok (.iconst 1, 1) := by decide +kernel
theorem dX4_pass_89 : decode cX4_pass 89 = .ok (.iaload, 1) := by decide +kernel
theorem dX4_pass_90 : decode cX4_pass 90 = .ok (.aload 5, 2) := by decide +kernel
theorem dX4_pass_92 : decode cX4_pass 92 = .ok (.iconst 2, 1) := by decide +kernel
theorem dX4_pass_93 : decode cX4_pass 93 = .ok (.iaload, 1) := by decide +kernel
theorem dX4_pass_94 : decode cX4_pass 94 = .ok (.iadd, 1) := by decide +kernel
theorem dX4_pass_95 : decode cX4_pass 95 = .ok (.if_icmp .ge 85, 3) := by decide +kernel
theorem dX4_pass_98 : decode cX4_pass 98 = .ok (.iconst 0, 1) := by decide +kernel
theorem dX4_pass_99 : decode cX4_pass 99 = .ok (.istore 7, 2) := by decide +kernel
theorem dX4_pass_101 : decode cX4_pass 101 = .ok (.aload_n 0, 1) := by decide +kernel
theorem dX4_pass_102 : decode cX4_pass 102 = .ok (.getfield 9, 3) := by decide +kernel
theorem dX4_pass_105 : decode cX4_pass 105 = .ok (.astore 8, 2) := by decide +kernel
theorem dX4_pass_107 : decode cX4_pass 107 = .ok (.aload 8, 2) := by decide +kernel
theorem dX4_pass_109 : decode cX4_pass 109 = .ok (.arraylength, 1) := by decide +kernel
theorem dX4_pass_110 : decode cX4_pass 110 = .ok (.istore 9, 2) := by decide +kernel
theorem dX4_pass_112 : decode cX4_pass 112 = .ok (.iconst 0, 1) := by decide +kernel
theorem dX4_pass_113 : decode cX4_pass 113 = .ok (.istore 10, 2) := by decide +kernel
theorem dX4_pass_115 : decode cX4_pass 115 = .ok (.iload 10, 2) := by decide +kernel
theorem dX4_pass_117 : decode cX4_pass 117 = .ok (.iload 9, 2) := by decide +kernel
theorem dX4_pass_119 : decode cX4_pass 119 = .ok (.if_icmp .ge 45, 3) := by decide +kernel
theorem dX4_pass_122 : decode cX4_pass 122 = .ok (.aload 8, 2) := by decide +kernel
theorem dX4_pass_124 : decode cX4_pass 124 = .ok (.iload 10, 2) := by decide +kernel
theorem dX4_pass_126 : decode cX4_pass 126 = .ok (.aaload, 1) := by decide +kernel
theorem dX4_pass_127 : decode cX4_pass 127 = .ok (.astore 11, 2) := by decide +kernel
theorem dX4_pass_129 : decode cX4_pass 129 = .ok (.iload 7, 2) := by decide +kernel
theorem dX4_pass_131 : decode cX4_pass 131 = .ok (.ifCond .ne 20, 3) := by decide +kernel
theorem dX4_pass_134 : decode cX4_pass 134 = .ok (.aload 11, 2) := by decide +kernel
theorem dX4_pass_136 : decode cX4_pass 136 = .ok (.aload 5, 2) := by decide +kernel
theorem dX4_pass_138 : decode cX4_pass 138 = .ok (.iconst 0, 1) := by decide +kernel
theorem dX4_pass_139 : decode cX4_pass 139 = .ok (.iaload, 1) := by decide +kernel
theorem dX4_pass_140 : decode cX4_pass 140 = .ok (.iconst 1, 1) := by decide +kernel
theorem dX4_pass_141 : decode cX4_pass 141 = .ok (.iadd, 1) := by decide +kernel
theorem dX4_pass_142 : decode cX4_pass 142 = .ok (.iload 6, 2) := by decide +kernel
theorem dX4_pass_144 : decode cX4_pass 144 = .ok (.iconst 1, 1) := by decide +kernel
theorem dX4_pass_145 : decode cX4_pass 145 = .ok (.invokestatic 31, 3) := by decide +kernel
theorem dX4_pass_148 : decode cX4_pass 148 = .ok (.ifCond .eq 7, 3) := by decide +kernel
theorem dX4_pass_151 : decode cX4_pass 151 = .ok (.iconst 1, 1) := by decide +kernel
theorem dX4_pass_152 : decode cX4_pass 152 = .ok (.goto 4, 3) := by decide +kernel
theorem dX4_pass_155 : decode cX4_pass 155 = .ok (.iconst 0, 1) := by decide +kernel
theorem dX4_pass_156 : decode cX4_pass 156 = .ok (.istore 7, 2) := by decide +kernel
theorem dX4_pass_158 : decode cX4_pass 158 = .ok (.iinc 10 1, 3) := by decide +kernel
theorem dX4_pass_161 : decode cX4_pass 161 = .ok (.goto (-46), 3) := by decide +kernel
theorem dX4_pass_164 : decode cX4_pass 164 = .ok (.iload 7, 2) := by decide +kernel
theorem dX4_pass_166 : decode cX4_pass 166 = .ok (.ifCond .ne 8, 3) := by decide +kernel
theorem dX4_pass_169 : decode cX4_pass 169 = .ok (.aload 5, 2) := by decide +kernel
theorem dX4_pass_171 : decode cX4_pass 171 = .ok (.iconst 4, 1) := by decide +kernel
theorem dX4_pass_172 : decode cX4_pass 172 = .ok (.iconst 1, 1) := by decide +kernel
theorem dX4_pass_173 : decode cX4_pass 173 = .ok (.iastore, 1) := by decide +kernel
theorem dX4_pass_174 : decode cX4_pass 174 = .ok (.iinc 6 1, 3) := by decide +kernel
theorem dX4_pass_177 : decode cX4_pass 177 = .ok (.goto (-93), 3) := by decide +kernel
theorem dX4_pass_180 : decode cX4_pass 180 = .ok (.iinc 4 1, 3) := by decide +kernel
theorem dX4_pass_183 : decode cX4_pass 183 = .ok (.goto (-139), 3) := by decide +kernel
theorem dX4_pass_186 : decode cX4_pass 186 = .ok (.iconst 0, 1) := by decide +kernel
theorem dX4_pass_187 : decode cX4_pass 187 = .ok (.istore_n 2, 1) := by decide +kernel
theorem dX4_pass_188 : decode cX4_pass 188 = .ok (.iload_n 2, 1) := by decide +kernel
theorem dX4_pass_189 : decode cX4_pass 189 = .ok (.bipush 12, 2) := by decide +kernel
theorem dX4_pass_191 : decode cX4_pass 191 = .ok (.if_icmp .ge 61, 3) := by decide +kernel
theorem dX4_pass_194 : decode cX4_pass 194 = .ok (.iconst 0, 1) := by decide +kernel
theorem dX4_pass_195 : decode cX4_pass 195 = .ok (.istore_n 3, 1) := by decide +kernel
theorem dX4_pass_196 : decode cX4_pass 196 = .ok (.iload_n 3, 1) := by decide +kernel
theorem dX4_pass_197 : decode cX4_pass 197 = .ok (.bipush 8, 2) := by decide +kernel
theorem dX4_pass_199 : decode cX4_pass 199 = .ok (.if_icmp .ge 47, 3) := by decide +kernel
theorem dX4_pass_202 : decode cX4_pass 202 = .ok (.aload_n 0, 1) := by decide +kernel
theorem dX4_pass_203 : decode cX4_pass 203 = .ok (.aload_n 1, 1) := by decide +kernel
theorem dX4_pass_204 : decode cX4_pass 204 = .ok (.iconst 3, 1) := by decide +kernel
theorem dX4_pass_205 : decode cX4_pass 205 = .ok (.iaload, 1) := by decide +kernel
theorem dX4_pass_206 : decode cX4_pass 206 = .ok (.iload_n 2, 1) := by decide +kernel
theorem dX4_pass_207 : decode cX4_pass 207 = .ok (.iload_n 3, 1) := by decide +kernel
theorem dX4_pass_208 : decode cX4_pass 208 = .ok (.invokevirtual 53, 3) := by decide +kernel
theorem dX4_pass_211 : decode cX4_pass 211 = .ok (.iconst 5, 1) := by decide +kernel
theorem dX4_pass_212 : decode cX4_pass 212 = .ok (.if_icmp .le 28, 3) := by decide +kernel
theorem dX4_pass_215 : decode cX4_pass 215 = .ok (.aload_n 0, 1) := by decide +kernel
theorem dX4_pass_216 : decode cX4_pass 216 = .ok (.getfield 16, 3) := by decide +kernel
theorem dX4_pass_219 : decode cX4_pass 219 = .ok (.iload_n 2, 1) := by decide +kernel
theorem dX4_pass_220 : decode cX4_pass 220 = .ok (.aaload, 1) := by decide +kernel
theorem dX4_pass_221 : decode cX4_pass 221 = .ok (.iload_n 3, 1) := by decide +kernel
theorem dX4_pass_222 : decode cX4_pass 222 = .ok (.iaload, 1) := by decide +kernel
theorem dX4_pass_223 : decode cX4_pass 223 = .ok (.bipush 9, 2) := by decide +kernel
theorem dX4_pass_225 : decode cX4_pass 225 = .ok (.if_icmp .ge 15, 3) := by decide +kernel
theorem dX4_pass_228 : decode cX4_pass 228 = .ok (.aload_n 0, 1) := by decide +kernel
theorem dX4_pass_229 : decode cX4_pass 229 = .ok (.getfield 16, 3) := by decide +kernel
theorem dX4_pass_232 : decode cX4_pass 232 = .ok (.iload_n 2, 1) := by decide +kernel
theorem dX4_pass_233 : decode cX4_pass 233 = .ok (.aaload, 1) := by decide +kernel
theorem dX4_pass_234 : decode cX4_pass 234 = .ok (.iload_n 3, 1) := by decide +kernel
theorem dX4_pass_235 : decode cX4_pass 235 = .ok (.dup2, 1) := by decide +kernel
theorem dX4_pass_236 : decode cX4_pass 236 = .ok (.iaload, 1) := by decide +kernel
theorem dX4_pass_237 : decode cX4_pass 237 = .ok (.iconst 1, 1) := by decide +kernel
theorem dX4_pass_238 : decode cX4_pass 238 = .ok (.iadd, 1) := by decide +kernel
theorem dX4_pass_239 : decode cX4_pass 239 = .ok (.iastore, 1) := by decide +kernel
theorem dX4_pass_240 : decode cX4_pass 240 = .ok (.iinc 3 1, 3) := by decide +kernel
theorem dX4_pass_243 : decode cX4_pass 243 = .ok (.goto (-47), 3) := by decide +kernel
theorem dX4_pass_246 : decode cX4_pass 246 = .ok (.iinc 2 1, 3) := by decide +kernel
theorem dX4_pass_249 : decode cX4_pass 249 = .ok (.goto (-61), 3) := by decide +kernel
theorem dX4_pass_252 : decode cX4_pass 252 = .ok (.aload_n 0, 1) := by decide +kernel
theorem dX4_pass_253 : decode cX4_pass 253 = .ok (.dup, 1) := by decide +kernel
theorem dX4_pass_254 : decode cX4_pass 254 = .ok (.getfield 27, 3) := by decide +kernel
theorem dX4_pass_257 : decode cX4_pass 257 = .ok (.iconst 1, 1) := by decide +kernel
theorem dX4_pass_258 : decode cX4_pass 258 = .ok (.iadd, 1) := by decide +kernel
theorem dX4_pass_259 : decode cX4_pass 259 = .ok (.putfield 27, 3) := by decide +kernel
theorem dX4_pass_262 : decode cX4_pass 262 = .ok (.return_, 1) := by decide +kernel
theorem dX4_on_0 : decode cX4_on 0 = .ok (.iconst 0, 1) := by decide +kernel
theorem dX4_on_1 : decode cX4_on 1 = .ok (.istore_n 2, 1) := by decide +kernel
theorem dX4_on_2 : decode cX4_on 2 = .ok (.aload_n 0, 1) := by decide +kernel
theorem dX4_on_3 : decode cX4_on 3 = .ok (.getfield 9, 3) := by decide +kernel
theorem dX4_on_6 : decode cX4_on 6 = .ok (.astore_n 3, 1) := by decide +kernel
theorem dX4_on_7 : decode cX4_on 7 = .ok (.aload_n 3, 1) := by decide +kernel
theorem dX4_on_8 : decode cX4_on 8 = .ok (.arraylength, 1) := by decide +kernel
theorem dX4_on_9 : decode cX4_on 9 = .ok (.istore 4, 2) := by decide +kernel
theorem dX4_on_11 : decode cX4_on 11 = .ok (.iconst 0, 1) := by decide +kernel
theorem dX4_on_12 : decode cX4_on 12 = .ok (.istore 5, 2) := by decide +kernel
theorem dX4_on_14 : decode cX4_on 14 = .ok (.iload 5, 2) := by decide +kernel
theorem dX4_on_16 : decode cX4_on 16 = .ok (.iload 4, 2) := by decide +kernel
theorem dX4_on_18 : decode cX4_on 18 = .ok (.if_icmp .ge 43, 3) := by decide +kernel
theorem dX4_on_21 : decode cX4_on 21 = .ok (.aload_n 3, 1) := by decide +kernel
theorem dX4_on_22 : decode cX4_on 22 = .ok (.iload 5, 2) := by decide +kernel
theorem dX4_on_24 : decode cX4_on 24 = .ok (.aaload, 1) := by decide +kernel
theorem dX4_on_25 : decode cX4_on 25 = .ok (.astore 6, 2) := by decide +kernel
theorem dX4_on_27 : decode cX4_on 27 = .ok (.iload_n 2, 1) := by decide +kernel
theorem dX4_on_28 : decode cX4_on 28 = .ok (.aload 6, 2) := by decide +kernel
theorem dX4_on_30 : decode cX4_on 30 = .ok (.iconst 5, 1) := by decide +kernel
theorem dX4_on_31 : decode cX4_on 31 = .ok (.iaload, 1) := by decide +kernel
theorem dX4_on_32 : decode cX4_on 32 = .ok (.iconst 1, 1) := by decide +kernel
theorem dX4_on_33 : decode cX4_on 33 = .ok (.if_icmp .ne 19, 3) := by decide +kernel
theorem dX4_on_36 : decode cX4_on 36 = .ok (.iload_n 1, 1) := by decide +kernel
theorem dX4_on_37 : decode cX4_on 37 = .ok (.ifCond .eq 11, 3) := by decide +kernel
theorem dX4_on_40 : decode cX4_on 40 = .ok (.aload 6, 2) := by decide +kernel
theorem dX4_on_42 : decode cX4_on 42 = .ok (.iconst 4, 1) := by decide +kernel
theorem dX4_on_43 : decode cX4_on 43 = .ok (.iaload, 1) := by decide +kernel
theorem dX4_on_44 : decode cX4_on 44 = .ok (.iconst 1, 1) := by decide +kernel
theorem dX4_on_45 : decode cX4_on 45 = .ok (.if_icmp .ne 7, 3) := by decide +kernel
theorem dX4_on_48 : decode cX4_on 48 = .ok (.iconst 1, 1) := by decide +kernel
theorem dX4_on_49 : decode cX4_on 49 = .ok (.goto 4, 3) := by decide +kernel
theorem dX4_on_52 : decode cX4_on 52 = .ok (.iconst 0, 1) := by decide +kernel
theorem dX4_on_53 : decode cX4_on 53 = .ok (.iadd, 1) := by decide +kernel
theorem dX4_on_54 : decode cX4_on 54 = .ok (.istore_n 2, 1) := by decide +kernel
theorem dX4_on_55 : decode cX4_on 55 = .ok (.iinc 5 1, 3) := by decide +kernel
theorem dX4_on_58 : decode cX4_on 58 = .ok (.goto (-44), 3) := by decide +kernel
theorem dX4_on_61 : decode cX4_on 61 = .ok (.iload_n 2, 1) := by decide +kernel
theorem dX4_on_62 : decode cX4_on 62 = .ok (.ireturn, 1) := by decide +kernel
theorem dX4_rot_0 : decode cX4_rot 0 = .ok (.iconst 0, 1) := by decide +kernel
theorem dX4_rot_1 : decode cX4_rot 1 = .ok (.istore_n 1, 1) := by decide +kernel
theorem dX4_rot_2 : decode cX4_rot 2 = .ok (.iconst 0, 1) := by decide +kernel
theorem dX4_rot_3 : decode cX4_rot 3 = .ok (.istore_n 2, 1) := by decide +kernel
theorem dX4_rot_4 : decode cX4_rot 4 = .ok (.iload_n 2, 1) := by decide +kernel
theorem dX4_rot_5 : decode cX4_rot 5 = .ok (.bipush 12, 2) := by decide +kernel
theorem dX4_rot_7 : decode cX4_rot 7 = .ok (.if_icmp .ge 34, 3) := by decide +kernel
theorem dX4_rot_10 : decode cX4_rot 10 = .ok (.iconst 0, 1) := by decide +kernel
theorem dX4_rot_11 : decode cX4_rot 11 = .ok (.istore_n 3, 1) := by decide +kernel
theorem dX4_rot_12 : decode cX4_rot 12 = .ok (.iload_n 3, 1) := by decide +kernel
theorem dX4_rot_13 : decode cX4_rot 13 = .ok (.bipush 8, 2) := by decide +kernel
theorem dX4_rot_15 : decode cX4_rot 15 = .ok (.if_icmp .ge 20, 3) := by decide +kernel
theorem dX4_rot_18 : decode cX4_rot 18 = .ok (.iload_n 1, 1) := by decide +kernel
theorem dX4_rot_19 : decode cX4_rot 19 = .ok (.aload_n 0, 1) := by decide +kernel
theorem dX4_rot_20 : decode cX4_rot 20 = .ok (.getfield 16, 3) := by decide +kernel
theorem dX4_rot_23 : decode cX4_rot 23 = .ok (.iload_n 2, 1) := by decide +kernel
theorem dX4_rot_24 : decode cX4_rot 24 = .ok (.aaload, 1) := by decide +kernel
theorem dX4_rot_25 : decode cX4_rot 25 = .ok (.iload_n 3, 1) := by decide +kernel
theorem dX4_rot_26 : decode cX4_rot 26 = .ok (.iaload, 1) := by decide +kernel
theorem dX4_rot_27 : decode cX4_rot 27 = .ok (.iadd, 1) := by decide +kernel
theorem dX4_rot_28 : decode cX4_rot 28 = .ok (.istore_n 1, 1) := by decide +kernel
theorem dX4_rot_29 : decode cX4_rot 29 = .ok (.iinc 3 1, 3) := by decide +kernel
theorem dX4_rot_32 : decode cX4_rot 32 = .ok (.goto (-20), 3) := by decide +kernel
theorem dX4_rot_35 : decode cX4_rot 35 = .ok (.iinc 2 1, 3) := by decide +kernel
theorem dX4_rot_38 : decode cX4_rot 38 = .ok (.goto (-34), 3) := by decide +kernel
theorem dX4_rot_41 : decode cX4_rot 41 = .ok (.iload_n 1, 1) := by decide +kernel
theorem dX4_rot_42 : decode cX4_rot 42 = .ok (.ireturn, 1) := by decide +kernel
theorem dX4_isSame_0 : decode cX4_isSame 0 = .ok (.iconst 0, 1) := by decide +kernel
theorem dX4_isSame_1 : decode cX4_isSame 1 = .ok (.istore_n 2, 1) := by decide +kernel
theorem dX4_isSame_2 : decode cX4_isSame 2 = .ok (.iload_n 2, 1) := by decide +kernel
theorem dX4_isSame_3 : decode cX4_isSame 3 = .ok (.aload_n 0, 1) := by decide +kernel
theorem dX4_isSame_4 : decode cX4_isSame 4 = .ok (.getfield 9, 3) := by decide +kernel
theorem dX4_isSame_7 : decode cX4_isSame 7 = .ok (.arraylength, 1) := by decide +kernel
theorem dX4_isSame_8 : decode cX4_isSame 8 = .ok (.if_icmp .ge 131, 3) := by decide +kernel
theorem dX4_isSame_11 : decode cX4_isSame 11 = .ok (.aload_n 0, 1) := by decide +kernel
theorem dX4_isSame_12 : decode cX4_isSame 12 = .ok (.getfield 9, 3) := by decide +kernel
theorem dX4_isSame_15 : decode cX4_isSame 15 = .ok (.iload_n 2, 1) := by decide +kernel
theorem dX4_isSame_16 : decode cX4_isSame 16 = .ok (.aaload, 1) := by decide +kernel
theorem dX4_isSame_17 : decode cX4_isSame 17 = .ok (.astore_n 3, 1) := by decide +kernel
theorem dX4_isSame_18 : decode cX4_isSame 18 = .ok (.bipush 8, 2) := by decide +kernel
theorem dX4_isSame_20 : decode cX4_isSame 20 = .ok (.newarray .int, 2) := by decide +kernel
theorem dX4_isSame_22 : decode cX4_isSame 22 = .ok (.dup, 1) := by decide +kernel
theorem dX4_isSame_23 : decode cX4_isSame 23 = .ok (.iconst 0, 1) := by decide +kernel
theorem dX4_isSame_24 : decode cX4_isSame 24 = .ok (.aload_n 3, 1) := by decide +kernel
theorem dX4_isSame_25 : decode cX4_isSame 25 = .ok (.iconst 0, 1) := by decide +kernel
theorem dX4_isSame_26 : decode cX4_isSame 26 = .ok (.iaload, 1) := by decide +kernel
theorem dX4_isSame_27 : decode cX4_isSame 27 = .ok (.iastore, 1) := by decide +kernel
theorem dX4_isSame_28 : decode cX4_isSame 28 = .ok (.dup, 1) := by decide +kernel
theorem dX4_isSame_29 : decode cX4_isSame 29 = .ok (.iconst 1, 1) := by decide +kernel
theorem dX4_isSame_30 : decode cX4_isSame 30 = .ok (.aload_n 3, 1) := by decide +kernel
theorem dX4_isSame_31 : decode cX4_isSame 31 = .ok (.iconst 1, 1) := by decide +kernel
theorem dX4_isSame_32 : decode cX4_isSame 32 = .ok (.iaload, 1) := by decide +kernel
theorem dX4_isSame_33 : decode cX4_isSame 33 = .ok (.iastore, 1) := by decide +kernel
theorem dX4_isSame_34 : decode cX4_isSame 34 = .ok (.dup, 1) := by decide +kernel
theorem dX4_isSame_35 : decode cX4_isSame 35 = .ok (.iconst 2, 1) := by decide +kernel
theorem dX4_isSame_36 : decode cX4_isSame 36 = .ok (.aload_n 3, 1) := by decide +kernel
theorem dX4_isSame_37 : decode cX4_isSame 37 = .ok (.iconst 2, 1) := by decide +kernel
theorem dX4_isSame_38 : decode cX4_isSame 38 = .ok (.iaload, 1) := by decide +kernel
theorem dX4_isSame_39 : decode cX4_isSame 39 = .ok (.iastore, 1) := by decide +kernel
theorem dX4_isSame_40 : decode cX4_isSame 40 = .ok (.dup, 1) := by decide +kernel
theorem dX4_isSame_41 : decode cX4_isSame 41 = .ok (.iconst 3, 1) := by decide +kernel
theorem dX4_isSame_42 : decode cX4_isSame 42 = .ok (.aload_n 3, 1) := by decide +kernel
theorem dX4_isSame_43 : decode cX4_isSame 43 = .ok (.iconst 3, 1) := by decide +kernel
theorem dX4_isSame_44 : decode cX4_isSame 44 = .ok (.iaload, 1) := by decide +kernel
theorem dX4_isSame_45 : decode cX4_isSame 45 = .ok (.iastore, 1) := by decide +kernel
theorem dX4_isSame_46 : decode cX4_isSame 46 = .ok (.dup, 1) := by decide +kernel
theorem dX4_isSame_47 : decode cX4_isSame 47 = .ok (.iconst 4, 1) := by decide +kernel
theorem dX4_isSame_48 : decode cX4_isSame 48 = .ok (.aload_n 3, 1) := by decide +kernel
theorem dX4_isSame_49 : decode cX4_isSame 49 = .ok (.iconst 4, 1) := by decide +kernel
theorem dX4_isSame_50 : decode cX4_isSame 50 = .ok (.iaload, 1) := by decide +kernel
theorem dX4_isSame_51 : decode cX4_isSame 51 = .ok (.iastore, 1) := by decide +kernel
theorem dX4_isSame_52 : decode cX4_isSame 52 = .ok (.dup, 1) := by decide +kernel
theorem dX4_isSame_53 : decode cX4_isSame 53 = .ok (.iconst 5, 1) := by decide +kernel
theorem dX4_isSame_54 : decode cX4_isSame 54 = .ok (.aload_n 3, 1) := by decide +kernel
theorem dX4_isSame_55 : decode cX4_isSame 55 = .ok (.iconst 5, 1) := by decide +kernel
theorem dX4_isSame_56 : decode cX4_isSame 56 = .ok (.iaload, 1) := by decide +kernel
theorem dX4_isSame_57 : decode cX4_isSame 57 = .ok (.iastore, 1) := by decide +kernel
theorem dX4_isSame_58 : decode cX4_isSame 58 = .ok (.dup, 1) := by decide +kernel
theorem dX4_isSame_59 : decode cX4_isSame 59 = .ok (.bipush 6, 2) := by decide +kernel
theorem dX4_isSame_61 : decode cX4_isSame 61 = .ok (.aload_n 3, 1) := by decide +kernel
theorem dX4_isSame_62 : decode cX4_isSame 62 = .ok (.iconst 5, 1) := by decide +kernel
theorem dX4_isSame_63 : decode cX4_isSame 63 = .ok (.iaload, 1) := by decide +kernel
theorem dX4_isSame_64 : decode cX4_isSame 64 = .ok (.iconst 1, 1) := by decide +kernel
theorem dX4_isSame_65 : decode cX4_isSame 65 = .ok (.if_icmp .ne 11, 3) := by decide +kernel
theorem dX4_isSame_68 : decode cX4_isSame 68 = .ok (.aload_n 0, 1) := by decide +kernel
theorem dX4_isSame_69 : decode cX4_isSame 69 = .ok (.aload_n 3, 1) := by decide +kernel
theorem dX4_isSame_70 : decode cX4_isSame 70 = .ok (.invokevirtual 43, 3) := by decide +kernel
theorem dX4_isSame_73 : decode cX4_isSame 73 = .ok (.goto 4, 3) := by decide +kernel
theorem dX4_isSame_76 : decode cX4_isSame 76 = .ok (.iconst 0, 1) := by decide +kernel
theorem dX4_isSame_77 : decode cX4_isSame 77 = .ok (.iastore, 1) := by decide +kernel
theorem dX4_isSame_78 : decode cX4_isSame 78 = .ok (.dup, 1) := by decide +kernel
theorem dX4_isSame_79 : decode cX4_isSame 79 = .ok (.bipush 7, 2) := by decide +kernel
theorem dX4_isSame_81 : decode cX4_isSame 81 = .ok (.aload_n 3, 1) := by decide +kernel
theorem dX4_isSame_82 : decode cX4_isSame 82 = .ok (.iconst 5, 1) := by decide +kernel
theorem dX4_isSame_83 : decode cX4_isSame 83 = .ok (.iaload, 1) := by decide +kernel
theorem dX4_isSame_84 : decode cX4_isSame 84 = .ok (.iconst 1, 1) := by decide +kernel
theorem dX4_isSame_85 : decode cX4_isSame 85 = .ok (.if_icmp .ne 11, 3) := by decide +kernel
theorem dX4_isSame_88 : decode cX4_isSame 88 = .ok (.aload_n 0, 1) := by decide +kernel
theorem dX4_isSame_89 : decode cX4_isSame 89 = .ok (.aload_n 3, 1) := by decide +kernel
theorem dX4_isSame_90 : decode cX4_isSame 90 = .ok (.invokevirtual 35, 3) := by decide +kernel
theorem dX4_isSame_93 : decode cX4_isSame 93 = .ok (.goto 4, 3) := by decide +kernel
theorem dX4_isSame_96 : decode cX4_isSame 96 = .ok (.iconst 0, 1) := by decide +kernel
theorem dX4_isSame_97 : decode cX4_isSame 97 = .ok (.iastore, 1) := by decide +kernel
theorem dX4_isSame_98 : decode cX4_isSame 98 = .ok (.astore 4, 2) := by decide +kernel
theorem dX4_isSame_100 : decode cX4_isSame 100 = .ok (.iconst 0, 1) := by decide +kernel
theorem dX4_isSame_101 : decode cX4_isSame 101 = .ok (.istore 5, 2) := by decide +kernel
theorem dX4_isSame_103 : decode cX4_isSame 103 = .ok (.iload 5, 2) := by decide +kernel
theorem dX4_isSame_105 : decode cX4_isSame 105 = .ok (.bipush 8, 2) := by decide +kernel
theorem dX4_isSame_107 : decode cX4_isSame 107 = .ok (.if_icmp .ge 26, 3) := by decide +kernel
theorem dX4_isSame_110 : decode cX4_isSame 110 = .ok (.aload_n 1, 1) := by decide +kernel
theorem dX4_isSame_111 : decode cX4_isSame 111 = .ok (.iload_n 2, 1) := by decide +kernel
theorem dX4_isSame_112 : decode cX4_isSame 112 = .ok (.iload 5, 2) := by decide +kernel
theorem dX4_isSame_114 : decode cX4_isSame 114 = .ok (.invokevirtual 61, 3) := by decide +kernel
theorem dX4_isSame_117 : decode cX4_isSame 117 = .ok (.aload 4, 2) := by decide +kernel
theorem dX4_isSame_119 : decode cX4_isSame 119 = .ok (.iload 5, 2) := by decide +kernel
theorem dX4_isSame_121 : decode cX4_isSame 121 = .ok (.iaload, 1) := by decide +kernel
theorem dX4_isSame_122 : decode cX4_isSame 122 = .ok (.if_icmp .eq 5, 3) := by decide +kernel
theorem dX4_isSame_125 : decode cX4_isSame 125 = .ok (.iconst 0, 1) := by decide +kernel
theorem dX4_isSame_126 : decode cX4_isSame 126 = .ok (.ireturn, 1) := by decide +kernel
theorem dX4_isSame_127 : decode cX4_isSame 127 = .ok (.iinc 5 1, 3) := by decide +kernel
theorem dX4_isSame_130 : decode cX4_isSame 130 = .ok (.goto (-27), 3) := by decide +kernel
theorem dX4_isSame_133 : decode cX4_isSame 133 = .ok (.iinc 2 1, 3) := by decide +kernel
theorem dX4_isSame_136 : decode cX4_isSame 136 = .ok (.goto (-134), 3) := by decide +kernel
theorem dX4_isSame_139 : decode cX4_isSame 139 = .ok (.iconst 0, 1) := by decide +kernel
theorem dX4_isSame_140 : decode cX4_isSame 140 = .ok (.istore_n 2, 1) := by decide +kernel
theorem dX4_isSame_141 : decode cX4_isSame 141 = .ok (.iload_n 2, 1) := by decide +kernel
theorem dX4_isSame_142 : decode cX4_isSame 142 = .ok (.bipush 12, 2) := by decide +kernel
theorem dX4_isSame_144 : decode cX4_isSame 144 = .ok (.if_icmp .ge 83, 3) := by decide +kernel
theorem dX4_isSame_147 : decode cX4_isSame 147 = .ok (.iconst 0, 1) := by decide +kernel
theorem dX4_isSame_148 : decode cX4_isSame 148 = .ok (.istore_n 3, 1) := by decide +kernel
theorem dX4_isSame_149 : decode cX4_isSame 149 = .ok (.iload_n 3, 1) := by decide +kernel
theorem dX4_isSame_150 : decode cX4_isSame 150 = .ok (.bipush 8, 2) := by decide +kernel
theorem dX4_isSame_152 : decode cX4_isSame 152 = .ok (.if_icmp .ge 69, 3) := by decide +kernel
theorem dX4_isSame_155 : decode cX4_isSame 155 = .ok (.aload_n 1, 1) := by decide +kernel
theorem dX4_isSame_156 : decode cX4_isSame 156 = .ok (.iload_n 2, 1) := by decide +kernel
theorem dX4_isSame_157 : decode cX4_isSame 157 = .ok (.iload_n 3, 1) := by decide +kernel
theorem dX4_isSame_158 : decode cX4_isSame 158 = .ok (.iconst 0, 1) := by decide +kernel
theorem dX4_isSame_159 : decode cX4_isSame 159 = .ok (.invokevirtual 67, 3) := by decide +kernel
theorem dX4_isSame_162 : decode cX4_isSame 162 = .ok (.aload_n 0, 1) := by decide +kernel
theorem dX4_isSame_163 : decode cX4_isSame 163 = .ok (.iload_n 2, 1) := by decide +kernel
theorem dX4_isSame_164 : decode cX4_isSame 164 = .ok (.iload_n 3, 1) := by decide +kernel
theorem dX4_isSame_165 : decode cX4_isSame 165 = .ok (.invokevirtual 70, 3) := by decide +kernel
theorem dX4_isSame_168 : decode cX4_isSame 168 = .ok (.if_icmp .ne 45, 3) := by decide +kernel
theorem dX4_isSame_171 : decode cX4_isSame 171 = .ok (.aload_n 1, 1) := by decide +kernel
theorem dX4_isSame_172 : decode cX4_isSame 172 = .ok (.iload_n 2, 1) := by decide +kernel
theorem dX4_isSame_173 : decode cX4_isSame 173 = .ok (.iload_n 3, 1) := by decide +kernel
theorem dX4_isSame_174 : decode cX4_isSame 174 = .ok (.iconst 1, 1) := by decide +kernel
theorem dX4_isSame_175 : decode cX4_isSame 175 = .ok (.invokevirtual 67, 3) := by decide +kernel
theorem dX4_isSame_178 : decode cX4_isSame 178 = .ok (.aload_n 0, 1) := by decide +kernel
theorem dX4_isSame_179 : decode cX4_isSame 179 = .ok (.iload_n 2, 1) := by decide +kernel
theorem dX4_isSame_180 : decode cX4_isSame 180 = .ok (.iload_n 3, 1) := by decide +kernel
theorem dX4_isSame_181 : decode cX4_isSame 181 = .ok (.invokevirtual 49, 3) := by decide +kernel
theorem dX4_isSame_184 : decode cX4_isSame 184 = .ok (.ifCond .eq 7, 3) := by decide +kernel
theorem dX4_isSame_187 : decode cX4_isSame 187 = .ok (.iconst 1, 1) := by decide +kernel
theorem dX4_isSame_188 : decode cX4_isSame 188 = .ok (.goto 4, 3) := by decide +kernel
theorem dX4_isSame_191 : decode cX4_isSame 191 = .ok (.iconst 0, 1) := by decide +kernel
theorem dX4_isSame_192 : decode cX4_isSame 192 = .ok (.if_icmp .ne 21, 3) := by decide +kernel
theorem dX4_isSame_195 : decode cX4_isSame 195 = .ok (.aload_n 1, 1) := by decide +kernel
theorem dX4_isSame_196 : decode cX4_isSame 196 = .ok (.iload_n 2, 1) := by decide +kernel
theorem dX4_isSame_197 : decode cX4_isSame 197 = .ok (.iload_n 3, 1) := by decide +kernel
theorem dX4_isSame_198 : decode cX4_isSame 198 = .ok (.iconst 2, 1) := by decide +kernel
theorem dX4_isSame_199 : decode cX4_isSame 199 = .ok (.invokevirtual 67, 3) := by decide +kernel
theorem dX4_isSame_202 : decode cX4_isSame 202 = .ok (.aload_n 0, 1) := by decide +kernel
theorem dX4_isSame_203 : decode cX4_isSame 203 = .ok (.getfield 16, 3) := by decide +kernel
theorem dX4_isSame_206 : decode cX4_isSame 206 = .ok (.iload_n 2, 1) := by decide +kernel
theorem dX4_isSame_207 : decode cX4_isSame 207 = .ok (.aaload, 1) := by decide +kernel
theorem dX4_isSame_208 : decode cX4_isSame 208 = .ok (.iload_n 3, 1) := by decide +kernel
theorem dX4_isSame_209 : decode cX4_isSame 209 = .ok (.iaload, 1) := by decide +kernel
theorem dX4_isSame_210 : decode cX4_isSame 210 = .ok (.if_icmp .eq 5, 3) := by decide +kernel
theorem dX4_isSame_213 : decode cX4_isSame 213 = .ok (.iconst 0, 1) := by decide +kernel
theorem dX4_isSame_214 : decode cX4_isSame 214 = .ok (.ireturn, 1) := by decide +kernel
theorem dX4_isSame_215 : decode cX4_isSame 215 = .ok (.iinc 3 1, 3) := by decide +kernel
theorem dX4_isSame_218 : decode cX4_isSame 218 = .ok (.goto (-69), 3) := by decide +kernel
theorem dX4_isSame_221 : decode cX4_isSame 221 = .ok (.iinc 2 1, 3) := by decide +kernel
theorem dX4_isSame_224 : decode cX4_isSame 224 = .ok (.goto (-83), 3) := by decide +kernel
theorem dX4_isSame_227 : decode cX4_isSame 227 = .ok (.bipush 7, 2) := by decide +kernel
theorem dX4_isSame_229 : decode cX4_isSame 229 = .ok (.newarray .int, 2) := by decide +kernel
theorem dX4_isSame_231 : decode cX4_isSame 231 = .ok (.dup, 1) := by decide +kernel
theorem dX4_isSame_232 : decode cX4_isSame 232 = .ok (.iconst 0, 1) := by decide +kernel
theorem dX4_isSame_233 : decode cX4_isSame 233 = .ok (.aload_n 0, 1) := by decide +kernel
theorem dX4_isSame_234 : decode cX4_isSame 234 = .ok (.getfield 27, 3) := by decide +kernel
theorem dX4_isSame_237 : decode cX4_isSame 237 = .ok (.iastore, 1) := by decide +kernel
theorem dX4_isSame_238 : decode cX4_isSame 238 = .ok (.dup, 1) := by decide +kernel
theorem dX4_isSame_239 : decode cX4_isSame 239 = .ok (.iconst 1, 1) := by decide +kernel
theorem dX4_isSame_240 : decode cX4_isSame 240 = .ok (.aload_n 0, 1) := by decide +kernel
theorem dX4_isSame_241 : decode cX4_isSame 241 = .ok (.getfield 9, 3) := by decide +kernel
theorem dX4_isSame_244 : decode cX4_isSame 244 = .ok (.arraylength, 1) := by decide +kernel
theorem dX4_isSame_245 : decode cX4_isSame 245 = .ok (.iastore, 1) := by decide +kernel
theorem dX4_isSame_246 : decode cX4_isSame 246 = .ok (.dup, 1) := by decide +kernel
theorem dX4_isSame_247 : decode cX4_isSame 247 = .ok (.iconst 2, 1) := by decide +kernel
theorem dX4_isSame_248 : decode cX4_isSame 248 = .ok (.aload_n 0, 1) := by decide +kernel
theorem dX4_isSame_249 : decode cX4_isSame 249 = .ok (.iconst 0, 1) := by decide +kernel
theorem dX4_isSame_250 : decode cX4_isSame 250 = .ok (.invokevirtual 73, 3) := by decide +kernel
theorem dX4_isSame_253 : decode cX4_isSame 253 = .ok (.iastore, 1) := by decide +kernel
theorem dX4_isSame_254 : decode cX4_isSame 254 = .ok (.dup, 1) := by decide +kernel
theorem dX4_isSame_255 : decode cX4_isSame 255 = .ok (.iconst 3, 1) := by decide +kernel
theorem dX4_isSame_256 : decode cX4_isSame 256 = .ok (.aload_n 0, 1) := by decide +kernel
theorem dX4_isSame_257 : decode cX4_isSame 257 = .ok (.iconst 1, 1) := by decide +kernel
theorem dX4_isSame_258 : decode cX4_isSame 258 = .ok (.invokevirtual 73, 3) := by decide +kernel
theorem dX4_isSame_261 : decode cX4_isSame 261 = .ok (.iastore, 1) := by decide +kernel
theorem dX4_isSame_262 : decode cX4_isSame 262 = .ok (.dup, 1) := by decide +kernel
theorem dX4_isSame_263 : decode cX4_isSame 263 = .ok (.iconst 4, 1) := by decide +kernel
theorem dX4_isSame_264 : decode cX4_isSame 264 = .ok (.aload_n 0, 1) := by decide +kernel
theorem dX4_isSame_265 : decode cX4_isSame 265 = .ok (.invokevirtual 77, 3) := by decide +kernel
theorem dX4_isSame_268 : decode cX4_isSame 268 = .ok (.iastore, 1) := by decide +kernel
theorem dX4_isSame_269 : decode cX4_isSame 269 = .ok (.dup, 1) := by decide +kernel
theorem dX4_isSame_270 : decode cX4_isSame 270 = .ok (.iconst 5, 1) := by decide +kernel
theorem dX4_isSame_271 : decode cX4_isSame 271 = .ok (.aload_n 0, 1) := by decide +kernel
theorem dX4_isSame_272 : decode cX4_isSame 272 = .ok (.getfield 46, 3) := by decide +kernel
theorem dX4_isSame_275 : decode cX4_isSame 275 = .ok (.iastore, 1) := by decide +kernel
theorem dX4_isSame_276 : decode cX4_isSame 276 = .ok (.dup, 1) := by decide +kernel
theorem dX4_isSame_277 : decode cX4_isSame 277 = .ok (.bipush 6, 2) := by decide +kernel
theorem dX4_isSame_279 : decode cX4_isSame 279 = .ok (.aload_n 0, 1) := by decide +kernel
theorem dX4_isSame_280 : decode cX4_isSame 280 = .ok (.invokevirtual 80, 3) := by decide +kernel
theorem dX4_isSame_283 : decode cX4_isSame 283 = .ok (.iastore, 1) := by decide +kernel
theorem dX4_isSame_284 : decode cX4_isSame 284 = .ok (.astore_n 2, 1) := by decide +kernel
theorem dX4_isSame_285 : decode cX4_isSame 285 = .ok (.iconst 0, 1) := by decide +kernel
theorem dX4_isSame_286 : decode cX4_isSame 286 = .ok (.istore_n 3, 1) := by decide +kernel
theorem dX4_isSame_287 : decode cX4_isSame 287 = .ok (.iload_n 3, 1) := by decide +kernel
theorem dX4_isSame_288 : decode cX4_isSame 288 = .ok (.bipush 7, 2) := by decide +kernel
theorem dX4_isSame_290 : decode cX4_isSame 290 = .ok (.if_icmp .ge 22, 3) := by decide +kernel
theorem dX4_isSame_293 : decode cX4_isSame 293 = .ok (.aload_n 1, 1) := by decide +kernel
theorem dX4_isSame_294 : decode cX4_isSame 294 = .ok (.iload_n 3, 1) := by decide +kernel
theorem dX4_isSame_295 : decode cX4_isSame 295 = .ok (.invokevirtual 82, 3) := by decide +kernel
theorem dX4_isSame_298 : decode cX4_isSame 298 = .ok (.aload_n 2, 1) := by decide +kernel
theorem dX4_isSame_299 : decode cX4_isSame 299 = .ok (.iload_n 3, 1) := by decide +kernel
theorem dX4_isSame_300 : decode cX4_isSame 300 = .ok (.iaload, 1) := by decide +kernel
theorem dX4_isSame_301 : decode cX4_isSame 301 = .ok (.if_icmp .eq 5, 3) := by decide +kernel
theorem dX4_isSame_304 : decode cX4_isSame 304 = .ok (.iconst 0, 1) := by decide +kernel
theorem dX4_isSame_305 : decode cX4_isSame 305 = .ok (.ireturn, 1) := by decide +kernel
theorem dX4_isSame_306 : decode cX4_isSame 306 = .ok (.iinc 3 1, 3) := by decide +kernel
theorem dX4_isSame_309 : decode cX4_isSame 309 = .ok (.goto (-22), 3) := by decide +kernel
theorem dX4_isSame_312 : decode cX4_isSame 312 = .ok (.aload_n 1, 1) := by decide +kernel
theorem dX4_isSame_313 : decode cX4_isSame 313 = .ok (.invokevirtual 86, 3) := by decide +kernel
theorem dX4_isSame_316 : decode cX4_isSame 316 = .ok (.aload_n 0, 1) := by decide +kernel
theorem dX4_isSame_317 : decode cX4_isSame 317 = .ok (.invokevirtual 77, 3) := by decide +kernel
theorem dX4_isSame_320 : decode cX4_isSame 320 = .ok (.i2d, 1) := by decide +kernel
theorem dX4_isSame_321 : decode cX4_isSame 321 = .ok (.ldc2_w 90, 3) := by decide +kernel
theorem dX4_isSame_324 : decode cX4_isSame 324 = .ok (.ddiv, 1) := by decide +kernel
theorem dX4_isSame_325 : decode cX4_isSame 325 = .ok (.dcmp .l, 1) := by decide +kernel
theorem dX4_isSame_326 : decode cX4_isSame 326 = .ok (.ifCond .ne 7, 3) := by decide +kernel
theorem dX4_isSame_329 : decode cX4_isSame 329 = .ok (.iconst 1, 1) := by decide +kernel
theorem dX4_isSame_330 : decode cX4_isSame 330 = .ok (.goto 4, 3) := by decide +kernel
theorem dX4_isSame_333 : decode cX4_isSame 333 = .ok (.iconst 0, 1) := by decide +kernel
theorem dX4_isSame_334 : decode cX4_isSame 334 = .ok (.ireturn, 1) := by decide +kernel
theorem dJ9_floorMod_7cf53_0 : decode cJ9_floorMod_7cf53 0 = .ok (.iload_n 0, 1) := by decide +kernel
theorem dJ9_floorMod_7cf53_1 : decode cJ9_floorMod_7cf53 1 = .ok (.iload_n 1, 1) := by decide +kernel
theorem dJ9_floorMod_7cf53_2 : decode cJ9_floorMod_7cf53 2 = .ok (.irem, 1) := by decide +kernel
theorem dJ9_floorMod_7cf53_3 : decode cJ9_floorMod_7cf53 3 = .ok (.istore_n 2, 1) := by decide +kernel
theorem dJ9_floorMod_7cf53_4 : decode cJ9_floorMod_7cf53 4 = .ok (.iload_n 0, 1) := by decide +kernel
theorem dJ9_floorMod_7cf53_5 : decode cJ9_floorMod_7cf53 5 = .ok (.iload_n 1, 1) := by decide +kernel
theorem dJ9_floorMod_7cf53_6 : decode cJ9_floorMod_7cf53 6 = .ok (.ixor, 1) := by decide +kernel
theorem dJ9_floorMod_7cf53_7 : decode cJ9_floorMod_7cf53 7 = .ok (.ifCond .ge 11, 3) := by decide +kernel
theorem dJ9_floorMod_7cf53_10 : decode cJ9_floorMod_7cf53 10 = .ok (.iload_n 2, 1) := by decide +kernel
theorem dJ9_floorMod_7cf53_11 : decode cJ9_floorMod_7cf53 11 = .ok (.ifCond .eq 7, 3) := by decide +kernel
theorem dJ9_floorMod_7cf53_14 : decode cJ9_floorMod_7cf53 14 = .ok (.iload_n 2, 1) := by decide +kernel
theorem dJ9_floorMod_7cf53_15 : decode cJ9_floorMod_7cf53 15 = .ok (.iload_n 1, 1) := by decide +kernel
theorem dJ9_floorMod_7cf53_16 : decode cJ9_floorMod_7cf53 16 = .ok (.iadd, 1) := by decide +kernel
theorem dJ9_floorMod_7cf53_17 : decode cJ9_floorMod_7cf53 17 = .ok (.ireturn, 1) := by decide +kernel
theorem dJ9_floorMod_7cf53_18 : decode cJ9_floorMod_7cf53 18 = .ok (.iload_n 2, 1) := by decide +kernel
theorem dJ9_floorMod_7cf53_19 : decode cJ9_floorMod_7cf53 19 = .ok (.ireturn, 1) := by decide +kernel
theorem dJ9_min_7cf53_0 : decode cJ9_min_7cf53 0 = .ok (.iload_n 0, 1) := by decide +kernel
theorem dJ9_min_7cf53_1 : decode cJ9_min_7cf53 1 = .ok (.iload_n 1, 1) := by decide +kernel
theorem dJ9_min_7cf53_2 : decode cJ9_min_7cf53 2 = .ok (.if_icmp .gt 7, 3) := by decide +kernel
theorem dJ9_min_7cf53_5 : decode cJ9_min_7cf53 5 = .ok (.iload_n 0, 1) := by decide +kernel
theorem dJ9_min_7cf53_6 : decode cJ9_min_7cf53 6 = .ok (.goto 4, 3) := by decide +kernel
theorem dJ9_min_7cf53_9 : decode cJ9_min_7cf53 9 = .ok (.iload_n 1, 1) := by decide +kernel
theorem dJ9_min_7cf53_10 : decode cJ9_min_7cf53 10 = .ok (.ireturn, 1) := by decide +kernel
theorem dL_below_0 : decode cL_below 0 = .ok (.iload_n 0, 1) := by decide +kernel
theorem dL_below_1 : decode cL_below 1 = .ok (.ldc 7, 2) := by decide +kernel
theorem dL_below_3 : decode cL_below 3 = .ok (.iand, 1) := by decide +kernel
theorem dL_below_4 : decode cL_below 4 = .ok (.iload_n 1, 1) := by decide +kernel
theorem dL_below_5 : decode cL_below 5 = .ok (.irem, 1) := by decide +kernel
theorem dL_below_6 : decode cL_below 6 = .ok (.ireturn, 1) := by decide +kernel
theorem dL_cell_0 : decode cL_cell 0 = .ok (.iload_n 1, 1) := by decide +kernel
theorem dL_cell_1 : decode cL_cell 1 = .ok (.aload_n 0, 1) := by decide +kernel
theorem dL_cell_2 : decode cL_cell 2 = .ok (.arraylength, 1) := by decide +kernel
theorem dL_cell_3 : decode cL_cell 3 = .ok (.if_icmp .ge 9, 3) := by decide +kernel
theorem dL_cell_6 : decode cL_cell 6 = .ok (.aload_n 0, 1) := by decide +kernel
theorem dL_cell_7 : decode cL_cell 7 = .ok (.iload_n 1, 1) := by decide +kernel
theorem dL_cell_8 : decode cL_cell 8 = .ok (.iaload, 1) := by decide +kernel
theorem dL_cell_9 : decode cL_cell 9 = .ok (.goto 9, 3) := by decide +kernel
theorem dL_cell_12 : decode cL_cell 12 = .ok (.ldc 8, 2) := by decide +kernel
theorem dL_cell_14 : decode cL_cell 14 = .ok (.iload_n 1, 1) := by decide +kernel
theorem dL_cell_15 : decode cL_cell 15 = .ok (.iconst 3, 1) := by decide +kernel
theorem dL_cell_16 : decode cL_cell 16 = .ok (.iadd, 1) := by decide +kernel
theorem dL_cell_17 : decode cL_cell 17 = .ok (.imul, 1) := by decide +kernel
theorem dL_cell_18 : decode cL_cell 18 = .ok (.ireturn, 1) := by decide +kernel
theorem dL_lays_0 : decode cL_lays 0 = .ok (.iload_n 3, 1) := by decide +kernel
theorem dL_lays_1 : decode cL_lays 1 = .ok (.iload 4, 2) := by decide +kernel
theorem dL_lays_3 : decode cL_lays 3 = .ok (.iadd, 1) := by decide +kernel
theorem dL_lays_4 : decode cL_lays 4 = .ok (.bipush 12, 2) := by decide +kernel
theorem dL_lays_6 : decode cL_lays 6 = .ok (.if_icmp .gt 35, 3) := by decide +kernel
theorem dL_lays_9 : decode cL_lays 9 = .ok (.aload_n 1, 1) := by decide +kernel
theorem dL_lays_10 : decode cL_lays 10 = .ok (.iconst 0, 1) := by decide +kernel
theorem dL_lays_11 : decode cL_lays 11 = .ok (.invokevirtual 9, 3) := by decide +kernel
theorem dL_lays_14 : decode cL_lays 14 = .ok (.bipush 60, 2) := by decide +kernel
theorem dL_lays_16 : decode cL_lays 16 = .ok (.if_icmp .eq 25, 3) := by decide +kernel
theorem dL_lays_19 : decode cL_lays 19 = .ok (.aload_n 1, 1) := by decide +kernel
theorem dL_lays_20 : decode cL_lays 20 = .ok (.getfield 15, 3) := by decide +kernel
theorem dL_lays_23 : decode cL_lays 23 = .ok (.arraylength, 1) := by decide +kernel
theorem dL_lays_24 : decode cL_lays 24 = .ok (.sipush 200, 3) := by decide +kernel
theorem dL_lays_27 : decode cL_lays 27 = .ok (.if_icmp .eq 14, 3) := by decide +kernel
theorem dL_lays_30 : decode cL_lays 30 = .ok (.aload_n 1, 1) := by decide +kernel
theorem dL_lays_31 : decode cL_lays 31 = .ok (.iload_n 2, 1) := by decide +kernel
theorem dL_lays_32 : decode cL_lays 32 = .ok (.iload_n 3, 1) := by decide +kernel
theorem dL_lays_33 : decode cL_lays 33 = .ok (.iload 4, 2) := by decide +kernel
theorem dL_lays_35 : decode cL_lays 35 = .ok (.invokevirtual 19, 3) := by decide +kernel
theorem dL_lays_38 : decode cL_lays 38 = .ok (.ifCond .ne 5, 3) := by decide +kernel
theorem dL_lays_41 : decode cL_lays 41 = .ok (.iconst 1, 1) := by decide +kernel
theorem dL_lays_42 : decode cL_lays 42 = .ok (.ireturn, 1) := by decide +kernel
theorem dL_lays_43 : decode cL_lays 43 = .ok (.aload_n 1, 1) := by decide +kernel
theorem dL_lays_44 : decode cL_lays 44 = .ok (.iload_n 2, 1) := by decide +kernel
theorem dL_lays_45 : decode cL_lays 45 = .ok (.iload_n 3, 1) := by decide +kernel
theorem dL_lays_46 : decode cL_lays 46 = .ok (.iload 4, 2) := by decide +kernel
theorem dL_lays_48 : decode cL_lays 48 = .ok (.iload 5, 2) := by decide +kernel
theorem dL_lays_50 : decode cL_lays 50 = .ok (.invokevirtual 23, 3) := by decide +kernel
theorem dL_lays_53 : decode cL_lays 53 = .ok (.aload_n 0, 1) := by decide +kernel
theorem dL_lays_54 : decode cL_lays 54 = .ok (.iload_n 2, 1) := by decide +kernel
theorem dL_lays_55 : decode cL_lays 55 = .ok (.iload_n 3, 1) := by decide +kernel
theorem dL_lays_56 : decode cL_lays 56 = .ok (.iload 4, 2) := by decide +kernel
theorem dL_lays_58 : decode cL_lays 58 = .ok (.iload 5, 2) := by decide +kernel
theorem dL_lays_60 : decode cL_lays 60 = .ok (.invokevirtual 27, 3) := by decide +kernel
theorem dL_lays_63 : decode cL_lays 63 = .ok (.aload_n 1, 1) := by decide +kernel
theorem dL_lays_64 : decode cL_lays 64 = .ok (.getfield 15, 3) := by decide +kernel
theorem dL_lays_67 : decode cL_lays 67 = .ok (.arraylength, 1) := by decide +kernel
theorem dL_lays_68 : decode cL_lays 68 = .ok (.iconst 1, 1) := by decide +kernel
theorem dL_lays_69 : decode cL_lays 69 = .ok (.isub, 1) := by decide +kernel
theorem dL_lays_70 : decode cL_lays 70 = .ok (.if_icmp .ne 7, 3) := by decide +kernel
theorem dL_lays_73 : decode cL_lays 73 = .ok (.iconst 1, 1) := by decide +kernel
theorem dL_lays_74 : decode cL_lays 74 = .ok (.goto 4, 3) := by decide +kernel
theorem dL_lays_77 : decode cL_lays 77 = .ok (.iconst 0, 1) := by decide +kernel
theorem dL_lays_78 : decode cL_lays 78 = .ok (.ireturn, 1) := by decide +kernel
theorem dL_build_0 : decode cL_build 0 = .ok (.new 10, 3) := by decide +kernel
theorem dL_build_3 : decode cL_build 3 = .ok (.dup, 1) := by decide +kernel
theorem dL_build_4 : decode cL_build 4 = .ok (.invokespecial 33, 3) := by decide +kernel
theorem dL_build_7 : decode cL_build 7 = .ok (.astore_n 2, 1) := by decide +kernel
theorem dL_build_8 : decode cL_build 8 = .ok (.iconst 0, 1) := by decide +kernel
theorem dL_build_9 : decode cL_build 9 = .ok (.istore_n 3, 1) := by decide +kernel
theorem dL_build_10 : decode cL_build 10 = .ok (.iload_n 3, 1) := by decide +kernel
theorem dL_build_11 : decode cL_build 11 = .ok (.bipush 7, 2) := by decide +kernel
theorem dL_build_13 : decode cL_build 13 = .ok (.if_icmp .ge 169, 3) := by decide +kernel
theorem dL_build_16 : decode cL_build 16 = .ok (.aload_n 1, 1) := by decide +kernel
theorem dL_build_17 : decode cL_build 17 = .ok (.iconst 0, 1) := by decide +kernel
theorem dL_build_18 : decode cL_build 18 = .ok (.invokestatic 34, 3) := by decide +kernel
theorem dL_build_21 : decode cL_build 21 = .ok (.iload_n 3, 1) := by decide +kernel
theorem dL_build_22 : decode cL_build 22 = .ok (.ishr, 1) := by decide +kernel
theorem dL_build_23 : decode cL_build 23 = .ok (.iconst 4, 1) := by decide +kernel
theorem dL_build_24 : decode cL_build 24 = .ok (.invokestatic 40, 3) := by decide +kernel
theorem dL_build_27 : decode cL_build 27 = .ok (.ifCond .ne 6, 3) := by decide +kernel
theorem dL_build_30 : decode cL_build 30 = .ok (.goto 146, 3) := by decide +kernel
theorem dL_build_33 : decode cL_build 33 = .ok (.aload_n 1, 1) := by decide +kernel
theorem dL_build_34 : decode cL_build 34 = .ok (.iconst 1, 1) := by decide +kernel
theorem dL_build_35 : decode cL_build 35 = .ok (.iload_n 3, 1) := by decide +kernel
theorem dL_build_36 : decode cL_build 36 = .ok (.iconst 4, 1) := by decide +kernel
theorem dL_build_37 : decode cL_build 37 = .ok (.irem, 1) := by decide +kernel
theorem dL_build_38 : decode cL_build 38 = .ok (.iadd, 1) := by decide +kernel
theorem dL_build_39 : decode cL_build 39 = .ok (.invokestatic 34, 3) := by decide +kernel
theorem dL_build_42 : decode cL_build 42 = .ok (.iload_n 3, 1) := by decide +kernel
theorem dL_build_43 : decode cL_build 43 = .ok (.iconst 4, 1) := by decide +kernel
theorem dL_build_44 : decode cL_build 44 = .ok (.idiv, 1) := by decide +kernel
theorem dL_build_45 : decode cL_build 45 = .ok (.iconst 3, 1) := by decide +kernel
theorem dL_build_46 : decode cL_build 46 = .ok (.imul, 1) := by decide +kernel
theorem dL_build_47 : decode cL_build 47 = .ok (.ishr, 1) := by decide +kernel
theorem dL_build_48 : decode cL_build 48 = .ok (.bipush 17, 2) := by decide +kernel
theorem dL_build_50 : decode cL_build 50 = .ok (.iload_n 3, 1) := by decide +kernel
theorem dL_build_51 : decode cL_build 51 = .ok (.imul, 1) := by decide +kernel
theorem dL_build_52 : decode cL_build 52 = .ok (.iadd, 1) := by decide +kernel
theorem dL_build_53 : decode cL_build 53 = .ok (.istore 4, 2) := by decide +kernel
theorem dL_build_55 : decode cL_build 55 = .ok (.aload_n 2, 1) := by decide +kernel
theorem dL_build_56 : decode cL_build 56 = .ok (.getfield 44, 3) := by decide +kernel
theorem dL_build_59 : decode cL_build 59 = .ok (.iload_n 3, 1) := by decide +kernel
theorem dL_build_60 : decode cL_build 60 = .ok (.iconst 4, 1) := by decide +kernel
theorem dL_build_61 : decode cL_build 61 = .ok (.newarray .int, 2) := by decide +kernel
theorem dL_build_63 : decode cL_build 63 = .ok (.dup, 1) := by decide +kernel
theorem dL_build_64 : decode cL_build 64 = .ok (.iconst 0, 1) := by decide +kernel
theorem dL_build_65 : decode cL_build 65 = .ok (.iload 4, 2) := by decide +kernel
theorem dL_build_67 : decode cL_build 67 = .ok (.iload 4, 2) := by decide +kernel
theorem dL_build_69 : decode cL_build 69 = .ok (.iconst 3, 1) := by decide +kernel
theorem dL_build_70 : decode cL_build 70 = .ok (.ishr, 1) := by decide +kernel
theorem dL_build_71 : decode cL_build 71 = .ok (.iconst 2, 1) := by decide +kernel
theorem dL_build_72 : decode cL_build 72 = .ok (.invokestatic 40, 3) := by decide +kernel
theorem dL_build_75 : decode cL_build 75 = .ok (.ifCond .ne 8, 3) := by decide +kernel
theorem dL_build_78 : decode cL_build 78 = .ok (.bipush 21, 2) := by decide +kernel
theorem dL_build_80 : decode cL_build 80 = .ok (.goto 5, 3) := by decide +kernel
theorem dL_build_83 : decode cL_build 83 = .ok (.bipush 8, 2) := by decide +kernel
theorem dL_build_85 : decode cL_build 85 = .ok (.invokestatic 40, 3) := by decide +kernel
theorem dL_build_88 : decode cL_build 88 = .ok (.iastore, 1) := by decide +kernel
theorem dL_build_89 : decode cL_build 89 = .ok (.dup, 1) := by decide +kernel
theorem dL_build_90 : decode cL_build 90 = .ok (.iconst 1, 1) := by decide +kernel
theorem dL_build_91 : decode cL_build 91 = .ok (.iload 4, 2) := by decide +kernel
theorem dL_build_93 : decode cL_build 93 = .ok (.iconst 4, 1) := by decide +kernel
theorem dL_build_94 : decode cL_build 94 = .ok (.ishr, 1) := by decide +kernel
theorem dL_build_95 : decode cL_build 95 = .ok (.iconst 2, 1) := by decide +kernel
theorem dL_build_96 : decode cL_build 96 = .ok (.invokestatic 40, 3) := by decide +kernel
theorem dL_build_99 : decode cL_build 99 = .ok (.iastore, 1) := by decide +kernel
theorem dL_build_100 : decode cL_build 100 = .ok (.dup, 1) := by decide +kernel
theorem dL_build_101 : decode cL_build 101 = .ok (.iconst 2, 1) := by decide +kernel
theorem dL_build_102 : decode cL_build 102 = .ok (.iload 4, 2) := by decide +kernel
theorem dL_build_104 : decode cL_build 104 = .ok (.iconst 2, 1) := by decide +kernel
theorem dL_build_105 : decode cL_build 105 = .ok (.ishr, 1) := by decide +kernel
theorem dL_build_106 : decode cL_build 106 = .ok (.bipush 10, 2) := by decide +kernel
theorem dL_build_108 : decode cL_build 108 = .ok (.invokestatic 40, 3) := by decide +kernel
theorem dL_build_111 : decode cL_build 111 = .ok (.iastore, 1) := by decide +kernel
theorem dL_build_112 : decode cL_build 112 = .ok (.dup, 1) := by decide +kernel
theorem dL_build_113 : decode cL_build 113 = .ok (.iconst 3, 1) := by decide +kernel
theorem dL_build_114 : decode cL_build 114 = .ok (.iload 4, 2) := by decide +kernel
theorem dL_build_116 : decode cL_build 116 = .ok (.iconst 5, 1) := by decide +kernel
theorem dL_build_117 : decode cL_build 117 = .ok (.ishr, 1) := by decide +kernel
theorem dL_build_118 : decode cL_build 118 = .ok (.bipush 10, 2) := by decide +kernel
theorem dL_build_120 : decode cL_build 120 = .ok (.invokestatic 40, 3) := by decide +kernel
theorem dL_build_123 : decode cL_build 123 = .ok (.iastore, 1) := by decide +kernel
theorem dL_build_124 : decode cL_build 124 = .ok (.aastore, 1) := by decide +kernel
theorem dL_build_125 : decode cL_build 125 = .ok (.aload_n 0, 1) := by decide +kernel
theorem dL_build_126 : decode cL_build 126 = .ok (.iload_n 3, 1) := by decide +kernel
theorem dL_build_127 : decode cL_build 127 = .ok (.aload_n 2, 1) := by decide +kernel
theorem dL_build_128 : decode cL_build 128 = .ok (.getfield 44, 3) := by decide +kernel
theorem dL_build_131 : decode cL_build 131 = .ok (.iload_n 3, 1) := by decide +kernel
theorem dL_build_132 : decode cL_build 132 = .ok (.aaload, 1) := by decide +kernel
theorem dL_build_133 : decode cL_build 133 = .ok (.iconst 0, 1) := by decide +kernel
theorem dL_build_134 : decode cL_build 134 = .ok (.iaload, 1) := by decide +kernel
theorem dL_build_135 : decode cL_build 135 = .ok (.aload_n 2, 1) := by decide +kernel
theorem dL_build_136 : decode cL_build 136 = .ok (.getfield 44, 3) := by decide +kernel
theorem dL_build_139 : decode cL_build 139 = .ok (.iload_n 3, 1) := by decide +kernel
theorem dL_build_140 : decode cL_build 140 = .ok (.aaload, 1) := by decide +kernel
theorem dL_build_141 : decode cL_build 141 = .ok (.iconst 1, 1) := by decide +kernel
theorem dL_build_142 : decode cL_build 142 = .ok (.iaload, 1) := by decide +kernel
theorem dL_build_143 : decode cL_build 143 = .ok (.iconst 1, 1) := by decide +kernel
theorem dL_build_144 : decode cL_build 144 = .ok (.if_icmp .ne 7, 3) := by decide +kernel
theorem dL_build_147 : decode cL_build 147 = .ok (.iconst 1, 1) := by decide +kernel
theorem dL_build_148 : decode cL_build 148 = .ok (.goto 4, 3) := by decide +kernel
theorem dL_build_151 : decode cL_build 151 = .ok (.iconst 0, 1) := by decide +kernel
theorem dL_build_152 : decode cL_build 152 = .ok (.aload_n 2, 1) := by decide +kernel
theorem dL_build_153 : decode cL_build 153 = .ok (.getfield 44, 3) := by decide +kernel
theorem dL_build_156 : decode cL_build 156 = .ok (.iload_n 3, 1) := by decide +kernel
theorem dL_build_157 : decode cL_build 157 = .ok (.aaload, 1) := by decide +kernel
theorem dL_build_158 : decode cL_build 158 = .ok (.iconst 2, 1) := by decide +kernel
theorem dL_build_159 : decode cL_build 159 = .ok (.iaload, 1) := by decide +kernel
theorem dL_build_160 : decode cL_build 160 = .ok (.aload_n 2, 1) := by decide +kernel
theorem dL_build_161 : decode cL_build 161 = .ok (.getfield 44, 3) := by decide +kernel
theorem dL_build_164 : decode cL_build 164 = .ok (.iload_n 3, 1) := by decide +kernel
theorem dL_build_165 : decode cL_build 165 = .ok (.aaload, 1) := by decide +kernel
theorem dL_build_166 : decode cL_build 166 = .ok (.iconst 3, 1) := by decide +kernel
theorem dL_build_167 : decode cL_build 167 = .ok (.iaload, 1) := by decide +kernel
theorem dL_build_168 : decode cL_build 168 = .ok (.invokevirtual 47, 3) := by decide +kernel
theorem dL_build_171 : decode cL_build 171 = .ok (.ifCond .eq 5, 3) := by decide +kernel
theorem dL_build_174 : decode cL_build 174 = .ok (.aconst_null, 1) := by decide +kernel
theorem dL_build_175 : decode cL_build 175 = .ok (.areturn, 1) := by decide +kernel
theorem dL_build_176 : decode cL_build 176 = .ok (.iinc 3 1, 3) := by decide +kernel
theorem dL_build_179 : decode cL_build 179 = .ok (.goto (-169), 3) := by decide +kernel
theorem dL_build_182 : decode cL_build 182 = .ok (.iconst 1, 1) := by decide +kernel
theorem dL_build_183 : decode cL_build 183 = .ok (.aload_n 1, 1) := by decide +kernel
theorem dL_build_184 : decode cL_build 184 = .ok (.iconst 5, 1) := by decide +kernel
theorem dL_build_185 : decode cL_build 185 = .ok (.invokestatic 34, 3) := by decide +kernel
theorem dL_build_188 : decode cL_build 188 = .ok (.bipush 8, 2) := by decide +kernel
theorem dL_build_190 : decode cL_build 190 = .ok (.invokestatic 40, 3) := by decide +kernel
theorem dL_build_193 : decode cL_build 193 = .ok (.iadd, 1) := by decide +kernel
theorem dL_build_194 : decode cL_build 194 = .ok (.istore_n 3, 1) := by decide +kernel
theorem dL_build_195 : decode cL_build 195 = .ok (.iconst 0, 1) := by decide +kernel
theorem dL_build_196 : decode cL_build 196 = .ok (.istore 4, 2) := by decide +kernel
theorem dL_build_198 : decode cL_build 198 = .ok (.iload 4, 2) := by decide +kernel
theorem dL_build_200 : decode cL_build 200 = .ok (.iload_n 3, 1) := by decide +kernel
theorem dL_build_201 : decode cL_build 201 = .ok (.if_icmp .ge 135, 3) := by decide +kernel
theorem dL_build_204 : decode cL_build 204 = .ok (.aload_n 1, 1) := by decide +kernel
theorem dL_build_205 : decode cL_build 205 = .ok (.bipush 6, 2) := by decide +kernel
theorem dL_build_207 : decode cL_build 207 = .ok (.invokestatic 34, 3) := by decide +kernel
theorem dL_build_210 : decode cL_build 210 = .ok (.iload 4, 2) := by decide +kernel
theorem dL_build_212 : decode cL_build 212 = .ok (.ishr, 1) := by decide +kernel
theorem dL_build_213 : decode cL_build 213 = .ok (.iconst 3, 1) := by decide +kernel
theorem dL_build_214 : decode cL_build 214 = .ok (.invokestatic 40, 3) := by decide +kernel
theorem dL_build_217 : decode cL_build 217 = .ok (.istore 5, 2) := by decide +kernel
theorem dL_build_219 : decode cL_build 219 = .ok (.iconst 0, 1) := by decide +kernel
theorem dL_build_220 : decode cL_build 220 = .ok (.istore 6, 2) := by decide +kernel
theorem dL_build_222 : decode cL_build 222 = .ok (.iload 5, 2) := by decide +kernel
theorem dL_build_224 : decode cL_build 224 = .ok (.bipush 12, 2) := by decide +kernel
theorem dL_build_226 : decode cL_build 226 = .ok (.if_icmp .ge 104, 3) := by decide +kernel
theorem dL_build_229 : decode cL_build 229 = .ok (.iload 6, 2) := by decide +kernel
theorem dL_build_231 : decode cL_build 231 = .ok (.bipush 8, 2) := by decide +kernel
theorem dL_build_233 : decode cL_build 233 = .ok (.if_icmp .ge 97, 3) := by decide +kernel
theorem dL_build_236 : decode cL_build 236 = .ok (.aload_n 1, 1) := by decide +kernel
theorem dL_build_237 : decode cL_build 237 = .ok (.bipush 7, 2) := by decide +kernel
theorem dL_build_239 : decode cL_build 239 = .ok (.iload 6, 2) := by decide +kernel
theorem dL_build_241 : decode cL_build 241 = .ok (.iconst 4, 1) := by decide +kernel
theorem dL_build_242 : decode cL_build 242 = .ok (.irem, 1) := by decide +kernel
theorem dL_build_243 : decode cL_build 243 = .ok (.iadd, 1) := by decide +kernel
theorem dL_build_244 : decode cL_build 244 = .ok (.invokestatic 34, 3) := by decide +kernel
theorem dL_build_247 : decode cL_build 247 = .ok (.iload 4, 2) := by decide +kernel
theorem dL_build_249 : decode cL_build 249 = .ok (.ishr, 1) := by decide +kernel
theorem dL_build_250 : decode cL_build 250 = .ok (.bipush 29, 2) := by decide +kernel
theorem dL_build_252 : decode cL_build 252 = .ok (.iload 6, 2) := by decide +kernel
theorem dL_build_254 : decode cL_build 254 = .ok (.imul, 1) := by decide +kernel
theorem dL_build_255 : decode cL_build 255 = .ok (.iadd, 1) := by decide +kernel
theorem dL_build_256 : decode cL_build 256 = .ok (.bipush 7, 2) := by decide +kernel
theorem dL_build_258 : decode cL_build 258 = .ok (.iload 4, 2) := by decide +kernel
theorem dL_build_260 : decode cL_build 260 = .ok (.imul, 1) := by decide +kernel
theorem dL_build_261 : decode cL_build 261 = .ok (.iadd, 1) := by decide +kernel
theorem dL_build_262 : decode cL_build 262 = .ok (.istore 7, 2) := by decide +kernel
theorem dL_build_264 : decode cL_build 264 = .ok (.iconst 1, 1) := by decide +kernel
theorem dL_build_265 : decode cL_build 265 = .ok (.iload 7, 2) := by decide +kernel
theorem dL_build_267 : decode cL_build 267 = .ok (.iconst 4, 1) := by decide +kernel
theorem dL_build_268 : decode cL_build 268 = .ok (.invokestatic 40, 3) := by decide +kernel
theorem dL_build_271 : decode cL_build 271 = .ok (.iadd, 1) := by decide +kernel
theorem dL_build_272 : decode cL_build 272 = .ok (.istore 8, 2) := by decide +kernel
theorem dL_build_274 : decode cL_build 274 = .ok (.aload_n 0, 1) := by decide +kernel
theorem dL_build_275 : decode cL_build 275 = .ok (.aload_n 2, 1) := by decide +kernel
theorem dL_build_276 : decode cL_build 276 = .ok (.iload 4, 2) := by decide +kernel
theorem dL_build_278 : decode cL_build 278 = .ok (.iload 5, 2) := by decide +kernel
theorem dL_build_280 : decode cL_build 280 = .ok (.iload 8, 2) := by decide +kernel
theorem dL_build_282 : decode cL_build 282 = .ok (.iconst 1, 1) := by decide +kernel
theorem dL_build_283 : decode cL_build 283 = .ok (.iload 7, 2) := by decide +kernel
theorem dL_build_285 : decode cL_build 285 = .ok (.iconst 2, 1) := by decide +kernel
theorem dL_build_286 : decode cL_build 286 = .ok (.ishr, 1) := by decide +kernel
theorem dL_build_287 : decode cL_build 287 = .ok (.iconst 3, 1) := by decide +kernel
theorem dL_build_288 : decode cL_build 288 = .ok (.invokestatic 40, 3) := by decide +kernel
theorem dL_build_291 : decode cL_build 291 = .ok (.iadd, 1) := by decide +kernel
theorem dL_build_292 : decode cL_build 292 = .ok (.invokestatic 51, 3) := by decide +kernel
theorem dL_build_295 : decode cL_build 295 = .ok (.ifCond .ne 5, 3) := by decide +kernel
theorem dL_build_298 : decode cL_build 298 = .ok (.aconst_null, 1) := by decide +kernel
theorem dL_build_299 : decode cL_build 299 = .ok (.areturn, 1) := by decide +kernel
theorem dL_build_300 : decode cL_build 300 = .ok (.iload 5, 2) := by decide +kernel
theorem dL_build_302 : decode cL_build 302 = .ok (.iload 8, 2) := by decide +kernel
theorem dL_build_304 : decode cL_build 304 = .ok (.iload 7, 2) := by decide +kernel
theorem dL_build_306 : decode cL_build 306 = .ok (.iconst 4, 1) := by decide +kernel
theorem dL_build_307 : decode cL_build 307 = .ok (.ishr, 1) := by decide +kernel
theorem dL_build_308 : decode cL_build 308 = .ok (.iconst 3, 1) := by decide +kernel
theorem dL_build_309 : decode cL_build 309 = .ok (.invokestatic 40, 3) := by decide +kernel
theorem dL_build_312 : decode cL_build 312 = .ok (.ifCond .ne 7, 3) := by decide +kernel
theorem dL_build_315 : decode cL_build 315 = .ok (.iconst 1, 1) := by decide +kernel
theorem dL_build_316 : decode cL_build 316 = .ok (.goto 4, 3) := by decide +kernel
theorem dL_build_319 : decode cL_build 319 = .ok (.iconst 0, 1) := by decide +kernel
theorem dL_build_320 : decode cL_build 320 = .ok (.iadd, 1) := by decide +kernel
theorem dL_build_321 : decode cL_build 321 = .ok (.iadd, 1) := by decide +kernel
theorem dL_build_322 : decode cL_build 322 = .ok (.istore 5, 2) := by decide +kernel
theorem dL_build_324 : decode cL_build 324 = .ok (.iinc 6 1, 3) := by decide +kernel
theorem dL_build_327 : decode cL_build 327 = .ok (.goto (-105), 3) := by decide +kernel
theorem dL_build_330 : decode cL_build 330 = .ok (.iinc 4 1, 3) := by decide +kernel
theorem dL_build_333 : decode cL_build 333 = .ok (.goto (-135), 3) := by decide +kernel
theorem dL_build_336 : decode cL_build 336 = .ok (.aload_n 2, 1) := by decide +kernel
theorem dL_build_337 : decode cL_build 337 = .ok (.areturn, 1) := by decide +kernel
theorem dL_act_0 : decode cL_act 0 = .ok (.aload_n 1, 1) := by decide +kernel
theorem dL_act_1 : decode cL_act 1 = .ok (.getfield 15, 3) := by decide +kernel
theorem dL_act_4 : decode cL_act 4 = .ok (.arraylength, 1) := by decide +kernel
theorem dL_act_5 : decode cL_act 5 = .ok (.ifCond .ne 7, 3) := by decide +kernel
theorem dL_act_8 : decode cL_act 8 = .ok (.iconst (-1), 1) := by decide +kernel
theorem dL_act_9 : decode cL_act 9 = .ok (.goto 12, 3) := by decide +kernel
theorem dL_act_12 : decode cL_act 12 = .ok (.iload_n 2, 1) := by decide +kernel
theorem dL_act_13 : decode cL_act 13 = .ok (.aload_n 1, 1) := by decide +kernel
theorem dL_act_14 : decode cL_act 14 = .ok (.getfield 15, 3) := by decide +kernel
theorem dL_act_17 : decode cL_act 17 = .ok (.arraylength, 1) := by decide +kernel
theorem dL_act_18 : decode cL_act 18 = .ok (.invokestatic 40, 3) := by decide +kernel
theorem dL_act_21 : decode cL_act 21 = .ok (.istore_n 3, 1) := by decide +kernel
theorem dL_act_22 : decode cL_act 22 = .ok (.iload_n 2, 1) := by decide +kernel
theorem dL_act_23 : decode cL_act 23 = .ok (.bipush 8, 2) := by decide +kernel
theorem dL_act_25 : decode cL_act 25 = .ok (.ishr, 1) := by decide +kernel
theorem dL_act_26 : decode cL_act 26 = .ok (.bipush 6, 2) := by decide +kernel
theorem dL_act_28 : decode cL_act 28 = .ok (.invokestatic 40, 3) := by decide +kernel
theorem dL_act_31 : decode cL_act 31 = .ok (.tableswitch 286 0 4 #[33, 33, 71, 132, 213], 33) := by decide +kernel
theorem dL_act_64 : decode cL_act 64 = .ok (.aload_n 0, 1) := by decide +kernel
theorem dL_act_65 : decode cL_act 65 = .ok (.aload_n 1, 1) := by decide +kernel
theorem dL_act_66 : decode cL_act 66 = .ok (.iload_n 2, 1) := by decide +kernel
theorem dL_act_67 : decode cL_act 67 = .ok (.bipush 8, 2) := by decide +kernel
theorem dL_act_69 : decode cL_act 69 = .ok (.invokestatic 40, 3) := by decide +kernel
theorem dL_act_72 : decode cL_act 72 = .ok (.iload_n 2, 1) := by decide +kernel
theorem dL_act_73 : decode cL_act 73 = .ok (.iconst 3, 1) := by decide +kernel
theorem dL_act_74 : decode cL_act 74 = .ok (.ishr, 1) := by decide +kernel
theorem dL_act_75 : decode cL_act 75 = .ok (.bipush 12, 2) := by decide +kernel
theorem dL_act_77 : decode cL_act 77 = .ok (.invokestatic 40, 3) := by decide +kernel
theorem dL_act_80 : decode cL_act 80 = .ok (.iconst 1, 1) := by decide +kernel
theorem dL_act_81 : decode cL_act 81 = .ok (.iload_n 2, 1) := by decide +kernel
theorem dL_act_82 : decode cL_act 82 = .ok (.iconst 2, 1) := by decide +kernel
theorem dL_act_83 : decode cL_act 83 = .ok (.ishr, 1) := by decide +kernel
theorem dL_act_84 : decode cL_act 84 = .ok (.iconst 4, 1) := by decide +kernel
theorem dL_act_85 : decode cL_act 85 = .ok (.invokestatic 40, 3) := by decide +kernel
theorem dL_act_88 : decode cL_act 88 = .ok (.iadd, 1) := by decide +kernel
theorem dL_act_89 : decode cL_act 89 = .ok (.iconst 1, 1) := by decide +kernel
theorem dL_act_90 : decode cL_act 90 = .ok (.iload_n 2, 1) := by decide +kernel
theorem dL_act_91 : decode cL_act 91 = .ok (.iconst 5, 1) := by decide +kernel
theorem dL_act_92 : decode cL_act 92 = .ok (.ishr, 1) := by decide +kernel
theorem dL_act_93 : decode cL_act 93 = .ok (.iconst 3, 1) := by decide +kernel
theorem dL_act_94 : decode cL_act 94 = .ok (.invokestatic 40, 3) := by decide +kernel
theorem dL_act_97 : decode cL_act 97 = .ok (.iadd, 1) := by decide +kernel
theorem dL_act_98 : decode cL_act 98 = .ok (.invokestatic 51, 3) := by decide +kernel
theorem dL_act_101 : decode cL_act 101 = .ok (.ireturn, 1) := by decide +kernel
theorem dL_act_102 : decode cL_act 102 = .ok (.iload_n 3, 1) := by decide +kernel
theorem dL_act_103 : decode cL_act 103 = .ok (.ifCond .lt 27, 3) := by decide +kernel
theorem dL_act_106 : decode cL_act 106 = .ok (.aload_n 1, 1) := by decide +kernel
theorem dL_act_107 : decode cL_act 107 = .ok (.getfield 15, 3) := by decide +kernel
theorem dL_act_110 : decode cL_act 110 = .ok (.iload_n 3, 1) := by decide +kernel
theorem dL_act_111 : decode cL_act 111 = .ok (.aaload, 1) := by decide +kernel
theorem dL_act_112 : decode cL_act 112 = .ok (.iconst 5, 1) := by decide +kernel
theorem dL_act_113 : decode cL_act 113 = .ok (.iaload, 1) := by decide +kernel
theorem dL_act_114 : decode cL_act 114 = .ok (.ifCond .eq 16, 3) := by decide +kernel
theorem dL_act_117 : decode cL_act 117 = .ok (.aload_n 1, 1) := by decide +kernel
theorem dL_act_118 : decode cL_act 118 = .ok (.aload_n 1, 1) := by decide +kernel
theorem dL_act_119 : decode cL_act 119 = .ok (.getfield 15, 3) := by decide +kernel
theorem dL_act_122 : decode cL_act 122 = .ok (.iload_n 3, 1) := by decide +kernel
theorem dL_act_123 : decode cL_act 123 = .ok (.aaload, 1) := by decide +kernel
theorem dL_act_124 : decode cL_act 124 = .ok (.invokevirtual 55, 3) := by decide +kernel
theorem dL_act_127 : decode cL_act 127 = .ok (.ifCond .le 5, 3) := by decide +kernel
theorem dL_act_130 : decode cL_act 130 = .ok (.iconst 1, 1) := by decide +kernel
theorem dL_act_131 : decode cL_act 131 = .ok (.ireturn, 1) := by decide +kernel
theorem dL_act_132 : decode cL_act 132 = .ok (.aload_n 1, 1) := by decide +kernel
theorem dL_act_133 : decode cL_act 133 = .ok (.getfield 15, 3) := by decide +kernel
theorem dL_act_136 : decode cL_act 136 = .ok (.iload_n 3, 1) := by decide +kernel
theorem dL_act_137 : decode cL_act 137 = .ok (.aaload, 1) := by decide +kernel
theorem dL_act_138 : decode cL_act 138 = .ok (.iconst 5, 1) := by decide +kernel
theorem dL_act_139 : decode cL_act 139 = .ok (.iconst 0, 1) := by decide +kernel
theorem dL_act_140 : decode cL_act 140 = .ok (.iastore, 1) := by decide +kernel
theorem dL_act_141 : decode cL_act 141 = .ok (.aload_n 0, 1) := by decide +kernel
theorem dL_act_142 : decode cL_act 142 = .ok (.iload_n 3, 1) := by decide +kernel
theorem dL_act_143 : decode cL_act 143 = .ok (.invokevirtual 59, 3) := by decide +kernel
theorem dL_act_146 : decode cL_act 146 = .ok (.aload_n 1, 1) := by decide +kernel
theorem dL_act_147 : decode cL_act 147 = .ok (.getfield 15, 3) := by decide +kernel
theorem dL_act_150 : decode cL_act 150 = .ok (.iload_n 3, 1) := by decide +kernel
theorem dL_act_151 : decode cL_act 151 = .ok (.aaload, 1) := by decide +kernel
theorem dL_act_152 : decode cL_act 152 = .ok (.iconst 3, 1) := by decide +kernel
theorem dL_act_153 : decode cL_act 153 = .ok (.iaload, 1) := by decide +kernel
theorem dL_act_154 : decode cL_act 154 = .ok (.if_icmp .ne 7, 3) := by decide +kernel
theorem dL_act_157 : decode cL_act 157 = .ok (.iconst 1, 1) := by decide +kernel
theorem dL_act_158 : decode cL_act 158 = .ok (.goto 4, 3) := by decide +kernel
theorem dL_act_161 : decode cL_act 161 = .ok (.iconst 0, 1) := by decide +kernel
theorem dL_act_162 : decode cL_act 162 = .ok (.ireturn, 1) := by decide +kernel
theorem dL_act_163 : decode cL_act 163 = .ok (.iload_n 3, 1) := by decide +kernel
theorem dL_act_164 : decode cL_act 164 = .ok (.ifCond .lt 27, 3) := by decide +kernel
theorem dL_act_167 : decode cL_act 167 = .ok (.aload_n 1, 1) := by decide +kernel
theorem dL_act_168 : decode cL_act 168 = .ok (.getfield 15, 3) := by decide +kernel
theorem dL_act_171 : decode cL_act 171 = .ok (.iload_n 3, 1) := by decide +kernel
theorem dL_act_172 : decode cL_act 172 = .ok (.aaload, 1) := by decide +kernel
theorem dL_act_173 : decode cL_act 173 = .ok (.iconst 5, 1) := by decide +kernel
theorem dL_act_174 : decode cL_act 174 = .ok (.iaload, 1) := by decide +kernel
theorem dL_act_175 : decode cL_act 175 = .ok (.ifCond .eq 16, 3) := by decide +kernel
theorem dL_act_178 : decode cL_act 178 = .ok (.aload_n 1, 1) := by decide +kernel
theorem dL_act_179 : decode cL_act 179 = .ok (.aload_n 1, 1) := by decide +kernel
theorem dL_act_180 : decode cL_act 180 = .ok (.getfield 15, 3) := by decide +kernel
theorem dL_act_183 : decode cL_act 183 = .ok (.iload_n 3, 1) := by decide +kernel
theorem dL_act_184 : decode cL_act 184 = .ok (.aaload, 1) := by decide +kernel
theorem dL_act_185 : decode cL_act 185 = .ok (.invokevirtual 55, 3) := by decide +kernel
theorem dL_act_188 : decode cL_act 188 = .ok (.ifCond .le 5, 3) := by decide +kernel
theorem dL_act_191 : decode cL_act 191 = .ok (.iconst 1, 1) := by decide +kernel
theorem dL_act_192 : decode cL_act 192 = .ok (.ireturn, 1) := by decide +kernel
theorem dL_act_193 : decode cL_act 193 = .ok (.aload_n 1, 1) := by decide +kernel
theorem dL_act_194 : decode cL_act 194 = .ok (.getfield 15, 3) := by decide +kernel
theorem dL_act_197 : decode cL_act 197 = .ok (.iload_n 3, 1) := by decide +kernel
theorem dL_act_198 : decode cL_act 198 = .ok (.aaload, 1) := by decide +kernel
theorem dL_act_199 : decode cL_act 199 = .ok (.iconst 3, 1) := by decide +kernel
theorem dL_act_200 : decode cL_act 200 = .ok (.iaload, 1) := by decide +kernel
theorem dL_act_201 : decode cL_act 201 = .ok (.istore 4, 2) := by decide +kernel
theorem dL_act_203 : decode cL_act 203 = .ok (.aload_n 1, 1) := by decide +kernel
theorem dL_act_204 : decode cL_act 204 = .ok (.getfield 15, 3) := by decide +kernel
theorem dL_act_207 : decode cL_act 207 = .ok (.iload_n 3, 1) := by decide +kernel
theorem dL_act_208 : decode cL_act 208 = .ok (.aaload, 1) := by decide +kernel
theorem dL_act_209 : decode cL_act 209 = .ok (.iconst 3, 1) := by decide +kernel
theorem dL_act_210 : decode cL_act 210 = .ok (.iconst 1, 1) := by decide +kernel
theorem dL_act_211 : decode cL_act 211 = .ok (.iload_n 2, 1) := by decide +kernel
theorem dL_act_212 : decode cL_act 212 = .ok (.iconst 4, 1) := by decide +kernel
theorem dL_act_213 : decode cL_act 213 = .ok (.ishr, 1) := by decide +kernel
theorem dL_act_214 : decode cL_act 214 = .ok (.iconst 3, 1) := by decide +kernel
theorem dL_act_215 : decode cL_act 215 = .ok (.invokestatic 40, 3) := by decide +kernel
theorem dL_act_218 : decode cL_act 218 = .ok (.iadd, 1) := by decide +kernel
theorem dL_act_219 : decode cL_act 219 = .ok (.iastore, 1) := by decide +kernel
theorem dL_act_220 : decode cL_act 220 = .ok (.aload_n 0, 1) := by decide +kernel
theorem dL_act_221 : decode cL_act 221 = .ok (.iload_n 3, 1) := by decide +kernel
theorem dL_act_222 : decode cL_act 222 = .ok (.aload_n 1, 1) := by decide +kernel
theorem dL_act_223 : decode cL_act 223 = .ok (.getfield 15, 3) := by decide +kernel
theorem dL_act_226 : decode cL_act 226 = .ok (.iload_n 3, 1) := by decide +kernel
theorem dL_act_227 : decode cL_act 227 = .ok (.aaload, 1) := by decide +kernel
theorem dL_act_228 : decode cL_act 228 = .ok (.iconst 3, 1) := by decide +kernel
theorem dL_act_229 : decode cL_act 229 = .ok (.iaload, 1) := by decide +kernel
theorem dL_act_230 : decode cL_act 230 = .ok (.invokevirtual 63, 3) := by decide +kernel
theorem dL_act_233 : decode cL_act 233 = .ok (.iload 4, 2) := by decide +kernel
theorem dL_act_235 : decode cL_act 235 = .ok (.if_icmp .ne 7, 3) := by decide +kernel
theorem dL_act_238 : decode cL_act 238 = .ok (.iconst 1, 1) := by decide +kernel
theorem dL_act_239 : decode cL_act 239 = .ok (.goto 4, 3) := by decide +kernel
theorem dL_act_242 : decode cL_act 242 = .ok (.iconst 0, 1) := by decide +kernel
theorem dL_act_243 : decode cL_act 243 = .ok (.ireturn, 1) := by decide +kernel
theorem dL_act_244 : decode cL_act 244 = .ok (.iload_n 2, 1) := by decide +kernel
theorem dL_act_245 : decode cL_act 245 = .ok (.bipush 12, 2) := by decide +kernel
theorem dL_act_247 : decode cL_act 247 = .ok (.invokestatic 40, 3) := by decide +kernel
theorem dL_act_250 : decode cL_act 250 = .ok (.istore 5, 2) := by decide +kernel
theorem dL_act_252 : decode cL_act 252 = .ok (.iload_n 2, 1) := by decide +kernel
theorem dL_act_253 : decode cL_act 253 = .ok (.iconst 3, 1) := by decide +kernel
theorem dL_act_254 : decode cL_act 254 = .ok (.ishr, 1) := by decide +kernel
theorem dL_act_255 : decode cL_act 255 = .ok (.bipush 8, 2) := by decide +kernel
theorem dL_act_257 : decode cL_act 257 = .ok (.invokestatic 40, 3) := by decide +kernel
theorem dL_act_260 : decode cL_act 260 = .ok (.istore 6, 2) := by decide +kernel
theorem dL_act_262 : decode cL_act 262 = .ok (.aload_n 1, 1) := by decide +kernel
theorem dL_act_263 : decode cL_act 263 = .ok (.iload 5, 2) := by decide +kernel
theorem dL_act_265 : decode cL_act 265 = .ok (.iload 6, 2) := by decide +kernel
theorem dL_act_267 : decode cL_act 267 = .ok (.invokevirtual 66, 3) := by decide +kernel
theorem dL_act_270 : decode cL_act 270 = .ok (.ifCond .lt 5, 3) := by decide +kernel
theorem dL_act_273 : decode cL_act 273 = .ok (.iconst 1, 1) := by decide +kernel
theorem dL_act_274 : decode cL_act 274 = .ok (.ireturn, 1) := by decide +kernel
theorem dL_act_275 : decode cL_act 275 = .ok (.aload_n 1, 1) := by decide +kernel
theorem dL_act_276 : decode cL_act 276 = .ok (.getfield 69, 3) := by decide +kernel
theorem dL_act_279 : decode cL_act 279 = .ok (.iload 5, 2) := by decide +kernel
theorem dL_act_281 : decode cL_act 281 = .ok (.aaload, 1) := by decide +kernel
theorem dL_act_282 : decode cL_act 282 = .ok (.iload 6, 2) := by decide +kernel
theorem dL_act_284 : decode cL_act 284 = .ok (.iaload, 1) := by decide +kernel
theorem dL_act_285 : decode cL_act 285 = .ok (.istore 7, 2) := by decide +kernel
theorem dL_act_287 : decode cL_act 287 = .ok (.aload_n 1, 1) := by decide +kernel
theorem dL_act_288 : decode cL_act 288 = .ok (.getfield 69, 3) := by decide +kernel
theorem dL_act_291 : decode cL_act 291 = .ok (.iload 5, 2) := by decide +kernel
theorem dL_act_293 : decode cL_act 293 = .ok (.aaload, 1) := by decide +kernel
theorem dL_act_294 : decode cL_act 294 = .ok (.iload 6, 2) := by decide +kernel
theorem dL_act_296 : decode cL_act 296 = .ok (.iconst 0, 1) := by decide +kernel
theorem dL_act_297 : decode cL_act 297 = .ok (.iastore, 1) := by decide +kernel
theorem dL_act_298 : decode cL_act 298 = .ok (.aload_n 0, 1) := by decide +kernel
theorem dL_act_299 : decode cL_act 299 = .ok (.iload 5, 2) := by decide +kernel
theorem dL_act_301 : decode cL_act 301 = .ok (.iload 6, 2) := by decide +kernel
theorem dL_act_303 : decode cL_act 303 = .ok (.invokevirtual 72, 3) := by decide +kernel
theorem dL_act_306 : decode cL_act 306 = .ok (.iload 7, 2) := by decide +kernel
theorem dL_act_308 : decode cL_act 308 = .ok (.if_icmp .ne 7, 3) := by decide +kernel
theorem dL_act_311 : decode cL_act 311 = .ok (.iconst 1, 1) := by decide +kernel
theorem dL_act_312 : decode cL_act 312 = .ok (.goto 4, 3) := by decide +kernel
theorem dL_act_315 : decode cL_act 315 = .ok (.iconst 0, 1) := by decide +kernel
theorem dL_act_316 : decode cL_act 316 = .ok (.ireturn, 1) := by decide +kernel
theorem dL_act_317 : decode cL_act 317 = .ok (.aload_n 1, 1) := by decide +kernel
theorem dL_act_318 : decode cL_act 318 = .ok (.getfield 44, 3) := by decide +kernel
theorem dL_act_321 : decode cL_act 321 = .ok (.iload_n 2, 1) := by decide +kernel
theorem dL_act_322 : decode cL_act 322 = .ok (.bipush 7, 2) := by decide +kernel
theorem dL_act_324 : decode cL_act 324 = .ok (.invokestatic 40, 3) := by decide +kernel
theorem dL_act_327 : decode cL_act 327 = .ok (.aaload, 1) := by decide +kernel
theorem dL_act_328 : decode cL_act 328 = .ok (.astore 8, 2) := by decide +kernel
theorem dL_act_330 : decode cL_act 330 = .ok (.bipush 100, 2) := by decide +kernel
theorem dL_act_332 : decode cL_act 332 = .ok (.aload 8, 2) := by decide +kernel
theorem dL_act_334 : decode cL_act 334 = .ok (.iconst 0, 1) := by decide +kernel
theorem dL_act_335 : decode cL_act 335 = .ok (.iaload, 1) := by decide +kernel
theorem dL_act_336 : decode cL_act 336 = .ok (.imul, 1) := by decide +kernel
theorem dL_act_337 : decode cL_act 337 = .ok (.bipush 10, 2) := by decide +kernel
theorem dL_act_339 : decode cL_act 339 = .ok (.aload 8, 2) := by decide +kernel
theorem dL_act_341 : decode cL_act 341 = .ok (.iconst 2, 1) := by decide +kernel
theorem dL_act_342 : decode cL_act 342 = .ok (.iaload, 1) := by decide +kernel
theorem dL_act_343 : decode cL_act 343 = .ok (.imul, 1) := by decide +kernel
theorem dL_act_344 : decode cL_act 344 = .ok (.iadd, 1) := by decide +kernel
theorem dL_act_345 : decode cL_act 345 = .ok (.aload 8, 2) := by decide +kernel
theorem dL_act_347 : decode cL_act 347 = .ok (.iconst 3, 1) := by decide +kernel
theorem dL_act_348 : decode cL_act 348 = .ok (.iaload, 1) := by decide +kernel
theorem dL_act_349 : decode cL_act 349 = .ok (.iadd, 1) := by decide +kernel
theorem dL_act_350 : decode cL_act 350 = .ok (.istore 9, 2) := by decide +kernel
theorem dL_act_352 : decode cL_act 352 = .ok (.aload 8, 2) := by decide +kernel
theorem dL_act_354 : decode cL_act 354 = .ok (.iconst 0, 1) := by decide +kernel
theorem dL_act_355 : decode cL_act 355 = .ok (.iload_n 2, 1) := by decide +kernel
theorem dL_act_356 : decode cL_act 356 = .ok (.iconst 2, 1) := by decide +kernel
theorem dL_act_357 : decode cL_act 357 = .ok (.ishr, 1) := by decide +kernel
theorem dL_act_358 : decode cL_act 358 = .ok (.bipush 21, 2) := by decide +kernel
theorem dL_act_360 : decode cL_act 360 = .ok (.invokestatic 40, 3) := by decide +kernel
theorem dL_act_363 : decode cL_act 363 = .ok (.iastore, 1) := by decide +kernel
theorem dL_act_364 : decode cL_act 364 = .ok (.aload 8, 2) := by decide +kernel
theorem dL_act_366 : decode cL_act 366 = .ok (.iconst 1, 1) := by decide +kernel
theorem dL_act_367 : decode cL_act 367 = .ok (.iload_n 2, 1) := by decide +kernel
theorem dL_act_368 : decode cL_act 368 = .ok (.iconst 4, 1) := by decide +kernel
theorem dL_act_369 : decode cL_act 369 = .ok (.ishr, 1) := by decide +kernel
theorem dL_act_370 : decode cL_act 370 = .ok (.iconst 2, 1) := by decide +kernel
theorem dL_act_371 : decode cL_act 371 = .ok (.invokestatic 40, 3) := by decide +kernel
theorem dL_act_374 : decode cL_act 374 = .ok (.iastore, 1) := by decide +kernel
theorem dL_act_375 : decode cL_act 375 = .ok (.aload 8, 2) := by decide +kernel
theorem dL_act_377 : decode cL_act 377 = .ok (.iconst 2, 1) := by decide +kernel
theorem dL_act_378 : decode cL_act 378 = .ok (.iload_n 2, 1) := by decide +kernel
theorem dL_act_379 : decode cL_act 379 = .ok (.iconst 3, 1) := by decide +kernel
theorem dL_act_380 : decode cL_act 380 = .ok (.ishr, 1) := by decide +kernel
theorem dL_act_381 : decode cL_act 381 = .ok (.bipush 10, 2) := by decide +kernel
theorem dL_act_383 : decode cL_act 383 = .ok (.invokestatic 40, 3) := by decide +kernel
theorem dL_act_386 : decode cL_act 386 = .ok (.iastore, 1) := by decide +kernel
theorem dL_act_387 : decode cL_act 387 = .ok (.aload 8, 2) := by decide +kernel
theorem dL_act_389 : decode cL_act 389 = .ok (.iconst 3, 1) := by decide +kernel
theorem dL_act_390 : decode cL_act 390 = .ok (.iload_n 2, 1) := by decide +kernel
theorem dL_act_391 : decode cL_act 391 = .ok (.iconst 5, 1) := by decide +kernel
theorem dL_act_392 : decode cL_act 392 = .ok (.ishr, 1) := by decide +kernel
theorem dL_act_393 : decode cL_act 393 = .ok (.bipush 10, 2) := by decide +kernel
theorem dL_act_395 : decode cL_act 395 = .ok (.invokestatic 40, 3) := by decide +kernel
theorem dL_act_398 : decode cL_act 398 = .ok (.iastore, 1) := by decide +kernel
theorem dL_act_399 : decode cL_act 399 = .ok (.aload_n 0, 1) := by decide +kernel
theorem dL_act_400 : decode cL_act 400 = .ok (.iload_n 2, 1) := by decide +kernel
theorem dL_act_401 : decode cL_act 401 = .ok (.bipush 7, 2) := by decide +kernel
theorem dL_act_403 : decode cL_act 403 = .ok (.invokestatic 40, 3) := by decide +kernel
theorem dL_act_406 : decode cL_act 406 = .ok (.aload 8, 2) := by decide +kernel
theorem dL_act_408 : decode cL_act 408 = .ok (.iconst 0, 1) := by decide +kernel
theorem dL_act_409 : decode cL_act 409 = .ok (.iaload, 1) := by decide +kernel
theorem dL_act_410 : decode cL_act 410 = .ok (.aload 8, 2) := by decide +kernel
theorem dL_act_412 : decode cL_act 412 = .ok (.iconst 1, 1) := by decide +kernel
theorem dL_act_413 : decode cL_act 413 = .ok (.iaload, 1) := by decide +kernel
theorem dL_act_414 : decode cL_act 414 = .ok (.iconst 1, 1) := by decide +kernel
theorem dL_act_415 : decode cL_act 415 = .ok (.if_icmp .ne 7, 3) := by decide +kernel
theorem dL_act_418 : decode cL_act 418 = .ok (.iconst 1, 1) := by decide +kernel
theorem dL_act_419 : decode cL_act 419 = .ok (.goto 4, 3) := by decide +kernel
theorem dL_act_422 : decode cL_act 422 = .ok (.iconst 0, 1) := by decide +kernel
theorem dL_act_423 : decode cL_act 423 = .ok (.aload 8, 2) := by decide +kernel
theorem dL_act_425 : decode cL_act 425 = .ok (.iconst 2, 1) := by decide +kernel
theorem dL_act_426 : decode cL_act 426 = .ok (.iaload, 1) := by decide +kernel
theorem dL_act_427 : decode cL_act 427 = .ok (.aload 8, 2) := by decide +kernel
theorem dL_act_429 : decode cL_act 429 = .ok (.iconst 3, 1) := by decide +kernel
theorem dL_act_430 : decode cL_act 430 = .ok (.iaload, 1) := by decide +kernel
theorem dL_act_431 : decode cL_act 431 = .ok (.invokevirtual 47, 3) := by decide +kernel
theorem dL_act_434 : decode cL_act 434 = .ok (.iload 9, 2) := by decide +kernel
theorem dL_act_436 : decode cL_act 436 = .ok (.if_icmp .ne 7, 3) := by decide +kernel
theorem dL_act_439 : decode cL_act 439 = .ok (.iconst 1, 1) := by decide +kernel
theorem dL_act_440 : decode cL_act 440 = .ok (.goto 4, 3) := by decide +kernel
theorem dL_act_443 : decode cL_act 443 = .ok (.iconst 0, 1) := by decide +kernel
theorem dL_act_444 : decode cL_act 444 = .ok (.ireturn, 1) := by decide +kernel
theorem dL_law_0 : decode cL_law 0 = .ok (.new 28, 3) := by decide +kernel
theorem dL_law_3 : decode cL_law 3 = .ok (.dup, 1) := by decide +kernel
theorem dL_law_4 : decode cL_law 4 = .ok (.invokespecial 75, 3) := by decide +kernel
theorem dL_law_7 : decode cL_law 7 = .ok (.astore_n 1, 1) := by decide +kernel
theorem dL_law_8 : decode cL_law 8 = .ok (.aload_n 1, 1) := by decide +kernel
theorem dL_law_9 : decode cL_law 9 = .ok (.aload_n 0, 1) := by decide +kernel
theorem dL_law_10 : decode cL_law 10 = .ok (.invokestatic 76, 3) := by decide +kernel
theorem dL_law_13 : decode cL_law 13 = .ok (.astore_n 2, 1) := by decide +kernel
theorem dL_law_14 : decode cL_law 14 = .ok (.aload_n 2, 1) := by decide +kernel
theorem dL_law_15 : decode cL_law 15 = .ok (.ifnonnull 5, 3) := by decide +kernel
theorem dL_law_18 : decode cL_law 18 = .ok (.iconst 0, 1) := by decide +kernel
theorem dL_law_19 : decode cL_law 19 = .ok (.ireturn, 1) := by decide +kernel
theorem dL_law_20 : decode cL_law 20 = .ok (.iconst 0, 1) := by decide +kernel
theorem dL_law_21 : decode cL_law 21 = .ok (.istore_n 3, 1) := by decide +kernel
theorem dL_law_22 : decode cL_law 22 = .ok (.iload_n 3, 1) := by decide +kernel
theorem dL_law_23 : decode cL_law 23 = .ok (.bipush 12, 2) := by decide +kernel
theorem dL_law_25 : decode cL_law 25 = .ok (.if_icmp .ge 1109, 3) := by decide +kernel
theorem dL_law_28 : decode cL_law 28 = .ok (.aload_n 0, 1) := by decide +kernel
theorem dL_law_29 : decode cL_law 29 = .ok (.iload_n 3, 1) := by decide +kernel
theorem dL_law_30 : decode cL_law 30 = .ok (.invokestatic 34, 3) := by decide +kernel
theorem dL_law_33 : decode cL_law 33 = .ok (.bipush 101, 2) := by decide +kernel
theorem dL_law_35 : decode cL_law 35 = .ok (.iload_n 3, 1) := by decide +kernel
theorem dL_law_36 : decode cL_law 36 = .ok (.imul, 1) := by decide +kernel
theorem dL_law_37 : decode cL_law 37 = .ok (.iadd, 1) := by decide +kernel
theorem dL_law_38 : decode cL_law 38 = .ok (.istore 4, 2) := by decide +kernel
theorem dL_law_40 : decode cL_law 40 = .ok (.iconst 0, 1) := by decide +kernel
theorem dL_law_41 : decode cL_law 41 = .ok (.istore 5, 2) := by decide +kernel
theorem dL_law_43 : decode cL_law 43 = .ok (.iload 5, 2) := by decide +kernel
theorem dL_law_45 : decode cL_law 45 = .ok (.iconst 2, 1) := by decide +kernel
theorem dL_law_46 : decode cL_law 46 = .ok (.if_icmp .ge 32, 3) := by decide +kernel
theorem dL_law_49 : decode cL_law 49 = .ok (.aload_n 1, 1) := by decide +kernel
theorem dL_law_50 : decode cL_law 50 = .ok (.aload_n 2, 1) := by decide +kernel
theorem dL_law_51 : decode cL_law 51 = .ok (.iload 4, 2) := by decide +kernel
theorem dL_law_53 : decode cL_law 53 = .ok (.iconst 2, 1) := by decide +kernel
theorem dL_law_54 : decode cL_law 54 = .ok (.iload 5, 2) := by decide +kernel
theorem dL_law_56 : decode cL_law 56 = .ok (.imul, 1) := by decide +kernel
theorem dL_law_57 : decode cL_law 57 = .ok (.ishr, 1) := by decide +kernel
theorem dL_law_58 : decode cL_law 58 = .ok (.bipush 43, 2) := by decide +kernel
theorem dL_law_60 : decode cL_law 60 = .ok (.iload 5, 2) := by decide +kernel
theorem dL_law_62 : decode cL_law 62 = .ok (.imul, 1) := by decide +kernel
theorem dL_law_63 : decode cL_law 63 = .ok (.iadd, 1) := by decide +kernel
theorem dL_law_64 : decode cL_law 64 = .ok (.invokestatic 80, 3) := by decide +kernel
theorem dL_law_67 : decode cL_law 67 = .ok (.ifCond .ne 5, 3) := by decide +kernel
theorem dL_law_70 : decode cL_law 70 = .ok (.iconst 0, 1) := by decide +kernel
theorem dL_law_71 : decode cL_law 71 = .ok (.ireturn, 1) := by decide +kernel
theorem dL_law_72 : decode cL_law 72 = .ok (.iinc 5 1, 3) := by decide +kernel
theorem dL_law_75 : decode cL_law 75 = .ok (.goto (-32), 3) := by decide +kernel
theorem dL_law_78 : decode cL_law 78 = .ok (.aload_n 1, 1) := by decide +kernel
theorem dL_law_79 : decode cL_law 79 = .ok (.iconst 1, 1) := by decide +kernel
theorem dL_law_80 : decode cL_law 80 = .ok (.invokevirtual 84, 3) := by decide +kernel
theorem dL_law_83 : decode cL_law 83 = .ok (.istore 5, 2) := by decide +kernel
theorem dL_law_85 : decode cL_law 85 = .ok (.iload 5, 2) := by decide +kernel
theorem dL_law_87 : decode cL_law 87 = .ok (.bipush 8, 2) := by decide +kernel
theorem dL_law_89 : decode cL_law 89 = .ok (.multianewarray 87 2, 4) := by decide +kernel
theorem dL_law_93 : decode cL_law 93 = .ok (.astore 6, 2) := by decide +kernel
theorem dL_law_95 : decode cL_law 95 = .ok (.iconst 0, 1) := by decide +kernel
theorem dL_law_96 : decode cL_law 96 = .ok (.istore 7, 2) := by decide +kernel
theorem dL_law_98 : decode cL_law 98 = .ok (.iload 7, 2) := by decide +kernel
theorem dL_law_100 : decode cL_law 100 = .ok (.iload 5, 2) := by decide +kernel
theorem dL_law_102 : decode cL_law 102 = .ok (.if_icmp .ge 41, 3) := by decide +kernel
theorem dL_law_105 : decode cL_law 105 = .ok (.iconst 0, 1) := by decide +kernel
theorem dL_law_106 : decode cL_law 106 = .ok (.istore 8, 2) := by decide +kernel
theorem dL_law_108 : decode cL_law 108 = .ok (.iload 8, 2) := by decide +kernel
theorem dL_law_110 : decode cL_law 110 = .ok (.bipush 8, 2) := by decide +kernel
theorem dL_law_112 : decode cL_law 112 = .ok (.if_icmp .ge 25, 3) := by decide +kernel
theorem dL_law_115 : decode cL_law 115 = .ok (.aload 6, 2) := by decide +kernel
theorem dL_law_117 : decode cL_law 117 = .ok (.iload 7, 2) := by decide +kernel
theorem dL_law_119 : decode cL_law 119 = .ok (.aaload, 1) := by decide +kernel
theorem dL_law_120 : decode cL_law 120 = .ok (.iload 8, 2) := by decide +kernel
theorem dL_law_122 : decode cL_law 122 = .ok (.aload_n 1, 1) := by decide +kernel
theorem dL_law_123 : decode cL_law 123 = .ok (.iload 7, 2) := by decide +kernel
theorem dL_law_125 : decode cL_law 125 = .ok (.iload 8, 2) := by decide +kernel
theorem dL_law_127 : decode cL_law 127 = .ok (.invokevirtual 88, 3) := by decide +kernel
theorem dL_law_130 : decode cL_law 130 = .ok (.iastore, 1) := by decide +kernel
theorem dL_law_131 : decode cL_law 131 = .ok (.iinc 8 1, 3) := by decide +kernel
theorem dL_law_134 : decode cL_law 134 = .ok (.goto (-26), 3) := by decide +kernel
theorem dL_law_137 : decode cL_law 137 = .ok (.iinc 7 1, 3) := by decide +kernel
theorem dL_law_140 : decode cL_law 140 = .ok (.goto (-42), 3) := by decide +kernel
theorem dL_law_143 : decode cL_law 143 = .ok (.bipush 96, 2) := by decide +kernel
theorem dL_law_145 : decode cL_law 145 = .ok (.newarray .int, 2) := by decide +kernel
theorem dL_law_147 : decode cL_law 147 = .ok (.astore 7, 2) := by decide +kernel
theorem dL_law_149 : decode cL_law 149 = .ok (.iconst 0, 1) := by decide +kernel
theorem dL_law_150 : decode cL_law 150 = .ok (.istore 8, 2) := by decide +kernel
theorem dL_law_152 : decode cL_law 152 = .ok (.iload 8, 2) := by decide +kernel
theorem dL_law_154 : decode cL_law 154 = .ok (.bipush 96, 2) := by decide +kernel
theorem dL_law_156 : decode cL_law 156 = .ok (.if_icmp .ge 29, 3) := by decide +kernel
theorem dL_law_159 : decode cL_law 159 = .ok (.aload 7, 2) := by decide +kernel
theorem dL_law_161 : decode cL_law 161 = .ok (.iload 8, 2) := by decide +kernel
theorem dL_law_163 : decode cL_law 163 = .ok (.aload_n 1, 1) := by decide +kernel
theorem dL_law_164 : decode cL_law 164 = .ok (.iload 8, 2) := by decide +kernel
theorem dL_law_166 : decode cL_law 166 = .ok (.bipush 12, 2) := by decide +kernel
theorem dL_law_168 : decode cL_law 168 = .ok (.irem, 1) := by decide +kernel
theorem dL_law_169 : decode cL_law 169 = .ok (.iload 8, 2) := by decide +kernel
theorem dL_law_171 : decode cL_law 171 = .ok (.bipush 12, 2) := by decide +kernel
theorem dL_law_173 : decode cL_law 173 = .ok (.idiv, 1) := by decide +kernel
theorem dL_law_174 : decode cL_law 174 = .ok (.iconst 2, 1) := by decide +kernel
theorem dL_law_175 : decode cL_law 175 = .ok (.invokevirtual 91, 3) := by decide +kernel
theorem dL_law_178 : decode cL_law 178 = .ok (.iastore, 1) := by decide +kernel
theorem dL_law_179 : decode cL_law 179 = .ok (.iinc 8 1, 3) := by decide +kernel
theorem dL_law_182 : decode cL_law 182 = .ok (.goto (-30), 3) := by decide +kernel
theorem dL_law_185 : decode cL_law 185 = .ok (.aload_n 2, 1) := by decide +kernel
theorem dL_law_186 : decode cL_law 186 = .ok (.getfield 44, 3) := by decide +kernel
theorem dL_law_189 : decode cL_law 189 = .ok (.aload_n 2, 1) := by decide +kernel
theorem dL_law_190 : decode cL_law 190 = .ok (.getfield 95, 3) := by decide +kernel
theorem dL_law_193 : decode cL_law 193 = .ok (.bipush 7, 2) := by decide +kernel
theorem dL_law_195 : decode cL_law 195 = .ok (.irem, 1) := by decide +kernel
theorem dL_law_196 : decode cL_law 196 = .ok (.aaload, 1) := by decide +kernel
theorem dL_law_197 : decode cL_law 197 = .ok (.astore 8, 2) := by decide +kernel
theorem dL_law_199 : decode cL_law 199 = .ok (.aload_n 1, 1) := by decide +kernel
theorem dL_law_200 : decode cL_law 200 = .ok (.aload 8, 2) := by decide +kernel
theorem dL_law_202 : decode cL_law 202 = .ok (.iconst 0, 1) := by decide +kernel
theorem dL_law_203 : decode cL_law 203 = .ok (.iaload, 1) := by decide +kernel
theorem dL_law_204 : decode cL_law 204 = .ok (.aload 8, 2) := by decide +kernel
theorem dL_law_206 : decode cL_law 206 = .ok (.iconst 1, 1) := by decide +kernel
theorem dL_law_207 : decode cL_law 207 = .ok (.iaload, 1) := by decide +kernel
theorem dL_law_208 : decode cL_law 208 = .ok (.iconst 1, 1) := by decide +kernel
theorem dL_law_209 : decode cL_law 209 = .ok (.if_icmp .ne 7, 3) := by decide +kernel
theorem dL_law_212 : decode cL_law 212 = .ok (.iconst 1, 1) := by decide +kernel
theorem dL_law_213 : decode cL_law 213 = .ok (.goto 4, 3) := by decide +kernel
theorem dL_law_216 : decode cL_law 216 = .ok (.iconst 0, 1) := by decide +kernel
theorem dL_law_217 : decode cL_law 217 = .ok (.iconst 0, 1) := by decide +kernel
theorem dL_law_218 : decode cL_law 218 = .ok (.invokevirtual 99, 3) := by decide +kernel
theorem dL_law_221 : decode cL_law 221 = .ok (.istore 9, 2) := by decide +kernel
theorem dL_law_223 : decode cL_law 223 = .ok (.aload_n 1, 1) := by decide +kernel
theorem dL_law_224 : decode cL_law 224 = .ok (.aload 8, 2) := by decide +kernel
theorem dL_law_226 : decode cL_law 226 = .ok (.iconst 1, 1) := by decide +kernel
theorem dL_law_227 : decode cL_law 227 = .ok (.iaload, 1) := by decide +kernel
theorem dL_law_228 : decode cL_law 228 = .ok (.iconst 1, 1) := by decide +kernel
theorem dL_law_229 : decode cL_law 229 = .ok (.if_icmp .ne 7, 3) := by decide +kernel
theorem dL_law_232 : decode cL_law 232 = .ok (.iconst 1, 1) := by decide +kernel
theorem dL_law_233 : decode cL_law 233 = .ok (.goto 4, 3) := by decide +kernel
theorem dL_law_236 : decode cL_law 236 = .ok (.iconst 0, 1) := by decide +kernel
theorem dL_law_237 : decode cL_law 237 = .ok (.invokevirtual 103, 3) := by decide +kernel
theorem dL_law_240 : decode cL_law 240 = .ok (.istore 10, 2) := by decide +kernel
theorem dL_law_242 : decode cL_law 242 = .ok (.iload 9, 2) := by decide +kernel
theorem dL_law_244 : decode cL_law 244 = .ok (.ifCond .le 7, 3) := by decide +kernel
theorem dL_law_247 : decode cL_law 247 = .ok (.iconst 1, 1) := by decide +kernel
theorem dL_law_248 : decode cL_law 248 = .ok (.goto 4, 3) := by decide +kernel
theorem dL_law_251 : decode cL_law 251 = .ok (.iconst 0, 1) := by decide +kernel
theorem dL_law_252 : decode cL_law 252 = .ok (.aload 8, 2) := by decide +kernel
theorem dL_law_254 : decode cL_law 254 = .ok (.iconst 0, 1) := by decide +kernel
theorem dL_law_255 : decode cL_law 255 = .ok (.iaload, 1) := by decide +kernel
theorem dL_law_256 : decode cL_law 256 = .ok (.iload 10, 2) := by decide +kernel
theorem dL_law_258 : decode cL_law 258 = .ok (.if_icmp .le 7, 3) := by decide +kernel
theorem dL_law_261 : decode cL_law 261 = .ok (.iconst 1, 1) := by decide +kernel
theorem dL_law_262 : decode cL_law 262 = .ok (.goto 4, 3) := by decide +kernel
theorem dL_law_265 : decode cL_law 265 = .ok (.iconst 0, 1) := by decide +kernel
theorem dL_law_266 : decode cL_law 266 = .ok (.if_icmp .ne 26, 3) := by decide +kernel
theorem dL_law_269 : decode cL_law 269 = .ok (.aload_n 1, 1) := by decide +kernel
theorem dL_law_270 : decode cL_law 270 = .ok (.iload 10, 2) := by decide +kernel
theorem dL_law_272 : decode cL_law 272 = .ok (.aload 8, 2) := by decide +kernel
theorem dL_law_274 : decode cL_law 274 = .ok (.iconst 1, 1) := by decide +kernel
theorem dL_law_275 : decode cL_law 275 = .ok (.iaload, 1) := by decide +kernel
theorem dL_law_276 : decode cL_law 276 = .ok (.iconst 1, 1) := by decide +kernel
theorem dL_law_277 : decode cL_law 277 = .ok (.if_icmp .ne 7, 3) := by decide +kernel
theorem dL_law_280 : decode cL_law 280 = .ok (.iconst 1, 1) := by decide +kernel
theorem dL_law_281 : decode cL_law 281 = .ok (.goto 4, 3) := by decide +kernel
theorem dL_law_284 : decode cL_law 284 = .ok (.iconst 0, 1) := by decide +kernel
theorem dL_law_285 : decode cL_law 285 = .ok (.iconst 0, 1) := by decide +kernel
theorem dL_law_286 : decode cL_law 286 = .ok (.invokevirtual 99, 3) := by decide +kernel
theorem dL_law_289 : decode cL_law 289 = .ok (.ifCond .eq 5, 3) := by decide +kernel
theorem dL_law_292 : decode cL_law 292 = .ok (.iconst 0, 1) := by decide +kernel
theorem dL_law_293 : decode cL_law 293 = .ok (.ireturn, 1) := by decide +kernel
theorem dL_law_294 : decode cL_law 294 = .ok (.aload_n 1, 1) := by decide +kernel
theorem dL_law_295 : decode cL_law 295 = .ok (.iconst 1, 1) := by decide +kernel
theorem dL_law_296 : decode cL_law 296 = .ok (.iconst 0, 1) := by decide +kernel
theorem dL_law_297 : decode cL_law 297 = .ok (.invokevirtual 106, 3) := by decide +kernel
theorem dL_law_300 : decode cL_law 300 = .ok (.istore 11, 2) := by decide +kernel
theorem dL_law_302 : decode cL_law 302 = .ok (.aload_n 1, 1) := by decide +kernel
theorem dL_law_303 : decode cL_law 303 = .ok (.iconst 1, 1) := by decide +kernel
theorem dL_law_304 : decode cL_law 304 = .ok (.iconst 1, 1) := by decide +kernel
theorem dL_law_305 : decode cL_law 305 = .ok (.invokevirtual 106, 3) := by decide +kernel
theorem dL_law_308 : decode cL_law 308 = .ok (.istore 12, 2) := by decide +kernel
theorem dL_law_310 : decode cL_law 310 = .ok (.aload_n 1, 1) := by decide +kernel
theorem dL_law_311 : decode cL_law 311 = .ok (.iconst 1, 1) := by decide +kernel
theorem dL_law_312 : decode cL_law 312 = .ok (.iconst 2, 1) := by decide +kernel
theorem dL_law_313 : decode cL_law 313 = .ok (.invokevirtual 106, 3) := by decide +kernel
theorem dL_law_316 : decode cL_law 316 = .ok (.istore 13, 2) := by decide +kernel
theorem dL_law_318 : decode cL_law 318 = .ok (.aload_n 1, 1) := by decide +kernel
theorem dL_law_319 : decode cL_law 319 = .ok (.iconst 1, 1) := by decide +kernel
theorem dL_law_320 : decode cL_law 320 = .ok (.invokevirtual 109, 3) := by decide +kernel
theorem dL_law_323 : decode cL_law 323 = .ok (.iload 9, 2) := by decide +kernel
theorem dL_law_325 : decode cL_law 325 = .ok (.if_icmp .ne 45, 3) := by decide +kernel
theorem dL_law_328 : decode cL_law 328 = .ok (.aload_n 1, 1) := by decide +kernel
theorem dL_law_329 : decode cL_law 329 = .ok (.iconst 2, 1) := by decide +kernel
theorem dL_law_330 : decode cL_law 330 = .ok (.invokevirtual 84, 3) := by decide +kernel
theorem dL_law_333 : decode cL_law 333 = .ok (.iload 11, 2) := by decide +kernel
theorem dL_law_335 : decode cL_law 335 = .ok (.if_icmp .ne 35, 3) := by decide +kernel
theorem dL_law_338 : decode cL_law 338 = .ok (.aload_n 1, 1) := by decide +kernel
theorem dL_law_339 : decode cL_law 339 = .ok (.iconst 3, 1) := by decide +kernel
theorem dL_law_340 : decode cL_law 340 = .ok (.invokevirtual 84, 3) := by decide +kernel
theorem dL_law_343 : decode cL_law 343 = .ok (.iload 12, 2) := by decide +kernel
theorem dL_law_345 : decode cL_law 345 = .ok (.if_icmp .ne 25, 3) := by decide +kernel
theorem dL_law_348 : decode cL_law 348 = .ok (.aload_n 1, 1) := by decide +kernel
theorem dL_law_349 : decode cL_law 349 = .ok (.bipush 6, 2) := by decide +kernel
theorem dL_law_351 : decode cL_law 351 = .ok (.invokevirtual 84, 3) := by decide +kernel
theorem dL_law_354 : decode cL_law 354 = .ok (.iload 13, 2) := by decide +kernel
theorem dL_law_356 : decode cL_law 356 = .ok (.if_icmp .ne 14, 3) := by decide +kernel
theorem dL_law_359 : decode cL_law 359 = .ok (.aload_n 1, 1) := by decide +kernel
theorem dL_law_360 : decode cL_law 360 = .ok (.iconst 0, 1) := by decide +kernel
theorem dL_law_361 : decode cL_law 361 = .ok (.invokevirtual 84, 3) := by decide +kernel
theorem dL_law_364 : decode cL_law 364 = .ok (.iload_n 3, 1) := by decide +kernel
theorem dL_law_365 : decode cL_law 365 = .ok (.iconst 1, 1) := by decide +kernel
theorem dL_law_366 : decode cL_law 366 = .ok (.iadd, 1) := by decide +kernel
theorem dL_law_367 : decode cL_law 367 = .ok (.if_icmp .eq 5, 3) := by decide +kernel
theorem dL_law_370 : decode cL_law 370 = .ok (.iconst 0, 1) := by decide +kernel
theorem dL_law_371 : decode cL_law 371 = .ok (.ireturn, 1) := by decide +kernel
theorem dL_law_372 : decode cL_law 372 = .ok (.aload_n 2, 1) := by decide +kernel
theorem dL_law_373 : decode cL_law 373 = .ok (.invokevirtual 112, 3) := by decide +kernel
theorem dL_law_376 : decode cL_law 376 = .ok (.iconst 0, 1) := by decide +kernel
theorem dL_law_377 : decode cL_law 377 = .ok (.istore 14, 2) := by decide +kernel
theorem dL_law_379 : decode cL_law 379 = .ok (.iconst 0, 1) := by decide +kernel
theorem dL_law_380 : decode cL_law 380 = .ok (.istore 15, 2) := by decide +kernel
theorem dL_law_382 : decode cL_law 382 = .ok (.iconst 0, 1) := by decide +kernel
theorem dL_law_383 : decode cL_law 383 = .ok (.istore 16, 2) := by decide +kernel
theorem dL_law_385 : decode cL_law 385 = .ok (.iload 16, 2) := by decide +kernel
theorem dL_law_387 : decode cL_law 387 = .ok (.iload 5, 2) := by decide +kernel
theorem dL_law_389 : decode cL_law 389 = .ok (.if_icmp .ge 354, 3) := by decide +kernel
theorem dL_law_392 : decode cL_law 392 = .ok (.aload_n 1, 1) := by decide +kernel
theorem dL_law_393 : decode cL_law 393 = .ok (.iload 16, 2) := by decide +kernel
theorem dL_law_395 : decode cL_law 395 = .ok (.iconst 5, 1) := by decide +kernel
theorem dL_law_396 : decode cL_law 396 = .ok (.invokevirtual 88, 3) := by decide +kernel
theorem dL_law_399 : decode cL_law 399 = .ok (.iconst 1, 1) := by decide +kernel
theorem dL_law_400 : decode cL_law 400 = .ok (.if_icmp .ne 7, 3) := by decide +kernel
theorem dL_law_403 : decode cL_law 403 = .ok (.iconst 1, 1) := by decide +kernel
theorem dL_law_404 : decode cL_law 404 = .ok (.goto 4, 3) := by decide +kernel
theorem dL_law_407 : decode cL_law 407 = .ok (.iconst 0, 1) := by decide +kernel
theorem dL_law_408 : decode cL_law 408 = .ok (.istore 17, 2) := by decide +kernel
theorem dL_law_410 : decode cL_law 410 = .ok (.iload 14, 2) := by decide +kernel
theorem dL_law_412 : decode cL_law 412 = .ok (.iload 17, 2) := by decide +kernel
theorem dL_law_414 : decode cL_law 414 = .ok (.ifCond .eq 7, 3) := by decide +kernel
theorem dL_law_417 : decode cL_law 417 = .ok (.iconst 1, 1) := by decide +kernel
theorem dL_law_418 : decode cL_law 418 = .ok (.goto 4, 3) := by decide +kernel
theorem dL_law_421 : decode cL_law 421 = .ok (.iconst 0, 1) := by decide +kernel
theorem dL_law_422 : decode cL_law 422 = .ok (.iadd, 1) := by decide +kernel
theorem dL_law_423 : decode cL_law 423 = .ok (.istore 14, 2) := by decide +kernel
theorem dL_law_425 : decode cL_law 425 = .ok (.iload 15, 2) := by decide +kernel
theorem dL_law_427 : decode cL_law 427 = .ok (.iload 17, 2) := by decide +kernel
theorem dL_law_429 : decode cL_law 429 = .ok (.ifCond .eq 13, 3) := by decide +kernel
theorem dL_law_432 : decode cL_law 432 = .ok (.aload_n 1, 1) := by decide +kernel
theorem dL_law_433 : decode cL_law 433 = .ok (.iload 16, 2) := by decide +kernel
theorem dL_law_435 : decode cL_law 435 = .ok (.iconst 4, 1) := by decide +kernel
theorem dL_law_436 : decode cL_law 436 = .ok (.invokevirtual 88, 3) := by decide +kernel
theorem dL_law_439 : decode cL_law 439 = .ok (.goto 4, 3) := by decide +kernel
theorem dL_law_442 : decode cL_law 442 = .ok (.iconst 0, 1) := by decide +kernel
theorem dL_law_443 : decode cL_law 443 = .ok (.iadd, 1) := by decide +kernel
theorem dL_law_444 : decode cL_law 444 = .ok (.istore 15, 2) := by decide +kernel
theorem dL_law_446 : decode cL_law 446 = .ok (.iconst 0, 1) := by decide +kernel
theorem dL_law_447 : decode cL_law 447 = .ok (.istore 18, 2) := by decide +kernel
theorem dL_law_449 : decode cL_law 449 = .ok (.iload 18, 2) := by decide +kernel
theorem dL_law_451 : decode cL_law 451 = .ok (.iconst 4, 1) := by decide +kernel
theorem dL_law_452 : decode cL_law 452 = .ok (.if_icmp .ge 30, 3) := by decide +kernel
theorem dL_law_455 : decode cL_law 455 = .ok (.aload_n 1, 1) := by decide +kernel
theorem dL_law_456 : decode cL_law 456 = .ok (.iload 16, 2) := by decide +kernel
theorem dL_law_458 : decode cL_law 458 = .ok (.iload 18, 2) := by decide +kernel
theorem dL_law_460 : decode cL_law 460 = .ok (.invokevirtual 88, 3) := by decide +kernel
theorem dL_law_463 : decode cL_law 463 = .ok (.aload 6, 2) := by decide +kernel
theorem dL_law_465 : decode cL_law 465 = .ok (.iload 16, 2) := by decide +kernel
theorem dL_law_467 : decode cL_law 467 = .ok (.aaload, 1) := by decide +kernel
theorem dL_law_468 : decode cL_law 468 = .ok (.iload 18, 2) := by decide +kernel
theorem dL_law_470 : decode cL_law 470 = .ok (.iaload, 1) := by decide +kernel
theorem dL_law_471 : decode cL_law 471 = .ok (.if_icmp .eq 5, 3) := by decide +kernel
theorem dL_law_474 : decode cL_law 474 = .ok (.iconst 0, 1) := by decide +kernel
theorem dL_law_475 : decode cL_law 475 = .ok (.ireturn, 1) := by decide +kernel
theorem dL_law_476 : decode cL_law 476 = .ok (.iinc 18 1, 3) := by decide +kernel
theorem dL_law_479 : decode cL_law 479 = .ok (.goto (-30), 3) := by decide +kernel
theorem dL_law_482 : decode cL_law 482 = .ok (.iload 17, 2) := by decide +kernel
theorem dL_law_484 : decode cL_law 484 = .ok (.ifCond .eq 13, 3) := by decide +kernel
theorem dL_law_487 : decode cL_law 487 = .ok (.aload 6, 2) := by decide +kernel
theorem dL_law_489 : decode cL_law 489 = .ok (.iload 16, 2) := by decide +kernel
theorem dL_law_491 : decode cL_law 491 = .ok (.aaload, 1) := by decide +kernel
theorem dL_law_492 : decode cL_law 492 = .ok (.iconst 5, 1) := by decide +kernel
theorem dL_law_493 : decode cL_law 493 = .ok (.iaload, 1) := by decide +kernel
theorem dL_law_494 : decode cL_law 494 = .ok (.ifCond .eq 47, 3) := by decide +kernel
theorem dL_law_497 : decode cL_law 497 = .ok (.aload_n 1, 1) := by decide +kernel
theorem dL_law_498 : decode cL_law 498 = .ok (.iload 16, 2) := by decide +kernel
theorem dL_law_500 : decode cL_law 500 = .ok (.iconst 4, 1) := by decide +kernel
theorem dL_law_501 : decode cL_law 501 = .ok (.invokevirtual 88, 3) := by decide +kernel
theorem dL_law_504 : decode cL_law 504 = .ok (.aload 6, 2) := by decide +kernel
theorem dL_law_506 : decode cL_law 506 = .ok (.iload 16, 2) := by decide +kernel
theorem dL_law_508 : decode cL_law 508 = .ok (.aaload, 1) := by decide +kernel
theorem dL_law_509 : decode cL_law 509 = .ok (.iconst 4, 1) := by decide +kernel
theorem dL_law_510 : decode cL_law 510 = .ok (.iaload, 1) := by decide +kernel
theorem dL_law_511 : decode cL_law 511 = .ok (.if_icmp .lt 30, 3) := by decide +kernel
theorem dL_law_514 : decode cL_law 514 = .ok (.iload 17, 2) := by decide +kernel
theorem dL_law_516 : decode cL_law 516 = .ok (.ifCond .ne 27, 3) := by decide +kernel
theorem dL_law_519 : decode cL_law 519 = .ok (.aload_n 1, 1) := by decide +kernel
theorem dL_law_520 : decode cL_law 520 = .ok (.iload 16, 2) := by decide +kernel
theorem dL_law_522 : decode cL_law 522 = .ok (.bipush 6, 2) := by decide +kernel
theorem dL_law_524 : decode cL_law 524 = .ok (.invokevirtual 88, 3) := by decide +kernel
theorem dL_law_527 : decode cL_law 527 = .ok (.ifCond .ne 14, 3) := by decide +kernel
theorem dL_law_530 : decode cL_law 530 = .ok (.aload_n 1, 1) := by decide +kernel
theorem dL_law_531 : decode cL_law 531 = .ok (.iload 16, 2) := by decide +kernel
theorem dL_law_533 : decode cL_law 533 = .ok (.bipush 7, 2) := by decide +kernel
theorem dL_law_535 : decode cL_law 535 = .ok (.invokevirtual 88, 3) := by decide +kernel
theorem dL_law_538 : decode cL_law 538 = .ok (.ifCond .eq 5, 3) := by decide +kernel
theorem dL_law_541 : decode cL_law 541 = .ok (.iconst 0, 1) := by decide +kernel
theorem dL_law_542 : decode cL_law 542 = .ok (.ireturn, 1) := by decide +kernel
theorem dL_law_543 : decode cL_law 543 = .ok (.aload 6, 2) := by decide +kernel
theorem dL_law_545 : decode cL_law 545 = .ok (.iload 16, 2) := by decide +kernel
theorem dL_law_547 : decode cL_law 547 = .ok (.aaload, 1) := by decide +kernel
theorem dL_law_548 : decode cL_law 548 = .ok (.iconst 5, 1) := by decide +kernel
theorem dL_law_549 : decode cL_law 549 = .ok (.iaload, 1) := by decide +kernel
theorem dL_law_550 : decode cL_law 550 = .ok (.iconst 1, 1) := by decide +kernel
theorem dL_law_551 : decode cL_law 551 = .ok (.if_icmp .ne 15, 3) := by decide +kernel
theorem dL_law_554 : decode cL_law 554 = .ok (.iload 17, 2) := by decide +kernel
theorem dL_law_556 : decode cL_law 556 = .ok (.ifCond .ne 10, 3) := by decide +kernel
theorem dL_law_559 : decode cL_law 559 = .ok (.aload 8, 2) := by decide +kernel
theorem dL_law_561 : decode cL_law 561 = .ok (.iconst 0, 1) := by decide +kernel
theorem dL_law_562 : decode cL_law 562 = .ok (.iaload, 1) := by decide +kernel
theorem dL_law_563 : decode cL_law 563 = .ok (.ifCond .eq 41, 3) := by decide +kernel
theorem dL_law_566 : decode cL_law 566 = .ok (.aload_n 1, 1) := by decide +kernel
theorem dL_law_567 : decode cL_law 567 = .ok (.iload 16, 2) := by decide +kernel
theorem dL_law_569 : decode cL_law 569 = .ok (.iconst 4, 1) := by decide +kernel
theorem dL_law_570 : decode cL_law 570 = .ok (.invokevirtual 88, 3) := by decide +kernel
theorem dL_law_573 : decode cL_law 573 = .ok (.aload 6, 2) := by decide +kernel
theorem dL_law_575 : decode cL_law 575 = .ok (.iload 16, 2) := by decide +kernel
theorem dL_law_577 : decode cL_law 577 = .ok (.aaload, 1) := by decide +kernel
theorem dL_law_578 : decode cL_law 578 = .ok (.iconst 4, 1) := by decide +kernel
theorem dL_law_579 : decode cL_law 579 = .ok (.iaload, 1) := by decide +kernel
theorem dL_law_580 : decode cL_law 580 = .ok (.if_icmp .le 26, 3) := by decide +kernel
theorem dL_law_583 : decode cL_law 583 = .ok (.aload 8, 2) := by decide +kernel
theorem dL_law_585 : decode cL_law 585 = .ok (.iconst 2, 1) := by decide +kernel
theorem dL_law_586 : decode cL_law 586 = .ok (.iaload, 1) := by decide +kernel
theorem dL_law_587 : decode cL_law 587 = .ok (.aload 6, 2) := by decide +kernel
theorem dL_law_589 : decode cL_law 589 = .ok (.iload 16, 2) := by decide +kernel
theorem dL_law_591 : decode cL_law 591 = .ok (.aaload, 1) := by decide +kernel
theorem dL_law_592 : decode cL_law 592 = .ok (.iconst 3, 1) := by decide +kernel
theorem dL_law_593 : decode cL_law 593 = .ok (.iaload, 1) := by decide +kernel
theorem dL_law_594 : decode cL_law 594 = .ok (.iconst 3, 1) := by decide +kernel
theorem dL_law_595 : decode cL_law 595 = .ok (.iadd, 1) := by decide +kernel
theorem dL_law_596 : decode cL_law 596 = .ok (.if_icmp .le 8, 3) := by decide +kernel
theorem dL_law_599 : decode cL_law 599 = .ok (.iload 17, 2) := by decide +kernel
theorem dL_law_601 : decode cL_law 601 = .ok (.ifCond .ne 5, 3) := by decide +kernel
theorem dL_law_604 : decode cL_law 604 = .ok (.iconst 0, 1) := by decide +kernel
theorem dL_law_605 : decode cL_law 605 = .ok (.ireturn, 1) := by decide +kernel
theorem dL_law_606 : decode cL_law 606 = .ok (.iload 17, 2) := by decide +kernel
theorem dL_law_608 : decode cL_law 608 = .ok (.ifCond .eq 65, 3) := by decide +kernel
theorem dL_law_611 : decode cL_law 611 = .ok (.aload 8, 2) := by decide +kernel
theorem dL_law_613 : decode cL_law 613 = .ok (.iconst 0, 1) := by decide +kernel
theorem dL_law_614 : decode cL_law 614 = .ok (.iaload, 1) := by decide +kernel
theorem dL_law_615 : decode cL_law 615 = .ok (.ifCond .le 58, 3) := by decide +kernel
theorem dL_law_618 : decode cL_law 618 = .ok (.aload_n 1, 1) := by decide +kernel
theorem dL_law_619 : decode cL_law 619 = .ok (.iload 16, 2) := by decide +kernel
theorem dL_law_621 : decode cL_law 621 = .ok (.iconst 4, 1) := by decide +kernel
theorem dL_law_622 : decode cL_law 622 = .ok (.invokevirtual 88, 3) := by decide +kernel
theorem dL_law_625 : decode cL_law 625 = .ok (.aload 6, 2) := by decide +kernel
theorem dL_law_627 : decode cL_law 627 = .ok (.iload 16, 2) := by decide +kernel
theorem dL_law_629 : decode cL_law 629 = .ok (.aaload, 1) := by decide +kernel
theorem dL_law_630 : decode cL_law 630 = .ok (.iconst 4, 1) := by decide +kernel
theorem dL_law_631 : decode cL_law 631 = .ok (.iaload, 1) := by decide +kernel
theorem dL_law_632 : decode cL_law 632 = .ok (.if_icmp .ne 41, 3) := by decide +kernel
theorem dL_law_635 : decode cL_law 635 = .ok (.aload_n 1, 1) := by decide +kernel
theorem dL_law_636 : decode cL_law 636 = .ok (.iload 16, 2) := by decide +kernel
theorem dL_law_638 : decode cL_law 638 = .ok (.aload 8, 2) := by decide +kernel
theorem dL_law_640 : decode cL_law 640 = .ok (.iconst 0, 1) := by decide +kernel
theorem dL_law_641 : decode cL_law 641 = .ok (.iaload, 1) := by decide +kernel
theorem dL_law_642 : decode cL_law 642 = .ok (.aload 8, 2) := by decide +kernel
theorem dL_law_644 : decode cL_law 644 = .ok (.iconst 1, 1) := by decide +kernel
theorem dL_law_645 : decode cL_law 645 = .ok (.iaload, 1) := by decide +kernel
theorem dL_law_646 : decode cL_law 646 = .ok (.iconst 1, 1) := by decide +kernel
theorem dL_law_647 : decode cL_law 647 = .ok (.if_icmp .ne 7, 3) := by decide +kernel
theorem dL_law_650 : decode cL_law 650 = .ok (.iconst 1, 1) := by decide +kernel
theorem dL_law_651 : decode cL_law 651 = .ok (.goto 4, 3) := by decide +kernel
theorem dL_law_654 : decode cL_law 654 = .ok (.iconst 0, 1) := by decide +kernel
theorem dL_law_655 : decode cL_law 655 = .ok (.invokevirtual 114, 3) := by decide +kernel
theorem dL_law_658 : decode cL_law 658 = .ok (.iconst 2, 1) := by decide +kernel
theorem dL_law_659 : decode cL_law 659 = .ok (.isub, 1) := by decide +kernel
theorem dL_law_660 : decode cL_law 660 = .ok (.aload 6, 2) := by decide +kernel
theorem dL_law_662 : decode cL_law 662 = .ok (.iload 16, 2) := by decide +kernel
theorem dL_law_664 : decode cL_law 664 = .ok (.aaload, 1) := by decide +kernel
theorem dL_law_665 : decode cL_law 665 = .ok (.bipush 6, 2) := by decide +kernel
theorem dL_law_667 : decode cL_law 667 = .ok (.iaload, 1) := by decide +kernel
theorem dL_law_668 : decode cL_law 668 = .ok (.if_icmp .le 5, 3) := by decide +kernel
theorem dL_law_671 : decode cL_law 671 = .ok (.iconst 0, 1) := by decide +kernel
theorem dL_law_672 : decode cL_law 672 = .ok (.ireturn, 1) := by decide +kernel
theorem dL_law_673 : decode cL_law 673 = .ok (.iload 17, 2) := by decide +kernel
theorem dL_law_675 : decode cL_law 675 = .ok (.ifCond .ne 6, 3) := by decide +kernel
theorem dL_law_678 : decode cL_law 678 = .ok (.goto 59, 3) := by decide +kernel
theorem dL_law_681 : decode cL_law 681 = .ok (.aload_n 1, 1) := by decide +kernel
theorem dL_law_682 : decode cL_law 682 = .ok (.iload 16, 2) := by decide +kernel
theorem dL_law_684 : decode cL_law 684 = .ok (.iconst 1, 1) := by decide +kernel
theorem dL_law_685 : decode cL_law 685 = .ok (.invokevirtual 88, 3) := by decide +kernel
theorem dL_law_688 : decode cL_law 688 = .ok (.istore 18, 2) := by decide +kernel
theorem dL_law_690 : decode cL_law 690 = .ok (.iload 18, 2) := by decide +kernel
theorem dL_law_692 : decode cL_law 692 = .ok (.aload_n 1, 1) := by decide +kernel
theorem dL_law_693 : decode cL_law 693 = .ok (.iload 16, 2) := by decide +kernel
theorem dL_law_695 : decode cL_law 695 = .ok (.iconst 1, 1) := by decide +kernel
theorem dL_law_696 : decode cL_law 696 = .ok (.invokevirtual 88, 3) := by decide +kernel
theorem dL_law_699 : decode cL_law 699 = .ok (.aload_n 1, 1) := by decide +kernel
theorem dL_law_700 : decode cL_law 700 = .ok (.iload 16, 2) := by decide +kernel
theorem dL_law_702 : decode cL_law 702 = .ok (.iconst 2, 1) := by decide +kernel
theorem dL_law_703 : decode cL_law 703 = .ok (.invokevirtual 88, 3) := by decide +kernel
theorem dL_law_706 : decode cL_law 706 = .ok (.iadd, 1) := by decide +kernel
theorem dL_law_707 : decode cL_law 707 = .ok (.if_icmp .ge 30, 3) := by decide +kernel
theorem dL_law_710 : decode cL_law 710 = .ok (.aload_n 1, 1) := by decide +kernel
theorem dL_law_711 : decode cL_law 711 = .ok (.iload 18, 2) := by decide +kernel
theorem dL_law_713 : decode cL_law 713 = .ok (.aload_n 1, 1) := by decide +kernel
theorem dL_law_714 : decode cL_law 714 = .ok (.iload 16, 2) := by decide +kernel
theorem dL_law_716 : decode cL_law 716 = .ok (.iconst 0, 1) := by decide +kernel
theorem dL_law_717 : decode cL_law 717 = .ok (.invokevirtual 88, 3) := by decide +kernel
theorem dL_law_720 : decode cL_law 720 = .ok (.iconst 0, 1) := by decide +kernel
theorem dL_law_721 : decode cL_law 721 = .ok (.invokevirtual 91, 3) := by decide +kernel
theorem dL_law_724 : decode cL_law 724 = .ok (.iload 16, 2) := by decide +kernel
theorem dL_law_726 : decode cL_law 726 = .ok (.if_icmp .eq 5, 3) := by decide +kernel
theorem dL_law_729 : decode cL_law 729 = .ok (.iconst 0, 1) := by decide +kernel
theorem dL_law_730 : decode cL_law 730 = .ok (.ireturn, 1) := by decide +kernel
theorem dL_law_731 : decode cL_law 731 = .ok (.iinc 18 1, 3) := by decide +kernel
theorem dL_law_734 : decode cL_law 734 = .ok (.goto (-44), 3) := by decide +kernel
theorem dL_law_737 : decode cL_law 737 = .ok (.iinc 16 1, 3) := by decide +kernel
theorem dL_law_740 : decode cL_law 740 = .ok (.goto (-355), 3) := by decide +kernel
theorem dL_law_743 : decode cL_law 743 = .ok (.iconst 0, 1) := by decide +kernel
theorem dL_law_744 : decode cL_law 744 = .ok (.istore 16, 2) := by decide +kernel
theorem dL_law_746 : decode cL_law 746 = .ok (.iconst 0, 1) := by decide +kernel
theorem dL_law_747 : decode cL_law 747 = .ok (.istore 17, 2) := by decide +kernel
theorem dL_law_749 : decode cL_law 749 = .ok (.iconst 0, 1) := by decide +kernel
theorem dL_law_750 : decode cL_law 750 = .ok (.istore 18, 2) := by decide +kernel
theorem dL_law_752 : decode cL_law 752 = .ok (.iload 18, 2) := by decide +kernel
theorem dL_law_754 : decode cL_law 754 = .ok (.bipush 96, 2) := by decide +kernel
theorem dL_law_756 : decode cL_law 756 = .ok (.if_icmp .ge 168, 3) := by decide +kernel
theorem dL_law_759 : decode cL_law 759 = .ok (.iload 18, 2) := by decide +kernel
theorem dL_law_761 : decode cL_law 761 = .ok (.bipush 12, 2) := by decide +kernel
theorem dL_law_763 : decode cL_law 763 = .ok (.irem, 1) := by decide +kernel
theorem dL_law_764 : decode cL_law 764 = .ok (.istore 19, 2) := by decide +kernel
theorem dL_law_766 : decode cL_law 766 = .ok (.iload 18, 2) := by decide +kernel
theorem dL_law_768 : decode cL_law 768 = .ok (.bipush 12, 2) := by decide +kernel
theorem dL_law_770 : decode cL_law 770 = .ok (.idiv, 1) := by decide +kernel
theorem dL_law_771 : decode cL_law 771 = .ok (.istore 20, 2) := by decide +kernel
theorem dL_law_773 : decode cL_law 773 = .ok (.aload_n 1, 1) := by decide +kernel
theorem dL_law_774 : decode cL_law 774 = .ok (.iload 19, 2) := by decide +kernel
theorem dL_law_776 : decode cL_law 776 = .ok (.iload 20, 2) := by decide +kernel
theorem dL_law_778 : decode cL_law 778 = .ok (.iconst 1, 1) := by decide +kernel
theorem dL_law_779 : decode cL_law 779 = .ok (.invokevirtual 91, 3) := by decide +kernel
theorem dL_law_782 : decode cL_law 782 = .ok (.iconst 1, 1) := by decide +kernel
theorem dL_law_783 : decode cL_law 783 = .ok (.if_icmp .ne 7, 3) := by decide +kernel
theorem dL_law_786 : decode cL_law 786 = .ok (.iconst 1, 1) := by decide +kernel
theorem dL_law_787 : decode cL_law 787 = .ok (.goto 4, 3) := by decide +kernel
theorem dL_law_790 : decode cL_law 790 = .ok (.iconst 0, 1) := by decide +kernel
theorem dL_law_791 : decode cL_law 791 = .ok (.istore 21, 2) := by decide +kernel
theorem dL_law_793 : decode cL_law 793 = .ok (.aload_n 1, 1) := by decide +kernel
theorem dL_law_794 : decode cL_law 794 = .ok (.aload 8, 2) := by decide +kernel
theorem dL_law_796 : decode cL_law 796 = .ok (.iconst 3, 1) := by decide +kernel
theorem dL_law_797 : decode cL_law 797 = .ok (.iaload, 1) := by decide +kernel
theorem dL_law_798 : decode cL_law 798 = .ok (.iload 19, 2) := by decide +kernel
theorem dL_law_800 : decode cL_law 800 = .ok (.iload 20, 2) := by decide +kernel
theorem dL_law_802 : decode cL_law 802 = .ok (.invokevirtual 118, 3) := by decide +kernel
theorem dL_law_805 : decode cL_law 805 = .ok (.istore 22, 2) := by decide +kernel
theorem dL_law_807 : decode cL_law 807 = .ok (.iload 16, 2) := by decide +kernel
theorem dL_law_809 : decode cL_law 809 = .ok (.iload 21, 2) := by decide +kernel
theorem dL_law_811 : decode cL_law 811 = .ok (.ifCond .eq 7, 3) := by decide +kernel
theorem dL_law_814 : decode cL_law 814 = .ok (.iconst 1, 1) := by decide +kernel
theorem dL_law_815 : decode cL_law 815 = .ok (.goto 4, 3) := by decide +kernel
theorem dL_law_818 : decode cL_law 818 = .ok (.iconst 0, 1) := by decide +kernel
theorem dL_law_819 : decode cL_law 819 = .ok (.iadd, 1) := by decide +kernel
theorem dL_law_820 : decode cL_law 820 = .ok (.istore 16, 2) := by decide +kernel
theorem dL_law_822 : decode cL_law 822 = .ok (.iload 17, 2) := by decide +kernel
theorem dL_law_824 : decode cL_law 824 = .ok (.iload 22, 2) := by decide +kernel
theorem dL_law_826 : decode cL_law 826 = .ok (.iadd, 1) := by decide +kernel
theorem dL_law_827 : decode cL_law 827 = .ok (.istore 17, 2) := by decide +kernel
theorem dL_law_829 : decode cL_law 829 = .ok (.iload 21, 2) := by decide +kernel
theorem dL_law_831 : decode cL_law 831 = .ok (.ifCond .eq 8, 3) := by decide +kernel
theorem dL_law_834 : decode cL_law 834 = .ok (.iload 22, 2) := by decide +kernel
theorem dL_law_836 : decode cL_law 836 = .ok (.ifCond .ne 80, 3) := by decide +kernel
theorem dL_law_839 : decode cL_law 839 = .ok (.iload 21, 2) := by decide +kernel
theorem dL_law_841 : decode cL_law 841 = .ok (.ifCond .ne 40, 3) := by decide +kernel
theorem dL_law_844 : decode cL_law 844 = .ok (.iload 22, 2) := by decide +kernel
theorem dL_law_846 : decode cL_law 846 = .ok (.aload 8, 2) := by decide +kernel
theorem dL_law_848 : decode cL_law 848 = .ok (.iconst 3, 1) := by decide +kernel
theorem dL_law_849 : decode cL_law 849 = .ok (.iaload, 1) := by decide +kernel
theorem dL_law_850 : decode cL_law 850 = .ok (.iload 20, 2) := by decide +kernel
theorem dL_law_852 : decode cL_law 852 = .ok (.bipush 7, 2) := by decide +kernel
theorem dL_law_854 : decode cL_law 854 = .ok (.if_icmp .ne 7, 3) := by decide +kernel
theorem dL_law_857 : decode cL_law 857 = .ok (.iconst 0, 1) := by decide +kernel
theorem dL_law_858 : decode cL_law 858 = .ok (.goto 19, 3) := by decide +kernel
theorem dL_law_861 : decode cL_law 861 = .ok (.aload_n 1, 1) := by decide +kernel
theorem dL_law_862 : decode cL_law 862 = .ok (.aload 8, 2) := by decide +kernel
theorem dL_law_864 : decode cL_law 864 = .ok (.iconst 3, 1) := by decide +kernel
theorem dL_law_865 : decode cL_law 865 = .ok (.iaload, 1) := by decide +kernel
theorem dL_law_866 : decode cL_law 866 = .ok (.iload 19, 2) := by decide +kernel
theorem dL_law_868 : decode cL_law 868 = .ok (.iload 20, 2) := by decide +kernel
theorem dL_law_870 : decode cL_law 870 = .ok (.iconst 1, 1) := by decide +kernel
theorem dL_law_871 : decode cL_law 871 = .ok (.iadd, 1) := by decide +kernel
theorem dL_law_872 : decode cL_law 872 = .ok (.invokevirtual 118, 3) := by decide +kernel
theorem dL_law_875 : decode cL_law 875 = .ok (.iconst 2, 1) := by decide +kernel
theorem dL_law_876 : decode cL_law 876 = .ok (.idiv, 1) := by decide +kernel
theorem dL_law_877 : decode cL_law 877 = .ok (.iadd, 1) := by decide +kernel
theorem dL_law_878 : decode cL_law 878 = .ok (.if_icmp .ne 38, 3) := by decide +kernel
theorem dL_law_881 : decode cL_law 881 = .ok (.aload_n 1, 1) := by decide +kernel
theorem dL_law_882 : decode cL_law 882 = .ok (.iload 19, 2) := by decide +kernel
theorem dL_law_884 : decode cL_law 884 = .ok (.iload 20, 2) := by decide +kernel
theorem dL_law_886 : decode cL_law 886 = .ok (.iconst 2, 1) := by decide +kernel
theorem dL_law_887 : decode cL_law 887 = .ok (.invokevirtual 91, 3) := by decide +kernel
theorem dL_law_890 : decode cL_law 890 = .ok (.bipush 9, 2) := by decide +kernel
theorem dL_law_892 : decode cL_law 892 = .ok (.aload 7, 2) := by decide +kernel
theorem dL_law_894 : decode cL_law 894 = .ok (.iload 18, 2) := by decide +kernel
theorem dL_law_896 : decode cL_law 896 = .ok (.iaload, 1) := by decide +kernel
theorem dL_law_897 : decode cL_law 897 = .ok (.iload 22, 2) := by decide +kernel
theorem dL_law_899 : decode cL_law 899 = .ok (.bipush 6, 2) := by decide +kernel
theorem dL_law_901 : decode cL_law 901 = .ok (.if_icmp .lt 7, 3) := by decide +kernel
theorem dL_law_904 : decode cL_law 904 = .ok (.iconst 1, 1) := by decide +kernel
theorem dL_law_905 : decode cL_law 905 = .ok (.goto 4, 3) := by decide +kernel
theorem dL_law_908 : decode cL_law 908 = .ok (.iconst 0, 1) := by decide +kernel
theorem dL_law_909 : decode cL_law 909 = .ok (.iadd, 1) := by decide +kernel
theorem dL_law_910 : decode cL_law 910 = .ok (.invokestatic 121, 3) := by decide +kernel
theorem dL_law_913 : decode cL_law 913 = .ok (.if_icmp .eq 5, 3) := by decide +kernel
theorem dL_law_916 : decode cL_law 916 = .ok (.iconst 0, 1) := by decide +kernel
theorem dL_law_917 : decode cL_law 917 = .ok (.ireturn, 1) := by decide +kernel
theorem dL_law_918 : decode cL_law 918 = .ok (.iinc 18 1, 3) := by decide +kernel
theorem dL_law_921 : decode cL_law 921 = .ok (.goto (-169), 3) := by decide +kernel
theorem dL_law_924 : decode cL_law 924 = .ok (.iload 14, 2) := by decide +kernel
theorem dL_law_926 : decode cL_law 926 = .ok (.iload 11, 2) := by decide +kernel
theorem dL_law_928 : decode cL_law 928 = .ok (.if_icmp .ne 48, 3) := by decide +kernel
theorem dL_law_931 : decode cL_law 931 = .ok (.iload 15, 2) := by decide +kernel
theorem dL_law_933 : decode cL_law 933 = .ok (.iload 12, 2) := by decide +kernel
theorem dL_law_935 : decode cL_law 935 = .ok (.if_icmp .ne 41, 3) := by decide +kernel
theorem dL_law_938 : decode cL_law 938 = .ok (.aload_n 1, 1) := by decide +kernel
theorem dL_law_939 : decode cL_law 939 = .ok (.iconst 4, 1) := by decide +kernel
theorem dL_law_940 : decode cL_law 940 = .ok (.invokevirtual 84, 3) := by decide +kernel
theorem dL_law_943 : decode cL_law 943 = .ok (.iload 16, 2) := by decide +kernel
theorem dL_law_945 : decode cL_law 945 = .ok (.if_icmp .ne 31, 3) := by decide +kernel
theorem dL_law_948 : decode cL_law 948 = .ok (.aload_n 1, 1) := by decide +kernel
theorem dL_law_949 : decode cL_law 949 = .ok (.aload 8, 2) := by decide +kernel
theorem dL_law_951 : decode cL_law 951 = .ok (.iconst 3, 1) := by decide +kernel
theorem dL_law_952 : decode cL_law 952 = .ok (.iaload, 1) := by decide +kernel
theorem dL_law_953 : decode cL_law 953 = .ok (.invokevirtual 126, 3) := by decide +kernel
theorem dL_law_956 : decode cL_law 956 = .ok (.iload 17, 2) := by decide +kernel
theorem dL_law_958 : decode cL_law 958 = .ok (.if_icmp .ne 18, 3) := by decide +kernel
theorem dL_law_961 : decode cL_law 961 = .ok (.aload_n 1, 1) := by decide +kernel
theorem dL_law_962 : decode cL_law 962 = .ok (.invokevirtual 129, 3) := by decide +kernel
theorem dL_law_965 : decode cL_law 965 = .ok (.iload 16, 2) := by decide +kernel
theorem dL_law_967 : decode cL_law 967 = .ok (.i2d, 1) := by decide +kernel
theorem dL_law_968 : decode cL_law 968 = .ok (.ldc2_w 133, 3) := by decide +kernel
theorem dL_law_971 : decode cL_law 971 = .ok (.ddiv, 1) := by decide +kernel
theorem dL_law_972 : decode cL_law 972 = .ok (.dcmp .l, 1) := by decide +kernel
theorem dL_law_973 : decode cL_law 973 = .ok (.ifCond .eq 5, 3) := by decide +kernel
theorem dL_law_976 : decode cL_law 976 = .ok (.iconst 0, 1) := by decide +kernel
theorem dL_law_977 : decode cL_law 977 = .ok (.ireturn, 1) := by decide +kernel
theorem dL_law_978 : decode cL_law 978 = .ok (.aload_n 1, 1) := by decide +kernel
theorem dL_law_979 : decode cL_law 979 = .ok (.invokevirtual 135, 3) := by decide +kernel
theorem dL_law_982 : decode cL_law 982 = .ok (.istore 18, 2) := by decide +kernel
theorem dL_law_984 : decode cL_law 984 = .ok (.iload 4, 2) := by decide +kernel
theorem dL_law_986 : decode cL_law 986 = .ok (.iconst 3, 1) := by decide +kernel
theorem dL_law_987 : decode cL_law 987 = .ok (.ishr, 1) := by decide +kernel
theorem dL_law_988 : decode cL_law 988 = .ok (.bipush 8, 2) := by decide +kernel
theorem dL_law_990 : decode cL_law 990 = .ok (.invokestatic 40, 3) := by decide +kernel
theorem dL_law_993 : decode cL_law 993 = .ok (.istore 19, 2) := by decide +kernel
theorem dL_law_995 : decode cL_law 995 = .ok (.iload 4, 2) := by decide +kernel
theorem dL_law_997 : decode cL_law 997 = .ok (.iconst 5, 1) := by decide +kernel
theorem dL_law_998 : decode cL_law 998 = .ok (.ishr, 1) := by decide +kernel
theorem dL_law_999 : decode cL_law 999 = .ok (.bipush 9, 2) := by decide +kernel
theorem dL_law_1001 : decode cL_law 1001 = .ok (.invokestatic 40, 3) := by decide +kernel
theorem dL_law_1004 : decode cL_law 1004 = .ok (.istore 20, 2) := by decide +kernel
theorem dL_law_1006 : decode cL_law 1006 = .ok (.aload_n 1, 1) := by decide +kernel
theorem dL_law_1007 : decode cL_law 1007 = .ok (.iload 19, 2) := by decide +kernel
theorem dL_law_1009 : decode cL_law 1009 = .ok (.iload 20, 2) := by decide +kernel
theorem dL_law_1011 : decode cL_law 1011 = .ok (.iconst 4, 1) := by decide +kernel
theorem dL_law_1012 : decode cL_law 1012 = .ok (.invokevirtual 139, 3) := by decide +kernel
theorem dL_law_1015 : decode cL_law 1015 = .ok (.istore 21, 2) := by decide +kernel
theorem dL_law_1017 : decode cL_law 1017 = .ok (.iload 21, 2) := by decide +kernel
theorem dL_law_1019 : decode cL_law 1019 = .ok (.ifCond .lt 33, 3) := by decide +kernel
theorem dL_law_1022 : decode cL_law 1022 = .ok (.iload 21, 2) := by decide +kernel
theorem dL_law_1024 : decode cL_law 1024 = .ok (.iload 14, 2) := by decide +kernel
theorem dL_law_1026 : decode cL_law 1026 = .ok (.if_icmp .gt 26, 3) := by decide +kernel
theorem dL_law_1029 : decode cL_law 1029 = .ok (.iload 18, 2) := by decide +kernel
theorem dL_law_1031 : decode cL_law 1031 = .ok (.ifCond .lt 23, 3) := by decide +kernel
theorem dL_law_1034 : decode cL_law 1034 = .ok (.aload_n 1, 1) := by decide +kernel
theorem dL_law_1035 : decode cL_law 1035 = .ok (.iload 18, 2) := by decide +kernel
theorem dL_law_1037 : decode cL_law 1037 = .ok (.bipush 100, 2) := by decide +kernel
theorem dL_law_1039 : decode cL_law 1039 = .ok (.idiv, 1) := by decide +kernel
theorem dL_law_1040 : decode cL_law 1040 = .ok (.iload 18, 2) := by decide +kernel
theorem dL_law_1042 : decode cL_law 1042 = .ok (.bipush 100, 2) := by decide +kernel
theorem dL_law_1044 : decode cL_law 1044 = .ok (.irem, 1) := by decide +kernel
theorem dL_law_1045 : decode cL_law 1045 = .ok (.iconst 4, 1) := by decide +kernel
theorem dL_law_1046 : decode cL_law 1046 = .ok (.invokevirtual 139, 3) := by decide +kernel
theorem dL_law_1049 : decode cL_law 1049 = .ok (.ifCond .eq 5, 3) := by decide +kernel
theorem dL_law_1052 : decode cL_law 1052 = .ok (.iconst 0, 1) := by decide +kernel
theorem dL_law_1053 : decode cL_law 1053 = .ok (.ireturn, 1) := by decide +kernel
theorem dL_law_1054 : decode cL_law 1054 = .ok (.iload 21, 2) := by decide +kernel
theorem dL_law_1056 : decode cL_law 1056 = .ok (.ifCond .ne 72, 3) := by decide +kernel
theorem dL_law_1059 : decode cL_law 1059 = .ok (.aload_n 1, 1) := by decide +kernel
theorem dL_law_1060 : decode cL_law 1060 = .ok (.iconst 1, 1) := by decide +kernel
theorem dL_law_1061 : decode cL_law 1061 = .ok (.invokevirtual 84, 3) := by decide +kernel
theorem dL_law_1064 : decode cL_law 1064 = .ok (.sipush 190, 3) := by decide +kernel
theorem dL_law_1067 : decode cL_law 1067 = .ok (.if_icmp .ge 61, 3) := by decide +kernel
theorem dL_law_1070 : decode cL_law 1070 = .ok (.iload 14, 2) := by decide +kernel
theorem dL_law_1072 : decode cL_law 1072 = .ok (.bipush 60, 2) := by decide +kernel
theorem dL_law_1074 : decode cL_law 1074 = .ok (.if_icmp .ge 54, 3) := by decide +kernel
theorem dL_law_1077 : decode cL_law 1077 = .ok (.aload_n 1, 1) := by decide +kernel
theorem dL_law_1078 : decode cL_law 1078 = .ok (.bipush 9, 2) := by decide +kernel
theorem dL_law_1080 : decode cL_law 1080 = .ok (.invokevirtual 126, 3) := by decide +kernel
theorem dL_law_1083 : decode cL_law 1083 = .ok (.istore 22, 2) := by decide +kernel
theorem dL_law_1085 : decode cL_law 1085 = .ok (.aload_n 1, 1) := by decide +kernel
theorem dL_law_1086 : decode cL_law 1086 = .ok (.iload 19, 2) := by decide +kernel
theorem dL_law_1088 : decode cL_law 1088 = .ok (.iload 20, 2) := by decide +kernel
theorem dL_law_1090 : decode cL_law 1090 = .ok (.iconst 4, 1) := by decide +kernel
theorem dL_law_1091 : decode cL_law 1091 = .ok (.iconst 2, 1) := by decide +kernel
theorem dL_law_1092 : decode cL_law 1092 = .ok (.invokevirtual 27, 3) := by decide +kernel
theorem dL_law_1095 : decode cL_law 1095 = .ok (.aload_n 1, 1) := by decide +kernel
theorem dL_law_1096 : decode cL_law 1096 = .ok (.iconst 1, 1) := by decide +kernel
theorem dL_law_1097 : decode cL_law 1097 = .ok (.invokevirtual 84, 3) := by decide +kernel
theorem dL_law_1100 : decode cL_law 1100 = .ok (.iconst 1, 1) := by decide +kernel
theorem dL_law_1101 : decode cL_law 1101 = .ok (.isub, 1) := by decide +kernel
theorem dL_law_1102 : decode cL_law 1102 = .ok (.if_icmp .ne 14, 3) := by decide +kernel
theorem dL_law_1105 : decode cL_law 1105 = .ok (.aload_n 1, 1) := by decide +kernel
theorem dL_law_1106 : decode cL_law 1106 = .ok (.bipush 9, 2) := by decide +kernel
theorem dL_law_1108 : decode cL_law 1108 = .ok (.invokevirtual 126, 3) := by decide +kernel
theorem dL_law_1111 : decode cL_law 1111 = .ok (.iload 22, 2) := by decide +kernel
theorem dL_law_1113 : decode cL_law 1113 = .ok (.if_icmp .le 5, 3) := by decide +kernel
theorem dL_law_1116 : decode cL_law 1116 = .ok (.iconst 0, 1) := by decide +kernel
theorem dL_law_1117 : decode cL_law 1117 = .ok (.ireturn, 1) := by decide +kernel
theorem dL_law_1118 : decode cL_law 1118 = .ok (.aload_n 2, 1) := by decide +kernel
theorem dL_law_1119 : decode cL_law 1119 = .ok (.iload 19, 2) := by decide +kernel
theorem dL_law_1121 : decode cL_law 1121 = .ok (.iload 20, 2) := by decide +kernel
theorem dL_law_1123 : decode cL_law 1123 = .ok (.iconst 4, 1) := by decide +kernel
theorem dL_law_1124 : decode cL_law 1124 = .ok (.iconst 2, 1) := by decide +kernel
theorem dL_law_1125 : decode cL_law 1125 = .ok (.invokevirtual 23, 3) := by decide +kernel
theorem dL_law_1128 : decode cL_law 1128 = .ok (.iinc 3 1, 3) := by decide +kernel
theorem dL_law_1131 : decode cL_law 1131 = .ok (.goto (-1109), 3) := by decide +kernel
theorem dL_law_1134 : decode cL_law 1134 = .ok (.aload_n 2, 1) := by decide +kernel
theorem dL_law_1135 : decode cL_law 1135 = .ok (.aload_n 1, 1) := by decide +kernel
theorem dL_law_1136 : decode cL_law 1136 = .ok (.invokevirtual 142, 3) := by decide +kernel
theorem dL_law_1139 : decode cL_law 1139 = .ok (.ireturn, 1) := by decide +kernel
abbrev vwCl : List vw_C := [(RX0, TX0, 1), (RX1, TX1, 13), (RX2, TX2, 4), (RX3, TX3, 4), (RX4, TX4, 5)]
