def RX0 : String := "SlateRoofs$Cover"
def TX0 : u_T := fun k => match k with
  | _ => ("SlateRoofs$Cover", "covered", "[Z", true)
def tyX0 : Nat → FieldType := fun k => match k with
  | _ => .array .boolean
theorem nmX0 : ∀ a, a < 1 → ∀ b, b < 1 → a ≠ b → (TX0 a).2.1 ≠ (TX0 b).2.1 := by decide +kernel
theorem tyX0_ok : ∀ k, k < 1 → parseFieldDescriptor (TX0 k).2.2.1 = some (tyX0 k) := by decide +kernel
abbrev cX0_init : ByteArray := prog_2_method_1_code
def yX0_init : MethodName := ⟨RX0, "<init>", "()V"⟩
abbrev cX0_readFrom : ByteArray := prog_2_method_2_code
def yX0_readFrom : MethodName := ⟨RX0, "readFrom", "(LSlateRoofs$Roof;)V"⟩
abbrev cX0_addSlate : ByteArray := prog_2_method_3_code
def yX0_addSlate : MethodName := ⟨RX0, "addSlate", "(III)V"⟩
abbrev cX0_coverOne : ByteArray := prog_2_method_4_code
def yX0_coverOne : MethodName := ⟨RX0, "coverOne", "(II)V"⟩
abbrev cX0_comesIn : ByteArray := prog_2_method_5_code
def yX0_comesIn : MethodName := ⟨RX0, "comesIn", "(IIII)I"⟩
abbrev cX0_comesInAt : ByteArray := prog_2_method_6_code
def yX0_comesInAt : MethodName := ⟨RX0, "comesInAt", "(III)I"⟩
abbrev cX0_comesInAtAll : ByteArray := prog_2_method_7_code
def yX0_comesInAtAll : MethodName := ⟨RX0, "comesInAtAll", "(I)I"⟩
def RX1 : String := "SlateRoofs$Roof"
def TX1 : u_T := fun k => match k with
  | 0 => ("SlateRoofs$Roof", "numbers", "[I", true)
  | 1 => ("SlateRoofs$Roof", "rot", "[I", true)
  | 2 => ("SlateRoofs$Roof", "rows", "[I", true)
  | 3 => ("SlateRoofs$Roof", "froms", "[I", true)
  | 4 => ("SlateRoofs$Roof", "wides", "[I", true)
  | 5 => ("SlateRoofs$Roof", "nails", "[I", true)
  | 6 => ("SlateRoofs$Roof", "cracked", "[Z", true)
  | 7 => ("SlateRoofs$Roof", "onRoof", "[Z", true)
  | 8 => ("SlateRoofs$Roof", "goes", "[Z", true)
  | 9 => ("SlateRoofs$Roof", "day", "I", false)
  | 10 => ("SlateRoofs$Roof", "laid", "I", false)
  | 11 => ("SlateRoofs$Roof", "there", "I", false)
  | _ => ("SlateRoofs$Roof", "blownAway", "I", false)
def tyX1 : Nat → FieldType := fun k => match k with
  | 0 => .array .int
  | 1 => .array .int
  | 2 => .array .int
  | 3 => .array .int
  | 4 => .array .int
  | 5 => .array .int
  | 6 => .array .boolean
  | 7 => .array .boolean
  | 8 => .array .boolean
  | 9 => .int
  | 10 => .int
  | 11 => .int
  | _ => .int
theorem nmX1 : ∀ a, a < 13 → ∀ b, b < 13 → a ≠ b → (TX1 a).2.1 ≠ (TX1 b).2.1 := by decide +kernel
theorem tyX1_ok : ∀ k, k < 13 → parseFieldDescriptor (TX1 k).2.2.1 = some (tyX1 k) := by decide +kernel
abbrev cX1_init : ByteArray := prog_3_method_1_code
def yX1_init : MethodName := ⟨RX1, "<init>", "()V"⟩
abbrev cX1_copyFrom : ByteArray := prog_3_method_2_code
def yX1_copyFrom : MethodName := ⟨RX1, "copyFrom", "(LSlateRoofs$Roof;)V"⟩
abbrev cX1_isKnown : ByteArray := prog_3_method_3_code
def yX1_isKnown : MethodName := ⟨RX1, "isKnown", "(I)Z"⟩
abbrev cX1_isThere : ByteArray := prog_3_method_4_code
def yX1_isThere : MethodName := ⟨RX1, "isThere", "(I)Z"⟩
abbrev cX1_isOpen : ByteArray := prog_3_method_5_code
def yX1_isOpen : MethodName := ⟨RX1, "isOpen", "(I)Z"⟩
abbrev cX1_numberAt : ByteArray := prog_3_method_6_code
def yX1_numberAt : MethodName := ⟨RX1, "numberAt", "(II)I"⟩
abbrev cX1_rotAt : ByteArray := prog_3_method_7_code
def yX1_rotAt : MethodName := ⟨RX1, "rotAt", "(II)I"⟩
abbrev cX1_setNumbers : ByteArray := prog_3_method_8_code
def yX1_setNumbers : MethodName := ⟨RX1, "setNumbers", "(IIII)V"⟩
abbrev cX1_setRot : ByteArray := prog_3_method_9_code
def yX1_setRot : MethodName := ⟨RX1, "setRot", "(III)V"⟩
abbrev cX1_nailsOf : ByteArray := prog_3_method_10_code
def yX1_nailsOf : MethodName := ⟨RX1, "nailsOf", "(I)I"⟩
abbrev cX1_setNails : ByteArray := prog_3_method_11_code
def yX1_setNails : MethodName := ⟨RX1, "setNails", "(II)V"⟩
abbrev cX1_isFree : ByteArray := prog_3_method_12_code
def yX1_isFree : MethodName := ⟨RX1, "isFree", "(III)Z"⟩
abbrev cX1_add : ByteArray := prog_3_method_13_code
def yX1_add : MethodName := ⟨RX1, "add", "(IIII)I"⟩
abbrev cX1_remove : ByteArray := prog_3_method_14_code
def yX1_remove : MethodName := ⟨RX1, "remove", "(I)V"⟩
abbrev cX1_tellSlate : ByteArray := prog_3_method_15_code
def yX1_tellSlate : MethodName := ⟨RX1, "tellSlate", "(II)I"⟩
abbrev cX1_uponIt : ByteArray := prog_3_method_16_code
def yX1_uponIt : MethodName := ⟨RX1, "uponIt", "(I)I"⟩
abbrev cX1_holdOf : ByteArray := prog_3_method_17_code
def yX1_holdOf : MethodName := ⟨RX1, "holdOf", "(I)I"⟩
abbrev cX1_isOnRot : ByteArray := prog_3_method_18_code
def yX1_isOnRot : MethodName := ⟨RX1, "isOnRot", "(I)Z"⟩
abbrev cX1_liftOf : ByteArray := prog_3_method_19_code
def yX1_liftOf : MethodName := ⟨RX1, "liftOf", "(IIZ)I"⟩
abbrev cX1_blow : ByteArray := prog_3_method_20_code
def yX1_blow : MethodName := ⟨RX1, "blow", "(IZ)I"⟩
abbrev cX1_markLifted : ByteArray := prog_3_method_21_code
def yX1_markLifted : MethodName := ⟨RX1, "markLifted", "(IZ)I"⟩
abbrev cX1_removeMarked : ByteArray := prog_3_method_22_code
def yX1_removeMarked : MethodName := ⟨RX1, "removeMarked", "()I"⟩
abbrev cX1_crackBy : ByteArray := prog_3_method_23_code
def yX1_crackBy : MethodName := ⟨RX1, "crackBy", "(I)V"⟩
abbrev cX1_isBareSomewhere : ByteArray := prog_3_method_24_code
def yX1_isBareSomewhere : MethodName := ⟨RX1, "isBareSomewhere", "(I)Z"⟩
abbrev cX1_rotBy : ByteArray := prog_3_method_25_code
def yX1_rotBy : MethodName := ⟨RX1, "rotBy", "(LSlateRoofs$Cover;I)V"⟩
abbrev cX1_isWholeAt : ByteArray := prog_3_method_26_code
def yX1_isWholeAt : MethodName := ⟨RX1, "isWholeAt", "(II)Z"⟩
abbrev cX1_isCovered : ByteArray := prog_3_method_27_code
def yX1_isCovered : MethodName := ⟨RX1, "isCovered", "(II)Z"⟩
abbrev cX1_coveredPlaces : ByteArray := prog_3_method_28_code
def yX1_coveredPlaces : MethodName := ⟨RX1, "coveredPlaces", "()I"⟩
abbrev cX1_crackedThere : ByteArray := prog_3_method_29_code
def yX1_crackedThere : MethodName := ⟨RX1, "crackedThere", "()I"⟩
abbrev cX1_allRot : ByteArray := prog_3_method_30_code
def yX1_allRot : MethodName := ⟨RX1, "allRot", "()I"⟩
abbrev cX1_inTheWay : ByteArray := prog_3_method_31_code
def yX1_inTheWay : MethodName := ⟨RX1, "inTheWay", "(III)I"⟩
abbrev cX1_isGoing : ByteArray := prog_3_method_32_code
def yX1_isGoing : MethodName := ⟨RX1, "isGoing", "(I)Z"⟩
abbrev cX1_letGo : ByteArray := prog_3_method_33_code
def yX1_letGo : MethodName := ⟨RX1, "letGo", "(I)I"⟩
def RX2 : String := "SlateRoofs$Table"
def TX2 : u_T := fun k => match k with
  | 0 => ("SlateRoofs$Table", "forces", "[I", true)
  | 1 => ("SlateRoofs$Table", "fromRights", "[Z", true)
  | 2 => ("SlateRoofs$Table", "hails", "[I", true)
  | _ => ("SlateRoofs$Table", "rains", "[I", true)
def tyX2 : Nat → FieldType := fun k => match k with
  | 0 => .array .int
  | 1 => .array .boolean
  | 2 => .array .int
  | _ => .array .int
theorem nmX2 : ∀ a, a < 4 → ∀ b, b < 4 → a ≠ b → (TX2 a).2.1 ≠ (TX2 b).2.1 := by decide +kernel
theorem tyX2_ok : ∀ k, k < 4 → parseFieldDescriptor (TX2 k).2.2.1 = some (tyX2 k) := by decide +kernel
abbrev cX2_init : ByteArray := prog_4_method_1_code
def yX2_init : MethodName := ⟨RX2, "<init>", "()V"⟩
abbrev cX2_isDay : ByteArray := prog_4_method_2_code
def yX2_isDay : MethodName := ⟨RX2, "isDay", "(I)Z"⟩
abbrev cX2_write : ByteArray := prog_4_method_3_code
def yX2_write : MethodName := ⟨RX2, "write", "(IIZII)V"⟩
abbrev cX2_told : ByteArray := prog_4_method_4_code
def yX2_told : MethodName := ⟨RX2, "told", "(I)I"⟩
abbrev cX2_forceOf : ByteArray := prog_4_method_5_code
def yX2_forceOf : MethodName := ⟨RX2, "forceOf", "(I)I"⟩
abbrev cX2_isFromRight : ByteArray := prog_4_method_6_code
def yX2_isFromRight : MethodName := ⟨RX2, "isFromRight", "(I)Z"⟩
abbrev cX2_hailOf : ByteArray := prog_4_method_7_code
def yX2_hailOf : MethodName := ⟨RX2, "hailOf", "(I)I"⟩
abbrev cX2_rainOf : ByteArray := prog_4_method_8_code
def yX2_rainOf : MethodName := ⟨RX2, "rainOf", "(I)I"⟩
def RX3 : String := "SlateRoofs"
def TX3 : u_T := fun k => match k with
  | 0 => ("SlateRoofs", "roof", "LSlateRoofs$Roof;", true)
  | 1 => ("SlateRoofs", "trial", "LSlateRoofs$Roof;", true)
  | 2 => ("SlateRoofs", "cover", "LSlateRoofs$Cover;", true)
  | _ => ("SlateRoofs", "table", "LSlateRoofs$Table;", true)
def tyX3 : Nat → FieldType := fun k => match k with
  | 0 => .object "SlateRoofs$Roof"
  | 1 => .object "SlateRoofs$Roof"
  | 2 => .object "SlateRoofs$Cover"
  | _ => .object "SlateRoofs$Table"
theorem nmX3 : ∀ a, a < 4 → ∀ b, b < 4 → a ≠ b → (TX3 a).2.1 ≠ (TX3 b).2.1 := by decide +kernel
theorem tyX3_ok : ∀ k, k < 4 → parseFieldDescriptor (TX3 k).2.2.1 = some (tyX3 k) := by decide +kernel
abbrev cX3_init : ByteArray := prog_1_method_1_code
def yX3_init : MethodName := ⟨RX3, "<init>", "()V"⟩
abbrev cX3_lay : ByteArray := prog_1_method_2_code
def yX3_lay : MethodName := ⟨RX3, "lay", "(IIII)I"⟩
abbrev cX3_take : ByteArray := prog_1_method_3_code
def yX3_take : MethodName := ⟨RX3, "take", "(I)I"⟩
abbrev cX3_nail : ByteArray := prog_1_method_4_code
def yX3_nail : MethodName := ⟨RX3, "nail", "(II)I"⟩
abbrev cX3_board : ByteArray := prog_1_method_5_code
def yX3_board : MethodName := ⟨RX3, "board", "(II)I"⟩
abbrev cX3_setDay : ByteArray := prog_1_method_6_code
def yX3_setDay : MethodName := ⟨RX3, "setDay", "(IIZII)I"⟩
abbrev cX3_slate : ByteArray := prog_1_method_7_code
def yX3_slate : MethodName := ⟨RX3, "slate", "(II)I"⟩
abbrev cX3_place : ByteArray := prog_1_method_8_code
def yX3_place : MethodName := ⟨RX3, "place", "(III)I"⟩
abbrev cX3_count : ByteArray := prog_1_method_9_code
def yX3_count : MethodName := ⟨RX3, "count", "(I)I"⟩
abbrev cX3_lift : ByteArray := prog_1_method_10_code
def yX3_lift : MethodName := ⟨RX3, "lift", "(IIZ)I"⟩
abbrev cX3_storm : ByteArray := prog_1_method_11_code
def yX3_storm : MethodName := ⟨RX3, "storm", "(IZI)I"⟩
abbrev cX3_bears : ByteArray := prog_1_method_12_code
def yX3_bears : MethodName := ⟨RX3, "bears", "(Z)I"⟩
abbrev cX3_comes : ByteArray := prog_1_method_13_code
def yX3_comes : MethodName := ⟨RX3, "comes", "(III)I"⟩
abbrev cX3_leaks : ByteArray := prog_1_method_14_code
def yX3_leaks : MethodName := ⟨RX3, "leaks", "(I)I"⟩
abbrev cX3_needs : ByteArray := prog_1_method_15_code
def yX3_needs : MethodName := ⟨RX3, "needs", "(III)I"⟩
abbrev cX3_best : ByteArray := prog_1_method_16_code
def yX3_best : MethodName := ⟨RX3, "best", "()I"⟩
abbrev cX3_pass : ByteArray := prog_1_method_17_code
def yX3_pass : MethodName := ⟨RX3, "pass", "(I)I"⟩
abbrev cX3_foresee : ByteArray := prog_1_method_18_code
def yX3_foresee : MethodName := ⟨RX3, "foresee", "(II)I"⟩
abbrev cX3_share : ByteArray := prog_1_method_19_code
def yX3_share : MethodName := ⟨RX3, "share", "()D"⟩
abbrev cX3_digest : ByteArray := prog_1_method_20_code
def yX3_digest : MethodName := ⟨RX3, "digest", "()J"⟩
abbrev cX3_comesInWith : ByteArray := prog_1_method_21_code
def yX3_comesInWith : MethodName := ⟨RX3, "comesInWith", "(III)I"⟩
abbrev cX3_letGoBy : ByteArray := prog_1_method_22_code
def yX3_letGoBy : MethodName := ⟨RX3, "letGoBy", "(LSlateRoofs$Roof;I)V"⟩
abbrev cX3_isUpTo : ByteArray := prog_1_method_23_code
def yX3_isUpTo : MethodName := ⟨RX3, "isUpTo", "(II)Z"⟩
abbrev cX3_isPlace : ByteArray := prog_1_method_24_code
def yX3_isPlace : MethodName := ⟨RX3, "isPlace", "(II)Z"⟩
abbrev cX3_fits : ByteArray := prog_1_method_25_code
def yX3_fits : MethodName := ⟨RX3, "fits", "(III)Z"⟩
abbrev cX3_isNails : ByteArray := prog_1_method_26_code
def yX3_isNails : MethodName := ⟨RX3, "isNails", "(I)Z"⟩
abbrev cX3_isDays : ByteArray := prog_1_method_27_code
def yX3_isDays : MethodName := ⟨RX3, "isDays", "(I)Z"⟩
def RX4 : String := "SlateRoofsModel"
def TX4 : u_T := fun k => match k with
  | 0 => ("SlateRoofsModel", "thrown", "I", false)
  | 1 => ("SlateRoofsModel", "slates", "I", false)
  | 2 => ("SlateRoofsModel", "stock", "[I", true)
  | 3 => ("SlateRoofsModel", "at", "[I", true)
  | 4 => ("SlateRoofsModel", "rot", "[I", true)
  | 5 => ("SlateRoofsModel", "table", "[I", true)
  | 6 => ("SlateRoofsModel", "numbers", "[I", true)
  | _ => ("SlateRoofsModel", "marked", "[Z", true)
def tyX4 : Nat → FieldType := fun k => match k with
  | 0 => .int
  | 1 => .int
  | 2 => .array .int
  | 3 => .array .int
  | 4 => .array .int
  | 5 => .array .int
  | 6 => .array .int
  | _ => .array .boolean
theorem nmX4 : ∀ a, a < 8 → ∀ b, b < 8 → a ≠ b → (TX4 a).2.1 ≠ (TX4 b).2.1 := by decide +kernel
theorem tyX4_ok : ∀ k, k < 8 → parseFieldDescriptor (TX4 k).2.2.1 = some (tyX4 k) := by decide +kernel
abbrev cX4_init : ByteArray := prog_6_method_1_code
def yX4_init : MethodName := ⟨RX4, "<init>", "()V"⟩
abbrev cX4_thrown : ByteArray := prog_6_method_2_code
def yX4_thrown : MethodName := ⟨RX4, "thrown", "()I"⟩
abbrev cX4_fail : ByteArray := prog_6_method_3_code
def yX4_fail : MethodName := ⟨RX4, "fail", "(I)I"⟩
abbrev cX4_isIn : ByteArray := prog_6_method_4_code
def yX4_isIn : MethodName := ⟨RX4, "isIn", "(III)Z"⟩
abbrev cX4_isSlate : ByteArray := prog_6_method_5_code
def yX4_isSlate : MethodName := ⟨RX4, "isSlate", "(I)Z"⟩
abbrev cX4_isPlace : ByteArray := prog_6_method_6_code
def yX4_isPlace : MethodName := ⟨RX4, "isPlace", "(II)Z"⟩
abbrev cX4_isSpan : ByteArray := prog_6_method_7_code
def yX4_isSpan : MethodName := ⟨RX4, "isSpan", "(III)Z"⟩
abbrev cX4_st : ByteArray := prog_6_method_8_code
def yX4_st : MethodName := ⟨RX4, "st", "(II)I"⟩
abbrev cX4_put : ByteArray := prog_6_method_9_code
def yX4_put : MethodName := ⟨RX4, "put", "(III)V"⟩
abbrev cX4_isOn : ByteArray := prog_6_method_10_code
def yX4_isOn : MethodName := ⟨RX4, "isOn", "(I)Z"⟩
abbrev cX4_slateAt : ByteArray := prog_6_method_11_code
def yX4_slateAt : MethodName := ⟨RX4, "slateAt", "(II)I"⟩
abbrev cX4_slatesIn : ByteArray := prog_6_method_12_code
def yX4_slatesIn : MethodName := ⟨RX4, "slatesIn", "(III)I"⟩
abbrev cX4_upon : ByteArray := prog_6_method_13_code
def yX4_upon : MethodName := ⟨RX4, "upon", "(I)I"⟩
abbrev cX4_mark : ByteArray := prog_6_method_14_code
def yX4_mark : MethodName := ⟨RX4, "mark", "(II)V"⟩
abbrev cX4_onRoof : ByteArray := prog_6_method_15_code
def yX4_onRoof : MethodName := ⟨RX4, "onRoof", "()I"⟩
abbrev cX4_isFree : ByteArray := prog_6_method_16_code
def yX4_isFree : MethodName := ⟨RX4, "isFree", "(III)Z"⟩
abbrev cX4_lay : ByteArray := prog_6_method_17_code
def yX4_lay : MethodName := ⟨RX4, "lay", "(IIII)I"⟩
abbrev cX4_off : ByteArray := prog_6_method_18_code
def yX4_off : MethodName := ⟨RX4, "off", "(I)V"⟩
abbrev cX4_take : ByteArray := prog_6_method_19_code
def yX4_take : MethodName := ⟨RX4, "take", "(I)I"⟩
abbrev cX4_nail : ByteArray := prog_6_method_20_code
def yX4_nail : MethodName := ⟨RX4, "nail", "(II)I"⟩
abbrev cX4_board : ByteArray := prog_6_method_21_code
def yX4_board : MethodName := ⟨RX4, "board", "(II)I"⟩
abbrev cX4_dayTold : ByteArray := prog_6_method_22_code
def yX4_dayTold : MethodName := ⟨RX4, "dayTold", "(I)I"⟩
abbrev cX4_setDay : ByteArray := prog_6_method_23_code
def yX4_setDay : MethodName := ⟨RX4, "setDay", "(IIZII)I"⟩
abbrev cX4_hold : ByteArray := prog_6_method_24_code
def yX4_hold : MethodName := ⟨RX4, "hold", "(I)I"⟩
abbrev cX4_slateTold : ByteArray := prog_6_method_25_code
def yX4_slateTold : MethodName := ⟨RX4, "slateTold", "(II)I"⟩
abbrev cX4_slate : ByteArray := prog_6_method_26_code
def yX4_slate : MethodName := ⟨RX4, "slate", "(II)I"⟩
abbrev cX4_isWhole : ByteArray := prog_6_method_27_code
def yX4_isWhole : MethodName := ⟨RX4, "isWhole", "(II)Z"⟩
abbrev cX4_isCovered : ByteArray := prog_6_method_28_code
def yX4_isCovered : MethodName := ⟨RX4, "isCovered", "(II)Z"⟩
abbrev cX4_placeTold : ByteArray := prog_6_method_29_code
def yX4_placeTold : MethodName := ⟨RX4, "placeTold", "(III)I"⟩
abbrev cX4_place : ByteArray := prog_6_method_30_code
def yX4_place : MethodName := ⟨RX4, "place", "(III)I"⟩
abbrev cX4_covered : ByteArray := prog_6_method_31_code
def yX4_covered : MethodName := ⟨RX4, "covered", "()I"⟩
abbrev cX4_cracked : ByteArray := prog_6_method_32_code
def yX4_cracked : MethodName := ⟨RX4, "cracked", "()I"⟩
abbrev cX4_allRot : ByteArray := prog_6_method_33_code
def yX4_allRot : MethodName := ⟨RX4, "allRot", "()I"⟩
abbrev cX4_counted : ByteArray := prog_6_method_34_code
def yX4_counted : MethodName := ⟨RX4, "counted", "(I)I"⟩
abbrev cX4_count : ByteArray := prog_6_method_35_code
def yX4_count : MethodName := ⟨RX4, "count", "(I)I"⟩
abbrev cX4_liftOf : ByteArray := prog_6_method_36_code
def yX4_liftOf : MethodName := ⟨RX4, "liftOf", "(IIZ)I"⟩
abbrev cX4_lift : ByteArray := prog_6_method_37_code
def yX4_lift : MethodName := ⟨RX4, "lift", "(IIZ)I"⟩
abbrev cX4_round : ByteArray := prog_6_method_38_code
def yX4_round : MethodName := ⟨RX4, "round", "(IZ)I"⟩
abbrev cX4_blow : ByteArray := prog_6_method_39_code
def yX4_blow : MethodName := ⟨RX4, "blow", "(IZ)I"⟩
abbrev cX4_kept : ByteArray := prog_6_method_40_code
def yX4_kept : MethodName := ⟨RX4, "kept", "()[[I"⟩
abbrev cX4_bringBack : ByteArray := prog_6_method_41_code
def yX4_bringBack : MethodName := ⟨RX4, "bringBack", "([[I)V"⟩
abbrev cX4_would : ByteArray := prog_6_method_42_code
def yX4_would : MethodName := ⟨RX4, "would", "(IZI)I"⟩
abbrev cX4_storm : ByteArray := prog_6_method_43_code
def yX4_storm : MethodName := ⟨RX4, "storm", "(IZI)I"⟩
abbrev cX4_bears : ByteArray := prog_6_method_44_code
def yX4_bears : MethodName := ⟨RX4, "bears", "(Z)I"⟩
abbrev cX4_comesIn : ByteArray := prog_6_method_45_code
def yX4_comesIn : MethodName := ⟨RX4, "comesIn", "(III)I"⟩
abbrev cX4_comes : ByteArray := prog_6_method_46_code
def yX4_comes : MethodName := ⟨RX4, "comes", "(III)I"⟩
abbrev cX4_allIn : ByteArray := prog_6_method_47_code
def yX4_allIn : MethodName := ⟨RX4, "allIn", "(I)I"⟩
abbrev cX4_leaks : ByteArray := prog_6_method_48_code
def yX4_leaks : MethodName := ⟨RX4, "leaks", "(I)I"⟩
abbrev cX4_needs : ByteArray := prog_6_method_49_code
def yX4_needs : MethodName := ⟨RX4, "needs", "(III)I"⟩
abbrev cX4_best : ByteArray := prog_6_method_50_code
def yX4_best : MethodName := ⟨RX4, "best", "()I"⟩
abbrev cX4_with : ByteArray := prog_6_method_51_code
def yX4_with : MethodName := ⟨RX4, "with", "(II)I"⟩
abbrev cX4_hail : ByteArray := prog_6_method_52_code
def yX4_hail : MethodName := ⟨RX4, "hail", "(I)V"⟩
abbrev cX4_wet : ByteArray := prog_6_method_53_code
def yX4_wet : MethodName := ⟨RX4, "wet", "(I)V"⟩
abbrev cX4_dayOn : ByteArray := prog_6_method_54_code
def yX4_dayOn : MethodName := ⟨RX4, "dayOn", "()V"⟩
abbrev cX4_daysOn : ByteArray := prog_6_method_55_code
def yX4_daysOn : MethodName := ⟨RX4, "daysOn", "(I)V"⟩
abbrev cX4_pass : ByteArray := prog_6_method_56_code
def yX4_pass : MethodName := ⟨RX4, "pass", "(I)I"⟩
abbrev cX4_foresee : ByteArray := prog_6_method_57_code
def yX4_foresee : MethodName := ⟨RX4, "foresee", "(II)I"⟩
abbrev cX4_share : ByteArray := prog_6_method_58_code
def yX4_share : MethodName := ⟨RX4, "share", "()D"⟩
abbrev cX4_digest : ByteArray := prog_6_method_59_code
def yX4_digest : MethodName := ⟨RX4, "digest", "()J"⟩
def RJx8e188 : String := "java/lang/Cloneable"
def TJx8e188 : u_T := fun k => match k with
  | _ => ("", "", "", false)
def tyJx8e188 : Nat → FieldType := fun k => match k with
  | _ => .int
theorem nmJx8e188 : ∀ a, a < 0 → ∀ b, b < 0 → a ≠ b → (TJx8e188 a).2.1 ≠ (TJx8e188 b).2.1 := by decide +kernel
theorem tyJx8e188_ok : ∀ k, k < 0 → parseFieldDescriptor (TJx8e188 k).2.2.1 = some (tyJx8e188 k) := by decide +kernel
def RJ9 : String := "java/lang/Math"
def TJ9 : u_T := fun k => match k with
  | _ => ("", "", "", false)
def tyJ9 : Nat → FieldType := fun k => match k with
  | _ => .int
theorem nmJ9 : ∀ a, a < 0 → ∀ b, b < 0 → a ≠ b → (TJ9 a).2.1 ≠ (TJ9 b).2.1 := by decide +kernel
theorem tyJ9_ok : ∀ k, k < 0 → parseFieldDescriptor (TJ9 k).2.2.1 = some (tyJ9 k) := by decide +kernel
abbrev cJ9_floorMod_7cf53 : ByteArray := prog_12_method_50_code
def yJ9_floorMod_7cf53 : MethodName := ⟨RJ9, "floorMod", "(II)I"⟩
abbrev cJ9_min_7cf53 : ByteArray := prog_12_method_69_code
def yJ9_min_7cf53 : MethodName := ⟨RJ9, "min", "(II)I"⟩
def RJ0 : String := "java/lang/String"
def TJ0 : u_T := fun k => match k with
  | _ => ("", "", "", false)
def tyJ0 : Nat → FieldType := fun k => match k with
  | _ => .int
theorem nmJ0 : ∀ a, a < 0 → ∀ b, b < 0 → a ≠ b → (TJ0 a).2.1 ≠ (TJ0 b).2.1 := by decide +kernel
theorem tyJ0_ok : ∀ k, k < 0 → parseFieldDescriptor (TJ0 k).2.2.1 = some (tyJ0 k) := by decide +kernel
def RJ10 : String := "java/lang/System"
def TJ10 : u_T := fun k => match k with
  | _ => ("", "", "", false)
def tyJ10 : Nat → FieldType := fun k => match k with
  | _ => .int
theorem nmJ10 : ∀ a, a < 0 → ∀ b, b < 0 → a ≠ b → (TJ10 a).2.1 ≠ (TJ10 b).2.1 := by decide +kernel
theorem tyJ10_ok : ∀ k, k < 0 → parseFieldDescriptor (TJ10 k).2.2.1 = some (tyJ10 k) := by decide +kernel
def RL : String := "SlateRoofsLaw"
abbrev cL_lay : ByteArray := method_3_code
def yL_lay : MethodName := ⟨RL, "lay", "(LSlateRoofs;IIII[J)I"⟩
abbrev cL_take : ByteArray := method_4_code
def yL_take : MethodName := ⟨RL, "take", "(LSlateRoofs;I[J)I"⟩
abbrev cL_nail : ByteArray := method_5_code
def yL_nail : MethodName := ⟨RL, "nail", "(LSlateRoofs;II[J)I"⟩
abbrev cL_board : ByteArray := method_6_code
def yL_board : MethodName := ⟨RL, "board", "(LSlateRoofs;II[J)I"⟩
abbrev cL_setDay : ByteArray := method_7_code
def yL_setDay : MethodName := ⟨RL, "setDay", "(LSlateRoofs;IIZII[J)I"⟩
abbrev cL_slate : ByteArray := method_8_code
def yL_slate : MethodName := ⟨RL, "slate", "(LSlateRoofs;II[J)I"⟩
abbrev cL_place : ByteArray := method_9_code
def yL_place : MethodName := ⟨RL, "place", "(LSlateRoofs;III[J)I"⟩
abbrev cL_count : ByteArray := method_10_code
def yL_count : MethodName := ⟨RL, "count", "(LSlateRoofs;I[J)I"⟩
abbrev cL_lift : ByteArray := method_11_code
def yL_lift : MethodName := ⟨RL, "lift", "(LSlateRoofs;IIZ[J)I"⟩
abbrev cL_storm : ByteArray := method_12_code
def yL_storm : MethodName := ⟨RL, "storm", "(LSlateRoofs;IZI[J)I"⟩
abbrev cL_comes : ByteArray := method_13_code
def yL_comes : MethodName := ⟨RL, "comes", "(LSlateRoofs;III[J)I"⟩
abbrev cL_leaks : ByteArray := method_14_code
def yL_leaks : MethodName := ⟨RL, "leaks", "(LSlateRoofs;I[J)I"⟩
abbrev cL_needs : ByteArray := method_15_code
def yL_needs : MethodName := ⟨RL, "needs", "(LSlateRoofs;III[J)I"⟩
abbrev cL_pass : ByteArray := method_16_code
def yL_pass : MethodName := ⟨RL, "pass", "(LSlateRoofs;I[J)I"⟩
abbrev cL_foresee : ByteArray := method_17_code
def yL_foresee : MethodName := ⟨RL, "foresee", "(LSlateRoofs;II[J)I"⟩
abbrev cL_law : ByteArray := code
def yL_law : MethodName := ⟨RL, "law", "([I)Z"⟩
theorem dX0_init_0 : decode cX0_init 0 = .ok (.aload_n 0, 1) := by decide +kernel
theorem dX0_init_1 : decode cX0_init 1 = .ok (.invokespecial 3, 3) := by decide +kernel
theorem dX0_init_4 : decode cX0_init 4 = .ok (.aload_n 0, 1) := by decide +kernel
theorem dX0_init_5 : decode cX0_init 5 = .ok (.bipush 96, 2) := by decide +kernel
theorem dX0_init_7 : decode cX0_init 7 = .ok (.newarray .boolean, 2) := by decide +kernel
theorem dX0_init_9 : decode cX0_init 9 = .ok (.putfield 9, 3) := by decide +kernel
theorem dX0_init_12 : decode cX0_init 12 = .ok (.return_, 1) := by decide +kernel
theorem dX0_readFrom_0 : decode cX0_readFrom 0 = .ok (.iconst 0, 1) := by decide +kernel
theorem dX0_readFrom_1 : decode cX0_readFrom 1 = .ok (.istore_n 2, 1) := by decide +kernel
theorem dX0_readFrom_2 : decode cX0_readFrom 2 = .ok (.iload_n 2, 1) := by decide +kernel
theorem dX0_readFrom_3 : decode cX0_readFrom 3 = .ok (.bipush 8, 2) := by decide +kernel
theorem dX0_readFrom_5 : decode cX0_readFrom 5 = .ok (.if_icmp .ge 40, 3) := by decide +kernel
theorem dX0_readFrom_8 : decode cX0_readFrom 8 = .ok (.iconst 0, 1) := by decide +kernel
theorem dX0_readFrom_9 : decode cX0_readFrom 9 = .ok (.istore_n 3, 1) := by decide +kernel
theorem dX0_readFrom_10 : decode cX0_readFrom 10 = .ok (.iload_n 3, 1) := by decide +kernel
theorem dX0_readFrom_11 : decode cX0_readFrom 11 = .ok (.bipush 12, 2) := by decide +kernel
theorem dX0_readFrom_13 : decode cX0_readFrom 13 = .ok (.if_icmp .ge 26, 3) := by decide +kernel
theorem dX0_readFrom_16 : decode cX0_readFrom 16 = .ok (.aload_n 0, 1) := by decide +kernel
theorem dX0_readFrom_17 : decode cX0_readFrom 17 = .ok (.getfield 9, 3) := by decide +kernel
theorem dX0_readFrom_20 : decode cX0_readFrom 20 = .ok (.bipush 12, 2) := by decide +kernel
theorem dX0_readFrom_22 : decode cX0_readFrom 22 = .ok (.iload_n 2, 1) := by decide +kernel
theorem dX0_readFrom_23 : decode cX0_readFrom 23 = .ok (.imul, 1) := by decide +kernel
theorem dX0_readFrom_24 : decode cX0_readFrom 24 = .ok (.iload_n 3, 1) := by decide +kernel
theorem dX0_readFrom_25 : decode cX0_readFrom 25 = .ok (.iadd, 1) := by decide +kernel
theorem dX0_readFrom_26 : decode cX0_readFrom 26 = .ok (.aload_n 1, 1) := by decide +kernel
theorem dX0_readFrom_27 : decode cX0_readFrom 27 = .ok (.iload_n 3, 1) := by decide +kernel
theorem dX0_readFrom_28 : decode cX0_readFrom 28 = .ok (.iload_n 2, 1) := by decide +kernel
theorem dX0_readFrom_29 : decode cX0_readFrom 29 = .ok (.invokevirtual 15, 3) := by decide +kernel
theorem dX0_readFrom_32 : decode cX0_readFrom 32 = .ok (.bastore, 1) := by decide +kernel
theorem dX0_readFrom_33 : decode cX0_readFrom 33 = .ok (.iinc 3 1, 3) := by decide +kernel
theorem dX0_readFrom_36 : decode cX0_readFrom 36 = .ok (.goto (-26), 3) := by decide +kernel
theorem dX0_readFrom_39 : decode cX0_readFrom 39 = .ok (.iinc 2 1, 3) := by decide +kernel
theorem dX0_readFrom_42 : decode cX0_readFrom 42 = .ok (.goto (-40), 3) := by decide +kernel
theorem dX0_readFrom_45 : decode cX0_readFrom 45 = .ok (.return_, 1) := by decide +kernel
theorem dX0_addSlate_0 : decode cX0_addSlate 0 = .ok (.iload_n 2, 1) := by decide +kernel
theorem dX0_addSlate_1 : decode cX0_addSlate 1 = .ok (.istore 4, 2) := by decide +kernel
theorem dX0_addSlate_3 : decode cX0_addSlate 3 = .ok (.iload 4, 2) := by decide +kernel
theorem dX0_addSlate_5 : decode cX0_addSlate 5 = .ok (.iload_n 2, 1) := by decide +kernel
theorem dX0_addSlate_6 : decode cX0_addSlate 6 = .ok (.iload_n 3, 1) := by decide +kernel
theorem dX0_addSlate_7 : decode cX0_addSlate 7 = .ok (.iadd, 1) := by decide +kernel
theorem dX0_addSlate_8 : decode cX0_addSlate 8 = .ok (.if_icmp .ge 25, 3) := by decide +kernel
theorem dX0_addSlate_11 : decode cX0_addSlate 11 = .ok (.aload_n 0, 1) := by decide +kernel
theorem dX0_addSlate_12 : decode cX0_addSlate 12 = .ok (.iload 4, 2) := by decide +kernel
theorem dX0_addSlate_14 : decode cX0_addSlate 14 = .ok (.iload_n 1, 1) := by decide +kernel
theorem dX0_addSlate_15 : decode cX0_addSlate 15 = .ok (.invokevirtual 21, 3) := by decide +kernel
theorem dX0_addSlate_18 : decode cX0_addSlate 18 = .ok (.aload_n 0, 1) := by decide +kernel
theorem dX0_addSlate_19 : decode cX0_addSlate 19 = .ok (.iload 4, 2) := by decide +kernel
theorem dX0_addSlate_21 : decode cX0_addSlate 21 = .ok (.iload_n 1, 1) := by decide +kernel
theorem dX0_addSlate_22 : decode cX0_addSlate 22 = .ok (.iconst 1, 1) := by decide +kernel
theorem dX0_addSlate_23 : decode cX0_addSlate 23 = .ok (.isub, 1) := by decide +kernel
theorem dX0_addSlate_24 : decode cX0_addSlate 24 = .ok (.invokevirtual 21, 3) := by decide +kernel
theorem dX0_addSlate_27 : decode cX0_addSlate 27 = .ok (.iinc 4 1, 3) := by decide +kernel
theorem dX0_addSlate_30 : decode cX0_addSlate 30 = .ok (.goto (-27), 3) := by decide +kernel
theorem dX0_addSlate_33 : decode cX0_addSlate 33 = .ok (.return_, 1) := by decide +kernel
theorem dX0_coverOne_0 : decode cX0_coverOne 0 = .ok (.iload_n 1, 1) := by decide +kernel
theorem dX0_coverOne_1 : decode cX0_coverOne 1 = .ok (.iload_n 2, 1) := by decide +kernel
theorem dX0_coverOne_2 : decode cX0_coverOne 2 = .ok (.invokestatic 25, 3) := by decide +kernel
theorem dX0_coverOne_5 : decode cX0_coverOne 5 = .ok (.ifCond .eq 15, 3) := by decide +kernel
theorem dX0_coverOne_8 : decode cX0_coverOne 8 = .ok (.aload_n 0, 1) := by decide +kernel
theorem dX0_coverOne_9 : decode cX0_coverOne 9 = .ok (.getfield 9, 3) := by decide +kernel
theorem dX0_coverOne_12 : decode cX0_coverOne 12 = .ok (.bipush 12, 2) := by decide +kernel
theorem dX0_coverOne_14 : decode cX0_coverOne 14 = .ok (.iload_n 2, 1) := by decide +kernel
theorem dX0_coverOne_15 : decode cX0_coverOne 15 = .ok (.imul, 1) := by decide +kernel
theorem dX0_coverOne_16 : decode cX0_coverOne 16 = .ok (.iload_n 1, 1) := by decide +kernel
theorem dX0_coverOne_17 : decode cX0_coverOne 17 = .ok (.iadd, 1) := by decide +kernel
theorem dX0_coverOne_18 : decode cX0_coverOne 18 = .ok (.iconst 1, 1) := by decide +kernel
theorem dX0_coverOne_19 : decode cX0_coverOne 19 = .ok (.bastore, 1) := by decide +kernel
theorem dX0_coverOne_20 : decode cX0_coverOne 20 = .ok (.return_, 1) := by decide +kernel
theorem dX0_comesIn_0 : decode cX0_comesIn 0 = .ok (.iload_n 3, 1) := by decide +kernel
theorem dX0_comesIn_1 : decode cX0_comesIn 1 = .ok (.iload 4, 2) := by decide +kernel
theorem dX0_comesIn_3 : decode cX0_comesIn 3 = .ok (.invokestatic 25, 3) := by decide +kernel
theorem dX0_comesIn_6 : decode cX0_comesIn 6 = .ok (.ifCond .eq 18, 3) := by decide +kernel
theorem dX0_comesIn_9 : decode cX0_comesIn 9 = .ok (.aload_n 0, 1) := by decide +kernel
theorem dX0_comesIn_10 : decode cX0_comesIn 10 = .ok (.getfield 9, 3) := by decide +kernel
theorem dX0_comesIn_13 : decode cX0_comesIn 13 = .ok (.bipush 12, 2) := by decide +kernel
theorem dX0_comesIn_15 : decode cX0_comesIn 15 = .ok (.iload 4, 2) := by decide +kernel
theorem dX0_comesIn_17 : decode cX0_comesIn 17 = .ok (.imul, 1) := by decide +kernel
theorem dX0_comesIn_18 : decode cX0_comesIn 18 = .ok (.iload_n 3, 1) := by decide +kernel
theorem dX0_comesIn_19 : decode cX0_comesIn 19 = .ok (.iadd, 1) := by decide +kernel
theorem dX0_comesIn_20 : decode cX0_comesIn 20 = .ok (.baload, 1) := by decide +kernel
theorem dX0_comesIn_21 : decode cX0_comesIn 21 = .ok (.ifCond .eq 5, 3) := by decide +kernel
theorem dX0_comesIn_24 : decode cX0_comesIn 24 = .ok (.iconst 0, 1) := by decide +kernel
theorem dX0_comesIn_25 : decode cX0_comesIn 25 = .ok (.ireturn, 1) := by decide +kernel
theorem dX0_comesIn_26 : decode cX0_comesIn 26 = .ok (.iload_n 1, 1) := by decide +kernel
theorem dX0_comesIn_27 : decode cX0_comesIn 27 = .ok (.iload_n 2, 1) := by decide +kernel
theorem dX0_comesIn_28 : decode cX0_comesIn 28 = .ok (.iconst 2, 1) := by decide +kernel
theorem dX0_comesIn_29 : decode cX0_comesIn 29 = .ok (.idiv, 1) := by decide +kernel
theorem dX0_comesIn_30 : decode cX0_comesIn 30 = .ok (.iadd, 1) := by decide +kernel
theorem dX0_comesIn_31 : decode cX0_comesIn 31 = .ok (.ireturn, 1) := by decide +kernel
theorem dX0_comesInAt_0 : decode cX0_comesInAt 0 = .ok (.iconst 0, 1) := by decide +kernel
theorem dX0_comesInAt_1 : decode cX0_comesInAt 1 = .ok (.istore 4, 2) := by decide +kernel
theorem dX0_comesInAt_3 : decode cX0_comesInAt 3 = .ok (.bipush 7, 2) := by decide +kernel
theorem dX0_comesInAt_5 : decode cX0_comesInAt 5 = .ok (.istore 5, 2) := by decide +kernel
theorem dX0_comesInAt_7 : decode cX0_comesInAt 7 = .ok (.iload 5, 2) := by decide +kernel
theorem dX0_comesInAt_9 : decode cX0_comesInAt 9 = .ok (.ifCond .lt 27, 3) := by decide +kernel
theorem dX0_comesInAt_12 : decode cX0_comesInAt 12 = .ok (.iload 5, 2) := by decide +kernel
theorem dX0_comesInAt_14 : decode cX0_comesInAt 14 = .ok (.iload_n 3, 1) := by decide +kernel
theorem dX0_comesInAt_15 : decode cX0_comesInAt 15 = .ok (.if_icmp .lt 21, 3) := by decide +kernel
theorem dX0_comesInAt_18 : decode cX0_comesInAt 18 = .ok (.aload_n 0, 1) := by decide +kernel
theorem dX0_comesInAt_19 : decode cX0_comesInAt 19 = .ok (.iload_n 1, 1) := by decide +kernel
theorem dX0_comesInAt_20 : decode cX0_comesInAt 20 = .ok (.iload 4, 2) := by decide +kernel
theorem dX0_comesInAt_22 : decode cX0_comesInAt 22 = .ok (.iload_n 2, 1) := by decide +kernel
theorem dX0_comesInAt_23 : decode cX0_comesInAt 23 = .ok (.iload 5, 2) := by decide +kernel
theorem dX0_comesInAt_25 : decode cX0_comesInAt 25 = .ok (.invokevirtual 28, 3) := by decide +kernel
theorem dX0_comesInAt_28 : decode cX0_comesInAt 28 = .ok (.istore 4, 2) := by decide +kernel
theorem dX0_comesInAt_30 : decode cX0_comesInAt 30 = .ok (.iinc 5 (-1), 3) := by decide +kernel
theorem dX0_comesInAt_33 : decode cX0_comesInAt 33 = .ok (.goto (-26), 3) := by decide +kernel
theorem dX0_comesInAt_36 : decode cX0_comesInAt 36 = .ok (.iload 4, 2) := by decide +kernel
theorem dX0_comesInAt_38 : decode cX0_comesInAt 38 = .ok (.ireturn, 1) := by decide +kernel
theorem dX0_comesInAtAll_0 : decode cX0_comesInAtAll 0 = .ok (.iconst 0, 1) := by decide +kernel
theorem dX0_comesInAtAll_1 : decode cX0_comesInAtAll 1 = .ok (.istore_n 2, 1) := by decide +kernel
theorem dX0_comesInAtAll_2 : decode cX0_comesInAtAll 2 = .ok (.iconst 0, 1) := by decide +kernel
theorem dX0_comesInAtAll_3 : decode cX0_comesInAtAll 3 = .ok (.istore_n 3, 1) := by decide +kernel
theorem dX0_comesInAtAll_4 : decode cX0_comesInAtAll 4 = .ok (.iload_n 3, 1) := by decide +kernel
theorem dX0_comesInAtAll_5 : decode cX0_comesInAtAll 5 = .ok (.bipush 12, 2) := by decide +kernel
theorem dX0_comesInAtAll_7 : decode cX0_comesInAtAll 7 = .ok (.if_icmp .ge 44, 3) := by decide +kernel
theorem dX0_comesInAtAll_10 : decode cX0_comesInAtAll 10 = .ok (.iconst 0, 1) := by decide +kernel
theorem dX0_comesInAtAll_11 : decode cX0_comesInAtAll 11 = .ok (.istore 4, 2) := by decide +kernel
theorem dX0_comesInAtAll_13 : decode cX0_comesInAtAll 13 = .ok (.bipush 7, 2) := by decide +kernel
theorem dX0_comesInAtAll_15 : decode cX0_comesInAtAll 15 = .ok (.istore 5, 2) := by decide +kernel
theorem dX0_comesInAtAll_17 : decode cX0_comesInAtAll 17 = .ok (.iload 5, 2) := by decide +kernel
theorem dX0_comesInAtAll_19 : decode cX0_comesInAtAll 19 = .ok (.ifCond .lt 26, 3) := by decide +kernel
theorem dX0_comesInAtAll_22 : decode cX0_comesInAtAll 22 = .ok (.aload_n 0, 1) := by decide +kernel
theorem dX0_comesInAtAll_23 : decode cX0_comesInAtAll 23 = .ok (.iload_n 1, 1) := by decide +kernel
theorem dX0_comesInAtAll_24 : decode cX0_comesInAtAll 24 = .ok (.iload 4, 2) := by decide +kernel
theorem dX0_comesInAtAll_26 : decode cX0_comesInAtAll 26 = .ok (.iload_n 3, 1) := by decide +kernel
theorem dX0_comesInAtAll_27 : decode cX0_comesInAtAll 27 = .ok (.iload 5, 2) := by decide +kernel
theorem dX0_comesInAtAll_29 : decode cX0_comesInAtAll 29 = .ok (.invokevirtual 28, 3) := by decide +kernel
theorem dX0_comesInAtAll_32 : decode cX0_comesInAtAll 32 = .ok (.istore 4, 2) := by decide +kernel
theorem dX0_comesInAtAll_34 : decode cX0_comesInAtAll 34 = .ok (.iload_n 2, 1) := by decide +kernel
theorem dX0_comesInAtAll_35 : decode cX0_comesInAtAll 35 = .ok (.iload 4, 2) := by decide +kernel
theorem dX0_comesInAtAll_37 : decode cX0_comesInAtAll 37 = .ok (.iadd, 1) := by decide +kernel
theorem dX0_comesInAtAll_38 : decode cX0_comesInAtAll 38 = .ok (.istore_n 2, 1) := by decide +kernel
theorem dX0_comesInAtAll_39 : decode cX0_comesInAtAll 39 = .ok (.iinc 5 (-1), 3) := by decide +kernel
theorem dX0_comesInAtAll_42 : decode cX0_comesInAtAll 42 = .ok (.goto (-25), 3) := by decide +kernel
theorem dX0_comesInAtAll_45 : decode cX0_comesInAtAll 45 = .ok (.iinc 3 1, 3) := by decide +kernel
theorem dX0_comesInAtAll_48 : decode cX0_comesInAtAll 48 = .ok (.goto (-44), 3) := by decide +kernel
theorem dX0_comesInAtAll_51 : decode cX0_comesInAtAll 51 = .ok (.iload_n 2, 1) := by decide +kernel
theorem dX0_comesInAtAll_52 : decode cX0_comesInAtAll 52 = .ok (.ireturn, 1) := by decide +kernel
theorem dX1_init_0 : decode cX1_init 0 = .ok (.aload_n 0, 1) := by decide +kernel
theorem dX1_init_1 : decode cX1_init 1 = .ok (.invokespecial 3, 3) := by decide +kernel
theorem dX1_init_4 : decode cX1_init 4 = .ok (.aload_n 0, 1) := by decide +kernel
theorem dX1_init_5 : decode cX1_init 5 = .ok (.bipush 96, 2) := by decide +kernel
theorem dX1_init_7 : decode cX1_init 7 = .ok (.newarray .int, 2) := by decide +kernel
theorem dX1_init_9 : decode cX1_init 9 = .ok (.putfield 9, 3) := by decide +kernel
theorem dX1_init_12 : decode cX1_init 12 = .ok (.aload_n 0, 1) := by decide +kernel
theorem dX1_init_13 : decode cX1_init 13 = .ok (.bipush 96, 2) := by decide +kernel
theorem dX1_init_15 : decode cX1_init 15 = .ok (.newarray .int, 2) := by decide +kernel
theorem dX1_init_17 : decode cX1_init 17 = .ok (.putfield 15, 3) := by decide +kernel
theorem dX1_init_20 : decode cX1_init 20 = .ok (.aload_n 0, 1) := by decide +kernel
theorem dX1_init_21 : decode cX1_init 21 = .ok (.sipush 200, 3) := by decide +kernel
theorem dX1_init_24 : decode cX1_init 24 = .ok (.newarray .int, 2) := by decide +kernel
theorem dX1_init_26 : decode cX1_init 26 = .ok (.putfield 18, 3) := by decide +kernel
theorem dX1_init_29 : decode cX1_init 29 = .ok (.aload_n 0, 1) := by decide +kernel
theorem dX1_init_30 : decode cX1_init 30 = .ok (.sipush 200, 3) := by decide +kernel
theorem dX1_init_33 : decode cX1_init 33 = .ok (.newarray .int, 2) := by decide +kernel
theorem dX1_init_35 : decode cX1_init 35 = .ok (.putfield 21, 3) := by decide +kernel
theorem dX1_init_38 : decode cX1_init 38 = .ok (.aload_n 0, 1) := by decide +kernel
theorem dX1_init_39 : decode cX1_init 39 = .ok (.sipush 200, 3) := by decide +kernel
theorem dX1_init_42 : decode cX1_init 42 = .ok (.newarray .int, 2) := by decide +kernel
theorem dX1_init_44 : decode cX1_init 44 = .ok (.putfield 24, 3) := by decide +kernel
theorem dX1_init_47 : decode cX1_init 47 = .ok (.aload_n 0, 1) := by decide +kernel
theorem dX1_init_48 : decode cX1_init 48 = .ok (.sipush 200, 3) := by decide +kernel
theorem dX1_init_51 : decode cX1_init 51 = .ok (.newarray .int, 2) := by decide +kernel
theorem dX1_init_53 : decode cX1_init 53 = .ok (.putfield 27, 3) := by decide +kernel
theorem dX1_init_56 : decode cX1_init 56 = .ok (.aload_n 0, 1) := by decide +kernel
theorem dX1_init_57 : decode cX1_init 57 = .ok (.sipush 200, 3) := by decide +kernel
theorem dX1_init_60 : decode cX1_init 60 = .ok (.newarray .boolean, 2) := by decide +kernel
theorem dX1_init_62 : decode cX1_init 62 = .ok (.putfield 30, 3) := by decide +kernel
theorem dX1_init_65 : decode cX1_init 65 = .ok (.aload_n 0, 1) := by decide +kernel
theorem dX1_init_66 : decode cX1_init 66 = .ok (.sipush 200, 3) := by decide +kernel
theorem dX1_init_69 : decode cX1_init 69 = .ok (.newarray .boolean, 2) := by decide +kernel
theorem dX1_init_71 : decode cX1_init 71 = .ok (.putfield 34, 3) := by decide +kernel
theorem dX1_init_74 : decode cX1_init 74 = .ok (.aload_n 0, 1) := by decide +kernel
theorem dX1_init_75 : decode cX1_init 75 = .ok (.sipush 200, 3) := by decide +kernel
theorem dX1_init_78 : decode cX1_init 78 = .ok (.newarray .boolean, 2) := by decide +kernel
theorem dX1_init_80 : decode cX1_init 80 = .ok (.putfield 37, 3) := by decide +kernel
theorem dX1_init_83 : decode cX1_init 83 = .ok (.iconst 0, 1) := by decide +kernel
theorem dX1_init_84 : decode cX1_init 84 = .ok (.istore_n 1, 1) := by decide +kernel
theorem dX1_init_85 : decode cX1_init 85 = .ok (.iload_n 1, 1) := by decide +kernel
theorem dX1_init_86 : decode cX1_init 86 = .ok (.bipush 96, 2) := by decide +kernel
theorem dX1_init_88 : decode cX1_init 88 = .ok (.if_icmp .ge 16, 3) := by decide +kernel
theorem dX1_init_91 : decode cX1_init 91 = .ok (.aload_n 0, 1) := by decide +kernel
theorem dX1_init_92 : decode cX1_init 92 = .ok (.getfield 9, 3) := by decide +kernel
theorem dX1_init_95 : decode cX1_init 95 = .ok (.iload_n 1, 1) := by decide +kernel
theorem dX1_init_96 : decode cX1_init 96 = .ok (.iconst (-1), 1) := by decide +kernel
theorem dX1_init_97 : decode cX1_init 97 = .ok (.iastore, 1) := by decide +kernel
theorem dX1_init_98 : decode cX1_init 98 = .ok (.iinc 1 1, 3) := by decide +kernel
theorem dX1_init_101 : decode cX1_init 101 = .ok (.goto (-16), 3) := by decide +kernel
theorem dX1_init_104 : decode cX1_init 104 = .ok (.return_, 1) := by decide +kernel
theorem dX1_copyFrom_0 : decode cX1_copyFrom 0 = .ok (.aload_n 0, 1) := by decide +kernel
theorem dX1_copyFrom_1 : decode cX1_copyFrom 1 = .ok (.aload_n 1, 1) := by decide +kernel
theorem dX1_copyFrom_2 : decode cX1_copyFrom 2 = .ok (.getfield 40, 3) := by decide +kernel
theorem dX1_copyFrom_5 : decode cX1_copyFrom 5 = .ok (.putfield 40, 3) := by decide +kernel
theorem dX1_copyFrom_8 : decode cX1_copyFrom 8 = .ok (.aload_n 0, 1) := by decide +kernel
theorem dX1_copyFrom_9 : decode cX1_copyFrom 9 = .ok (.aload_n 1, 1) := by decide +kernel
theorem dX1_copyFrom_10 : decode cX1_copyFrom 10 = .ok (.getfield 44, 3) := by decide +kernel
theorem dX1_copyFrom_13 : decode cX1_copyFrom 13 = .ok (.putfield 44, 3) := by decide +kernel
theorem dX1_copyFrom_16 : decode cX1_copyFrom 16 = .ok (.aload_n 0, 1) := by decide +kernel
theorem dX1_copyFrom_17 : decode cX1_copyFrom 17 = .ok (.aload_n 1, 1) := by decide +kernel
theorem dX1_copyFrom_18 : decode cX1_copyFrom 18 = .ok (.getfield 47, 3) := by decide +kernel
theorem dX1_copyFrom_21 : decode cX1_copyFrom 21 = .ok (.putfield 47, 3) := by decide +kernel
theorem dX1_copyFrom_24 : decode cX1_copyFrom 24 = .ok (.aload_n 0, 1) := by decide +kernel
theorem dX1_copyFrom_25 : decode cX1_copyFrom 25 = .ok (.aload_n 1, 1) := by decide +kernel
theorem dX1_copyFrom_26 : decode cX1_copyFrom 26 = .ok (.getfield 50, 3) := by decide +kernel
theorem dX1_copyFrom_29 : decode cX1_copyFrom 29 = .ok (.putfield 50, 3) := by decide +kernel
theorem dX1_copyFrom_32 : decode cX1_copyFrom 32 = .ok (.iconst 0, 1) := by decide +kernel
theorem dX1_copyFrom_33 : decode cX1_copyFrom 33 = .ok (.istore_n 2, 1) := by decide +kernel
theorem dX1_copyFrom_34 : decode cX1_copyFrom 34 = .ok (.iload_n 2, 1) := by decide +kernel
theorem dX1_copyFrom_35 : decode cX1_copyFrom 35 = .ok (.bipush 96, 2) := by decide +kernel
theorem dX1_copyFrom_37 : decode cX1_copyFrom 37 = .ok (.if_icmp .ge 33, 3) := by decide +kernel
theorem dX1_copyFrom_40 : decode cX1_copyFrom 40 = .ok (.aload_n 0, 1) := by decide +kernel
theorem dX1_copyFrom_41 : decode cX1_copyFrom 41 = .ok (.getfield 9, 3) := by decide +kernel
theorem dX1_copyFrom_44 : decode cX1_copyFrom 44 = .ok (.iload_n 2, 1) := by decide +kernel
theorem dX1_copyFrom_45 : decode cX1_copyFrom 45 = .ok (.aload_n 1, 1) := by decide +kernel
theorem dX1_copyFrom_46 : decode cX1_copyFrom 46 = .ok (.getfield 9, 3) := by decide +kernel
theorem dX1_copyFrom_49 : decode cX1_copyFrom 49 = .ok (.iload_n 2, 1) := by decide +kernel
theorem dX1_copyFrom_50 : decode cX1_copyFrom 50 = .ok (.iaload, 1) := by decide +kernel
theorem dX1_copyFrom_51 : decode cX1_copyFrom 51 = .ok (.iastore, 1) := by decide +kernel
theorem dX1_copyFrom_52 : decode cX1_copyFrom 52 = .ok (.aload_n 0, 1) := by decide +kernel
theorem dX1_copyFrom_53 : decode cX1_copyFrom 53 = .ok (.getfield 15, 3) := by decide +kernel
theorem dX1_copyFrom_56 : decode cX1_copyFrom 56 = .ok (.iload_n 2, 1) := by decide +kernel
theorem dX1_copyFrom_57 : decode cX1_copyFrom 57 = .ok (.aload_n 1, 1) := by decide +kernel
theorem dX1_copyFrom_58 : decode cX1_copyFrom 58 = .ok (.getfield 15, 3) := by decide +kernel
theorem dX1_copyFrom_61 : decode cX1_copyFrom 61 = .ok (.iload_n 2, 1) := by decide +kernel
theorem dX1_copyFrom_62 : decode cX1_copyFrom 62 = .ok (.iaload, 1) := by decide +kernel
theorem dX1_copyFrom_63 : decode cX1_copyFrom 63 = .ok (.iastore, 1) := by decide +kernel
theorem dX1_copyFrom_64 : decode cX1_copyFrom 64 = .ok (.iinc 2 1, 3) := by decide +kernel
theorem dX1_copyFrom_67 : decode cX1_copyFrom 67 = .ok (.goto (-33), 3) := by decide +kernel
theorem dX1_copyFrom_70 : decode cX1_copyFrom 70 = .ok (.iconst 0, 1) := by decide +kernel
theorem dX1_copyFrom_71 : decode cX1_copyFrom 71 = .ok (.istore_n 2, 1) := by decide +kernel
theorem dX1_copyFrom_72 : decode cX1_copyFrom 72 = .ok (.iload_n 2, 1) := by decide +kernel
theorem dX1_copyFrom_73 : decode cX1_copyFrom 73 = .ok (.sipush 200, 3) := by decide +kernel
theorem dX1_copyFrom_76 : decode cX1_copyFrom 76 = .ok (.if_icmp .ge 81, 3) := by decide +kernel
theorem dX1_copyFrom_79 : decode cX1_copyFrom 79 = .ok (.aload_n 0, 1) := by decide +kernel
theorem dX1_copyFrom_80 : decode cX1_copyFrom 80 = .ok (.getfield 18, 3) := by decide +kernel
theorem dX1_copyFrom_83 : decode cX1_copyFrom 83 = .ok (.iload_n 2, 1) := by decide +kernel
theorem dX1_copyFrom_84 : decode cX1_copyFrom 84 = .ok (.aload_n 1, 1) := by decide +kernel
theorem dX1_copyFrom_85 : decode cX1_copyFrom 85 = .ok (.getfield 18, 3) := by decide +kernel
theorem dX1_copyFrom_88 : decode cX1_copyFrom 88 = .ok (.iload_n 2, 1) := by decide +kernel
theorem dX1_copyFrom_89 : decode cX1_copyFrom 89 = .ok (.iaload, 1) := by decide +kernel
theorem dX1_copyFrom_90 : decode cX1_copyFrom 90 = .ok (.iastore, 1) := by decide +kernel
theorem dX1_copyFrom_91 : decode cX1_copyFrom 91 = .ok (.aload_n 0, 1) := by decide +kernel
theorem dX1_copyFrom_92 : decode cX1_copyFrom 92 = .ok (.getfield 21, 3) := by decide +kernel
theorem dX1_copyFrom_95 : decode cX1_copyFrom 95 = .ok (.iload_n 2, 1) := by decide +kernel
theorem dX1_copyFrom_96 : decode cX1_copyFrom 96 = .ok (.aload_n 1, 1) := by decide +kernel
theorem dX1_copyFrom_97 : decode cX1_copyFrom 97 = .ok (.getfield 21, 3) := by decide +kernel
theorem dX1_copyFrom_100 : decode cX1_copyFrom 100 = .ok (.iload_n 2, 1) := by decide +kernel
theorem dX1_copyFrom_101 : decode cX1_copyFrom 101 = .ok (.iaload, 1) := by decide +kernel
theorem dX1_copyFrom_102 : decode cX1_copyFrom 102 = .ok (.iastore, 1) := by decide +kernel
theorem dX1_copyFrom_103 : decode cX1_copyFrom 103 = .ok (.aload_n 0, 1) := by decide +kernel
theorem dX1_copyFrom_104 : decode cX1_copyFrom 104 = .ok (.getfield 24, 3) := by decide +kernel
theorem dX1_copyFrom_107 : decode cX1_copyFrom 107 = .ok (.iload_n 2, 1) := by decide +kernel
theorem dX1_copyFrom_108 : decode cX1_copyFrom 108 = .ok (.aload_n 1, 1) := by decide +kernel
theorem dX1_copyFrom_109 : decode cX1_copyFrom 109 = .ok (.getfield 24, 3) := by decide +kernel
theorem dX1_copyFrom_112 : decode cX1_copyFrom 112 = .ok (.iload_n 2, 1) := by decide +kernel
theorem dX1_copyFrom_113 : decode cX1_copyFrom 113 = .ok (.iaload, 1) := by decide +kernel
theorem dX1_copyFrom_114 : decode cX1_copyFrom 114 = .ok (.iastore, 1) := by decide +kernel
theorem dX1_copyFrom_115 : decode cX1_copyFrom 115 = .ok (.aload_n 0, 1) := by decide +kernel
theorem dX1_copyFrom_116 : decode cX1_copyFrom 116 = .ok (.getfield 27, 3) := by decide +kernel
theorem dX1_copyFrom_119 : decode cX1_copyFrom 119 = .ok (.iload_n 2, 1) := by decide +kernel
theorem dX1_copyFrom_120 : decode cX1_copyFrom 120 = .ok (.aload_n 1, 1) := by decide +kernel
theorem dX1_copyFrom_121 : decode cX1_copyFrom 121 = .ok (.getfield 27, 3) := by decide +kernel
theorem dX1_copyFrom_124 : decode cX1_copyFrom 124 = .ok (.iload_n 2, 1) := by decide +kernel
theorem dX1_copyFrom_125 : decode cX1_copyFrom 125 = .ok (.iaload, 1) := by decide +kernel
theorem dX1_copyFrom_126 : decode cX1_copyFrom 126 = .ok (.iastore, 1) := by decide +kernel
theorem dX1_copyFrom_127 : decode cX1_copyFrom 127 = .ok (.aload_n 0, 1) := by decide +kernel
theorem dX1_copyFrom_128 : decode cX1_copyFrom 128 = .ok (.getfield 30, 3) := by decide +kernel
theorem dX1_copyFrom_131 : decode cX1_copyFrom 131 = .ok (.iload_n 2, 1) := by decide +kernel
theorem dX1_copyFrom_132 : decode cX1_copyFrom 132 = .ok (.aload_n 1, 1) := by decide +kernel
theorem dX1_copyFrom_133 : decode cX1_copyFrom 133 = .ok (.getfield 30, 3) := by decide +kernel
theorem dX1_copyFrom_136 : decode cX1_copyFrom 136 = .ok (.iload_n 2, 1) := by decide +kernel
theorem dX1_copyFrom_137 : decode cX1_copyFrom 137 = .ok (.baload, 1) := by decide +kernel
theorem dX1_copyFrom_138 : decode cX1_copyFrom 138 = .ok (.bastore, 1) := by decide +kernel
theorem dX1_copyFrom_139 : decode cX1_copyFrom 139 = .ok (.aload_n 0, 1) := by decide +kernel
theorem dX1_copyFrom_140 : decode cX1_copyFrom 140 = .ok (.getfield 34, 3) := by decide +kernel
theorem dX1_copyFrom_143 : decode cX1_copyFrom 143 = .ok (.iload_n 2, 1) := by decide +kernel
theorem dX1_copyFrom_144 : decode cX1_copyFrom 144 = .ok (.aload_n 1, 1) := by decide +kernel
theorem dX1_copyFrom_145 : decode cX1_copyFrom 145 = .ok (.getfield 34, 3) := by decide +kernel
theorem dX1_copyFrom_148 : decode cX1_copyFrom 148 = .ok (.iload_n 2, 1) := by decide +kernel
theorem dX1_copyFrom_149 : decode cX1_copyFrom 149 = .ok (.baload, 1) := by decide +kernel
theorem dX1_copyFrom_150 : decode cX1_copyFrom 150 = .ok (.bastore, 1) := by decide +kernel
theorem dX1_copyFrom_151 : decode cX1_copyFrom 151 = .ok (.iinc 2 1, 3) := by decide +kernel
theorem dX1_copyFrom_154 : decode cX1_copyFrom 154 = .ok (.goto (-82), 3) := by decide +kernel
theorem dX1_copyFrom_157 : decode cX1_copyFrom 157 = .ok (.return_, 1) := by decide +kernel
theorem dX1_isKnown_0 : decode cX1_isKnown 0 = .ok (.iload_n 1, 1) := by decide +kernel
theorem dX1_isKnown_1 : decode cX1_isKnown 1 = .ok (.ifCond .lt 22, 3) := by decide +kernel
theorem dX1_isKnown_4 : decode cX1_isKnown 4 = .ok (.iload_n 1, 1) := by decide +kernel
theorem dX1_isKnown_5 : decode cX1_isKnown 5 = .ok (.aload_n 0, 1) := by decide +kernel
theorem dX1_isKnown_6 : decode cX1_isKnown 6 = .ok (.getfield 44, 3) := by decide +kernel
theorem dX1_isKnown_9 : decode cX1_isKnown 9 = .ok (.if_icmp .ge 14, 3) := by decide +kernel
theorem dX1_isKnown_12 : decode cX1_isKnown 12 = .ok (.iload_n 1, 1) := by decide +kernel
theorem dX1_isKnown_13 : decode cX1_isKnown 13 = .ok (.sipush 200, 3) := by decide +kernel
theorem dX1_isKnown_16 : decode cX1_isKnown 16 = .ok (.if_icmp .ge 7, 3) := by decide +kernel
theorem dX1_isKnown_19 : decode cX1_isKnown 19 = .ok (.iconst 1, 1) := by decide +kernel
theorem dX1_isKnown_20 : decode cX1_isKnown 20 = .ok (.goto 4, 3) := by decide +kernel
theorem dX1_isKnown_23 : decode cX1_isKnown 23 = .ok (.iconst 0, 1) := by decide +kernel
theorem dX1_isKnown_24 : decode cX1_isKnown 24 = .ok (.ireturn, 1) := by decide +kernel
theorem dX1_isThere_0 : decode cX1_isThere 0 = .ok (.iload_n 1, 1) := by decide +kernel
theorem dX1_isThere_1 : decode cX1_isThere 1 = .ok (.ifCond .lt 31, 3) := by decide +kernel
theorem dX1_isThere_4 : decode cX1_isThere 4 = .ok (.iload_n 1, 1) := by decide +kernel
theorem dX1_isThere_5 : decode cX1_isThere 5 = .ok (.aload_n 0, 1) := by decide +kernel
theorem dX1_isThere_6 : decode cX1_isThere 6 = .ok (.getfield 44, 3) := by decide +kernel
theorem dX1_isThere_9 : decode cX1_isThere 9 = .ok (.if_icmp .ge 23, 3) := by decide +kernel
theorem dX1_isThere_12 : decode cX1_isThere 12 = .ok (.iload_n 1, 1) := by decide +kernel
theorem dX1_isThere_13 : decode cX1_isThere 13 = .ok (.sipush 200, 3) := by decide +kernel
theorem dX1_isThere_16 : decode cX1_isThere 16 = .ok (.if_icmp .ge 16, 3) := by decide +kernel
theorem dX1_isThere_19 : decode cX1_isThere 19 = .ok (.aload_n 0, 1) := by decide +kernel
theorem dX1_isThere_20 : decode cX1_isThere 20 = .ok (.getfield 34, 3) := by decide +kernel
theorem dX1_isThere_23 : decode cX1_isThere 23 = .ok (.iload_n 1, 1) := by decide +kernel
theorem dX1_isThere_24 : decode cX1_isThere 24 = .ok (.baload, 1) := by decide +kernel
theorem dX1_isThere_25 : decode cX1_isThere 25 = .ok (.ifCond .eq 7, 3) := by decide +kernel
theorem dX1_isThere_28 : decode cX1_isThere 28 = .ok (.iconst 1, 1) := by decide +kernel
theorem dX1_isThere_29 : decode cX1_isThere 29 = .ok (.goto 4, 3) := by decide +kernel
theorem dX1_isThere_32 : decode cX1_isThere 32 = .ok (.iconst 0, 1) := by decide +kernel
theorem dX1_isThere_33 : decode cX1_isThere 33 = .ok (.ireturn, 1) := by decide +kernel
theorem dX1_isOpen_0 : decode cX1_isOpen 0 = .ok (.aload_n 0, 1) := by decide +kernel
theorem dX1_isOpen_1 : decode cX1_isOpen 1 = .ok (.iload_n 1, 1) := by decide +kernel
theorem dX1_isOpen_2 : decode cX1_isOpen 2 = .ok (.invokevirtual 53, 3) := by decide +kernel
theorem dX1_isOpen_5 : decode cX1_isOpen 5 = .ok (.ifCond .eq 15, 3) := by decide +kernel
theorem dX1_isOpen_8 : decode cX1_isOpen 8 = .ok (.aload_n 0, 1) := by decide +kernel
theorem dX1_isOpen_9 : decode cX1_isOpen 9 = .ok (.iload_n 1, 1) := by decide +kernel
theorem dX1_isOpen_10 : decode cX1_isOpen 10 = .ok (.invokevirtual 57, 3) := by decide +kernel
theorem dX1_isOpen_13 : decode cX1_isOpen 13 = .ok (.ifCond .ne 7, 3) := by decide +kernel
theorem dX1_isOpen_16 : decode cX1_isOpen 16 = .ok (.iconst 1, 1) := by decide +kernel
theorem dX1_isOpen_17 : decode cX1_isOpen 17 = .ok (.goto 4, 3) := by decide +kernel
theorem dX1_isOpen_20 : decode cX1_isOpen 20 = .ok (.iconst 0, 1) := by decide +kernel
theorem dX1_isOpen_21 : decode cX1_isOpen 21 = .ok (.ireturn, 1) := by decide +kernel
theorem dX1_numberAt_0 : decode cX1_numberAt 0 = .ok (.iload_n 1, 1) := by decide +kernel
theorem dX1_numberAt_1 : decode cX1_numberAt 1 = .ok (.ifCond .lt 19, 3) := by decide +kernel
theorem dX1_numberAt_4 : decode cX1_numberAt 4 = .ok (.iload_n 1, 1) := by decide +kernel
theorem dX1_numberAt_5 : decode cX1_numberAt 5 = .ok (.bipush 12, 2) := by decide +kernel
theorem dX1_numberAt_7 : decode cX1_numberAt 7 = .ok (.if_icmp .ge 13, 3) := by decide +kernel
theorem dX1_numberAt_10 : decode cX1_numberAt 10 = .ok (.iload_n 2, 1) := by decide +kernel
theorem dX1_numberAt_11 : decode cX1_numberAt 11 = .ok (.ifCond .lt 9, 3) := by decide +kernel
theorem dX1_numberAt_14 : decode cX1_numberAt 14 = .ok (.iload_n 2, 1) := by decide +kernel
theorem dX1_numberAt_15 : decode cX1_numberAt 15 = .ok (.bipush 8, 2) := by decide +kernel
theorem dX1_numberAt_17 : decode cX1_numberAt 17 = .ok (.if_icmp .lt 5, 3) := by decide +kernel
theorem dX1_numberAt_20 : decode cX1_numberAt 20 = .ok (.iconst (-1), 1) := by decide +kernel
theorem dX1_numberAt_21 : decode cX1_numberAt 21 = .ok (.ireturn, 1) := by decide +kernel
theorem dX1_numberAt_22 : decode cX1_numberAt 22 = .ok (.aload_n 0, 1) := by decide +kernel
theorem dX1_numberAt_23 : decode cX1_numberAt 23 = .ok (.getfield 9, 3) := by decide +kernel
theorem dX1_numberAt_26 : decode cX1_numberAt 26 = .ok (.bipush 12, 2) := by decide +kernel
theorem dX1_numberAt_28 : decode cX1_numberAt 28 = .ok (.iload_n 2, 1) := by decide +kernel
theorem dX1_numberAt_29 : decode cX1_numberAt 29 = .ok (.imul, 1) := by decide +kernel
theorem dX1_numberAt_30 : decode cX1_numberAt 30 = .ok (.iload_n 1, 1) := by decide +kernel
theorem dX1_numberAt_31 : decode cX1_numberAt 31 = .ok (.iadd, 1) := by decide +kernel
theorem dX1_numberAt_32 : decode cX1_numberAt 32 = .ok (.iaload, 1) := by decide +kernel
theorem dX1_numberAt_33 : decode cX1_numberAt 33 = .ok (.ireturn, 1) := by decide +kernel
theorem dX1_rotAt_0 : decode cX1_rotAt 0 = .ok (.iload_n 1, 1) := by decide +kernel
theorem dX1_rotAt_1 : decode cX1_rotAt 1 = .ok (.ifCond .lt 19, 3) := by decide +kernel
theorem dX1_rotAt_4 : decode cX1_rotAt 4 = .ok (.iload_n 1, 1) := by decide +kernel
theorem dX1_rotAt_5 : decode cX1_rotAt 5 = .ok (.bipush 12, 2) := by decide +kernel
theorem dX1_rotAt_7 : decode cX1_rotAt 7 = .ok (.if_icmp .ge 13, 3) := by decide +kernel
theorem dX1_rotAt_10 : decode cX1_rotAt 10 = .ok (.iload_n 2, 1) := by decide +kernel
theorem dX1_rotAt_11 : decode cX1_rotAt 11 = .ok (.ifCond .lt 9, 3) := by decide +kernel
theorem dX1_rotAt_14 : decode cX1_rotAt 14 = .ok (.iload_n 2, 1) := by decide +kernel
theorem dX1_rotAt_15 : decode cX1_rotAt 15 = .ok (.bipush 8, 2) := by decide +kernel
theorem dX1_rotAt_17 : decode cX1_rotAt 17 = .ok (.if_icmp .lt 5, 3) := by decide +kernel
theorem dX1_rotAt_20 : decode cX1_rotAt 20 = .ok (.iconst 0, 1) := by decide +kernel
theorem dX1_rotAt_21 : decode cX1_rotAt 21 = .ok (.ireturn, 1) := by decide +kernel
theorem dX1_rotAt_22 : decode cX1_rotAt 22 = .ok (.aload_n 0, 1) := by decide +kernel
theorem dX1_rotAt_23 : decode cX1_rotAt 23 = .ok (.getfield 15, 3) := by decide +kernel
theorem dX1_rotAt_26 : decode cX1_rotAt 26 = .ok (.bipush 12, 2) := by decide +kernel
theorem dX1_rotAt_28 : decode cX1_rotAt 28 = .ok (.iload_n 2, 1) := by decide +kernel
theorem dX1_rotAt_29 : decode cX1_rotAt 29 = .ok (.imul, 1) := by decide +kernel
theorem dX1_rotAt_30 : decode cX1_rotAt 30 = .ok (.iload_n 1, 1) := by decide +kernel
theorem dX1_rotAt_31 : decode cX1_rotAt 31 = .ok (.iadd, 1) := by decide +kernel
theorem dX1_rotAt_32 : decode cX1_rotAt 32 = .ok (.iaload, 1) := by decide +kernel
theorem dX1_rotAt_33 : decode cX1_rotAt 33 = .ok (.ireturn, 1) := by decide +kernel
theorem dX1_setNumbers_0 : decode cX1_setNumbers 0 = .ok (.iload_n 2, 1) := by decide +kernel
theorem dX1_setNumbers_1 : decode cX1_setNumbers 1 = .ok (.istore 5, 2) := by decide +kernel
theorem dX1_setNumbers_3 : decode cX1_setNumbers 3 = .ok (.iload 5, 2) := by decide +kernel
theorem dX1_setNumbers_5 : decode cX1_setNumbers 5 = .ok (.iload_n 2, 1) := by decide +kernel
theorem dX1_setNumbers_6 : decode cX1_setNumbers 6 = .ok (.iload_n 3, 1) := by decide +kernel
theorem dX1_setNumbers_7 : decode cX1_setNumbers 7 = .ok (.iadd, 1) := by decide +kernel
theorem dX1_setNumbers_8 : decode cX1_setNumbers 8 = .ok (.if_icmp .ge 32, 3) := by decide +kernel
theorem dX1_setNumbers_11 : decode cX1_setNumbers 11 = .ok (.iload 5, 2) := by decide +kernel
theorem dX1_setNumbers_13 : decode cX1_setNumbers 13 = .ok (.iload_n 1, 1) := by decide +kernel
theorem dX1_setNumbers_14 : decode cX1_setNumbers 14 = .ok (.invokestatic 61, 3) := by decide +kernel
theorem dX1_setNumbers_17 : decode cX1_setNumbers 17 = .ok (.ifCond .eq 17, 3) := by decide +kernel
theorem dX1_setNumbers_20 : decode cX1_setNumbers 20 = .ok (.aload_n 0, 1) := by decide +kernel
theorem dX1_setNumbers_21 : decode cX1_setNumbers 21 = .ok (.getfield 9, 3) := by decide +kernel
theorem dX1_setNumbers_24 : decode cX1_setNumbers 24 = .ok (.bipush 12, 2) := by decide +kernel
theorem dX1_setNumbers_26 : decode cX1_setNumbers 26 = .ok (.iload_n 1, 1) := by decide +kernel
theorem dX1_setNumbers_27 : decode cX1_setNumbers 27 = .ok (.imul, 1) := by decide +kernel
theorem dX1_setNumbers_28 : decode cX1_setNumbers 28 = .ok (.iload 5, 2) := by decide +kernel
theorem dX1_setNumbers_30 : decode cX1_setNumbers 30 = .ok (.iadd, 1) := by decide +kernel
theorem dX1_setNumbers_31 : decode cX1_setNumbers 31 = .ok (.iload 4, 2) := by decide +kernel
theorem dX1_setNumbers_33 : decode cX1_setNumbers 33 = .ok (.iastore, 1) := by decide +kernel
theorem dX1_setNumbers_34 : decode cX1_setNumbers 34 = .ok (.iinc 5 1, 3) := by decide +kernel
theorem dX1_setNumbers_37 : decode cX1_setNumbers 37 = .ok (.goto (-34), 3) := by decide +kernel
theorem dX1_setNumbers_40 : decode cX1_setNumbers 40 = .ok (.return_, 1) := by decide +kernel
theorem dX1_setRot_0 : decode cX1_setRot 0 = .ok (.iload_n 1, 1) := by decide +kernel
theorem dX1_setRot_1 : decode cX1_setRot 1 = .ok (.iload_n 2, 1) := by decide +kernel
theorem dX1_setRot_2 : decode cX1_setRot 2 = .ok (.invokestatic 61, 3) := by decide +kernel
theorem dX1_setRot_5 : decode cX1_setRot 5 = .ok (.ifCond .eq 15, 3) := by decide +kernel
theorem dX1_setRot_8 : decode cX1_setRot 8 = .ok (.aload_n 0, 1) := by decide +kernel
theorem dX1_setRot_9 : decode cX1_setRot 9 = .ok (.getfield 15, 3) := by decide +kernel
theorem dX1_setRot_12 : decode cX1_setRot 12 = .ok (.bipush 12, 2) := by decide +kernel
theorem dX1_setRot_14 : decode cX1_setRot 14 = .ok (.iload_n 2, 1) := by decide +kernel
theorem dX1_setRot_15 : decode cX1_setRot 15 = .ok (.imul, 1) := by decide +kernel
theorem dX1_setRot_16 : decode cX1_setRot 16 = .ok (.iload_n 1, 1) := by decide +kernel
theorem dX1_setRot_17 : decode cX1_setRot 17 = .ok (.iadd, 1) := by decide +kernel
theorem dX1_setRot_18 : decode cX1_setRot 18 = .ok (.iload_n 3, 1) := by decide +kernel
theorem dX1_setRot_19 : decode cX1_setRot 19 = .ok (.iastore, 1) := by decide +kernel
theorem dX1_setRot_20 : decode cX1_setRot 20 = .ok (.return_, 1) := by decide +kernel
theorem dX1_nailsOf_0 : decode cX1_nailsOf 0 = .ok (.aload_n 0, 1) := by decide +kernel
theorem dX1_nailsOf_1 : decode cX1_nailsOf 1 = .ok (.iload_n 1, 1) := by decide +kernel
theorem dX1_nailsOf_2 : decode cX1_nailsOf 2 = .ok (.invokevirtual 65, 3) := by decide +kernel
theorem dX1_nailsOf_5 : decode cX1_nailsOf 5 = .ok (.ifCond .eq 12, 3) := by decide +kernel
theorem dX1_nailsOf_8 : decode cX1_nailsOf 8 = .ok (.aload_n 0, 1) := by decide +kernel
theorem dX1_nailsOf_9 : decode cX1_nailsOf 9 = .ok (.getfield 27, 3) := by decide +kernel
theorem dX1_nailsOf_12 : decode cX1_nailsOf 12 = .ok (.iload_n 1, 1) := by decide +kernel
theorem dX1_nailsOf_13 : decode cX1_nailsOf 13 = .ok (.iaload, 1) := by decide +kernel
theorem dX1_nailsOf_14 : decode cX1_nailsOf 14 = .ok (.goto 4, 3) := by decide +kernel
theorem dX1_nailsOf_17 : decode cX1_nailsOf 17 = .ok (.iconst 0, 1) := by decide +kernel
theorem dX1_nailsOf_18 : decode cX1_nailsOf 18 = .ok (.ireturn, 1) := by decide +kernel
theorem dX1_setNails_0 : decode cX1_setNails 0 = .ok (.aload_n 0, 1) := by decide +kernel
theorem dX1_setNails_1 : decode cX1_setNails 1 = .ok (.iload_n 1, 1) := by decide +kernel
theorem dX1_setNails_2 : decode cX1_setNails 2 = .ok (.invokevirtual 65, 3) := by decide +kernel
theorem dX1_setNails_5 : decode cX1_setNails 5 = .ok (.ifCond .eq 10, 3) := by decide +kernel
theorem dX1_setNails_8 : decode cX1_setNails 8 = .ok (.aload_n 0, 1) := by decide +kernel
theorem dX1_setNails_9 : decode cX1_setNails 9 = .ok (.getfield 27, 3) := by decide +kernel
theorem dX1_setNails_12 : decode cX1_setNails 12 = .ok (.iload_n 1, 1) := by decide +kernel
theorem dX1_setNails_13 : decode cX1_setNails 13 = .ok (.iload_n 2, 1) := by decide +kernel
theorem dX1_setNails_14 : decode cX1_setNails 14 = .ok (.iastore, 1) := by decide +kernel
theorem dX1_setNails_15 : decode cX1_setNails 15 = .ok (.return_, 1) := by decide +kernel
theorem dX1_isFree_0 : decode cX1_isFree 0 = .ok (.iload_n 2, 1) := by decide +kernel
theorem dX1_isFree_1 : decode cX1_isFree 1 = .ok (.istore 4, 2) := by decide +kernel
theorem dX1_isFree_3 : decode cX1_isFree 3 = .ok (.iload 4, 2) := by decide +kernel
theorem dX1_isFree_5 : decode cX1_isFree 5 = .ok (.iload_n 2, 1) := by decide +kernel
theorem dX1_isFree_6 : decode cX1_isFree 6 = .ok (.iload_n 3, 1) := by decide +kernel
theorem dX1_isFree_7 : decode cX1_isFree 7 = .ok (.iadd, 1) := by decide +kernel
theorem dX1_isFree_8 : decode cX1_isFree 8 = .ok (.if_icmp .ge 35, 3) := by decide +kernel
theorem dX1_isFree_11 : decode cX1_isFree 11 = .ok (.aload_n 0, 1) := by decide +kernel
theorem dX1_isFree_12 : decode cX1_isFree 12 = .ok (.iload 4, 2) := by decide +kernel
theorem dX1_isFree_14 : decode cX1_isFree 14 = .ok (.iload_n 1, 1) := by decide +kernel
theorem dX1_isFree_15 : decode cX1_isFree 15 = .ok (.invokevirtual 68, 3) := by decide +kernel
theorem dX1_isFree_18 : decode cX1_isFree 18 = .ok (.iconst (-1), 1) := by decide +kernel
theorem dX1_isFree_19 : decode cX1_isFree 19 = .ok (.if_icmp .ne 16, 3) := by decide +kernel
theorem dX1_isFree_22 : decode cX1_isFree 22 = .ok (.aload_n 0, 1) := by decide +kernel
theorem dX1_isFree_23 : decode cX1_isFree 23 = .ok (.iload 4, 2) := by decide +kernel
theorem dX1_isFree_25 : decode cX1_isFree 25 = .ok (.iload_n 1, 1) := by decide +kernel
theorem dX1_isFree_26 : decode cX1_isFree 26 = .ok (.iconst 1, 1) := by decide +kernel
theorem dX1_isFree_27 : decode cX1_isFree 27 = .ok (.iadd, 1) := by decide +kernel
theorem dX1_isFree_28 : decode cX1_isFree 28 = .ok (.invokevirtual 68, 3) := by decide +kernel
theorem dX1_isFree_31 : decode cX1_isFree 31 = .ok (.iconst (-1), 1) := by decide +kernel
theorem dX1_isFree_32 : decode cX1_isFree 32 = .ok (.if_icmp .eq 5, 3) := by decide +kernel
theorem dX1_isFree_35 : decode cX1_isFree 35 = .ok (.iconst 0, 1) := by decide +kernel
theorem dX1_isFree_36 : decode cX1_isFree 36 = .ok (.ireturn, 1) := by decide +kernel
theorem dX1_isFree_37 : decode cX1_isFree 37 = .ok (.iinc 4 1, 3) := by decide +kernel
theorem dX1_isFree_40 : decode cX1_isFree 40 = .ok (.goto (-37), 3) := by decide +kernel
theorem dX1_isFree_43 : decode cX1_isFree 43 = .ok (.iconst 1, 1) := by decide +kernel
theorem dX1_isFree_44 : decode cX1_isFree 44 = .ok (.ireturn, 1) := by decide +kernel
theorem dX1_add_0 : decode cX1_add 0 = .ok (.aload_n 0, 1) := by decide +kernel
theorem dX1_add_1 : decode cX1_add 1 = .ok (.getfield 44, 3) := by decide +kernel
theorem dX1_add_4 : decode cX1_add 4 = .ok (.istore 5, 2) := by decide +kernel
theorem dX1_add_6 : decode cX1_add 6 = .ok (.iload 5, 2) := by decide +kernel
theorem dX1_add_8 : decode cX1_add 8 = .ok (.ifCond .lt 11, 3) := by decide +kernel
theorem dX1_add_11 : decode cX1_add 11 = .ok (.iload 5, 2) := by decide +kernel
theorem dX1_add_13 : decode cX1_add 13 = .ok (.sipush 200, 3) := by decide +kernel
theorem dX1_add_16 : decode cX1_add 16 = .ok (.if_icmp .lt 5, 3) := by decide +kernel
theorem dX1_add_19 : decode cX1_add 19 = .ok (.iconst (-1), 1) := by decide +kernel
theorem dX1_add_20 : decode cX1_add 20 = .ok (.ireturn, 1) := by decide +kernel
theorem dX1_add_21 : decode cX1_add 21 = .ok (.aload_n 0, 1) := by decide +kernel
theorem dX1_add_22 : decode cX1_add 22 = .ok (.getfield 18, 3) := by decide +kernel
theorem dX1_add_25 : decode cX1_add 25 = .ok (.iload 5, 2) := by decide +kernel
theorem dX1_add_27 : decode cX1_add 27 = .ok (.iload_n 1, 1) := by decide +kernel
theorem dX1_add_28 : decode cX1_add 28 = .ok (.iastore, 1) := by decide +kernel
theorem dX1_add_29 : decode cX1_add 29 = .ok (.aload_n 0, 1) := by decide +kernel
theorem dX1_add_30 : decode cX1_add 30 = .ok (.getfield 21, 3) := by decide +kernel
theorem dX1_add_33 : decode cX1_add 33 = .ok (.iload 5, 2) := by decide +kernel
theorem dX1_add_35 : decode cX1_add 35 = .ok (.iload_n 2, 1) := by decide +kernel
theorem dX1_add_36 : decode cX1_add 36 = .ok (.iastore, 1) := by decide +kernel
theorem dX1_add_37 : decode cX1_add 37 = .ok (.aload_n 0, 1) := by decide +kernel
theorem dX1_add_38 : decode cX1_add 38 = .ok (.getfield 24, 3) := by decide +kernel
theorem dX1_add_41 : decode cX1_add 41 = .ok (.iload 5, 2) := by decide +kernel
theorem dX1_add_43 : decode cX1_add 43 = .ok (.iload_n 3, 1) := by decide +kernel
theorem dX1_add_44 : decode cX1_add 44 = .ok (.iastore, 1) := by decide +kernel
theorem dX1_add_45 : decode cX1_add 45 = .ok (.aload_n 0, 1) := by decide +kernel
theorem dX1_add_46 : decode cX1_add 46 = .ok (.getfield 27, 3) := by decide +kernel
theorem dX1_add_49 : decode cX1_add 49 = .ok (.iload 5, 2) := by decide +kernel
theorem dX1_add_51 : decode cX1_add 51 = .ok (.iload 4, 2) := by decide +kernel
theorem dX1_add_53 : decode cX1_add 53 = .ok (.iastore, 1) := by decide +kernel
theorem dX1_add_54 : decode cX1_add 54 = .ok (.aload_n 0, 1) := by decide +kernel
theorem dX1_add_55 : decode cX1_add 55 = .ok (.getfield 30, 3) := by decide +kernel
theorem dX1_add_58 : decode cX1_add 58 = .ok (.iload 5, 2) := by decide +kernel
theorem dX1_add_60 : decode cX1_add 60 = .ok (.iconst 0, 1) := by decide +kernel
theorem dX1_add_61 : decode cX1_add 61 = .ok (.bastore, 1) := by decide +kernel
theorem dX1_add_62 : decode cX1_add 62 = .ok (.aload_n 0, 1) := by decide +kernel
theorem dX1_add_63 : decode cX1_add 63 = .ok (.getfield 34, 3) := by decide +kernel
theorem dX1_add_66 : decode cX1_add 66 = .ok (.iload 5, 2) := by decide +kernel
theorem dX1_add_68 : decode cX1_add 68 = .ok (.iconst 1, 1) := by decide +kernel
theorem dX1_add_69 : decode cX1_add 69 = .ok (.bastore, 1) := by decide +kernel
theorem dX1_add_70 : decode cX1_add 70 = .ok (.aload_n 0, 1) := by decide +kernel
theorem dX1_add_71 : decode cX1_add 71 = .ok (.iload_n 1, 1) := by decide +kernel
theorem dX1_add_72 : decode cX1_add 72 = .ok (.iload_n 2, 1) := by decide +kernel
theorem dX1_add_73 : decode cX1_add 73 = .ok (.iload_n 3, 1) := by decide +kernel
theorem dX1_add_74 : decode cX1_add 74 = .ok (.iload 5, 2) := by decide +kernel
theorem dX1_add_76 : decode cX1_add 76 = .ok (.invokevirtual 72, 3) := by decide +kernel
theorem dX1_add_79 : decode cX1_add 79 = .ok (.aload_n 0, 1) := by decide +kernel
theorem dX1_add_80 : decode cX1_add 80 = .ok (.dup, 1) := by decide +kernel
theorem dX1_add_81 : decode cX1_add 81 = .ok (.getfield 44, 3) := by decide +kernel
theorem dX1_add_84 : decode cX1_add 84 = .ok (.iconst 1, 1) := by decide +kernel
theorem dX1_add_85 : decode cX1_add 85 = .ok (.iadd, 1) := by decide +kernel
theorem dX1_add_86 : decode cX1_add 86 = .ok (.putfield 44, 3) := by decide +kernel
theorem dX1_add_89 : decode cX1_add 89 = .ok (.aload_n 0, 1) := by decide +kernel
theorem dX1_add_90 : decode cX1_add 90 = .ok (.dup, 1) := by decide +kernel
theorem dX1_add_91 : decode cX1_add 91 = .ok (.getfield 47, 3) := by decide +kernel
theorem dX1_add_94 : decode cX1_add 94 = .ok (.iconst 1, 1) := by decide +kernel
theorem dX1_add_95 : decode cX1_add 95 = .ok (.iadd, 1) := by decide +kernel
theorem dX1_add_96 : decode cX1_add 96 = .ok (.putfield 47, 3) := by decide +kernel
theorem dX1_add_99 : decode cX1_add 99 = .ok (.iload 5, 2) := by decide +kernel
theorem dX1_add_101 : decode cX1_add 101 = .ok (.ireturn, 1) := by decide +kernel
theorem dX1_remove_0 : decode cX1_remove 0 = .ok (.aload_n 0, 1) := by decide +kernel
theorem dX1_remove_1 : decode cX1_remove 1 = .ok (.iload_n 1, 1) := by decide +kernel
theorem dX1_remove_2 : decode cX1_remove 2 = .ok (.invokevirtual 53, 3) := by decide +kernel
theorem dX1_remove_5 : decode cX1_remove 5 = .ok (.ifCond .eq 43, 3) := by decide +kernel
theorem dX1_remove_8 : decode cX1_remove 8 = .ok (.aload_n 0, 1) := by decide +kernel
theorem dX1_remove_9 : decode cX1_remove 9 = .ok (.getfield 34, 3) := by decide +kernel
theorem dX1_remove_12 : decode cX1_remove 12 = .ok (.iload_n 1, 1) := by decide +kernel
theorem dX1_remove_13 : decode cX1_remove 13 = .ok (.iconst 0, 1) := by decide +kernel
theorem dX1_remove_14 : decode cX1_remove 14 = .ok (.bastore, 1) := by decide +kernel
theorem dX1_remove_15 : decode cX1_remove 15 = .ok (.aload_n 0, 1) := by decide +kernel
theorem dX1_remove_16 : decode cX1_remove 16 = .ok (.aload_n 0, 1) := by decide +kernel
theorem dX1_remove_17 : decode cX1_remove 17 = .ok (.getfield 18, 3) := by decide +kernel
theorem dX1_remove_20 : decode cX1_remove 20 = .ok (.iload_n 1, 1) := by decide +kernel
theorem dX1_remove_21 : decode cX1_remove 21 = .ok (.iaload, 1) := by decide +kernel
theorem dX1_remove_22 : decode cX1_remove 22 = .ok (.aload_n 0, 1) := by decide +kernel
theorem dX1_remove_23 : decode cX1_remove 23 = .ok (.getfield 21, 3) := by decide +kernel
theorem dX1_remove_26 : decode cX1_remove 26 = .ok (.iload_n 1, 1) := by decide +kernel
theorem dX1_remove_27 : decode cX1_remove 27 = .ok (.iaload, 1) := by decide +kernel
theorem dX1_remove_28 : decode cX1_remove 28 = .ok (.aload_n 0, 1) := by decide +kernel
theorem dX1_remove_29 : decode cX1_remove 29 = .ok (.getfield 24, 3) := by decide +kernel
theorem dX1_remove_32 : decode cX1_remove 32 = .ok (.iload_n 1, 1) := by decide +kernel
theorem dX1_remove_33 : decode cX1_remove 33 = .ok (.iaload, 1) := by decide +kernel
theorem dX1_remove_34 : decode cX1_remove 34 = .ok (.iconst (-1), 1) := by decide +kernel
theorem dX1_remove_35 : decode cX1_remove 35 = .ok (.invokevirtual 72, 3) := by decide +kernel
theorem dX1_remove_38 : decode cX1_remove 38 = .ok (.aload_n 0, 1) := by decide +kernel
theorem dX1_remove_39 : decode cX1_remove 39 = .ok (.dup, 1) := by decide +kernel
theorem dX1_remove_40 : decode cX1_remove 40 = .ok (.getfield 47, 3) := by decide +kernel
theorem dX1_remove_43 : decode cX1_remove 43 = .ok (.iconst 1, 1) := by decide +kernel
theorem dX1_remove_44 : decode cX1_remove 44 = .ok (.isub, 1) := by decide +kernel
theorem dX1_remove_45 : decode cX1_remove 45 = .ok (.putfield 47, 3) := by decide +kernel
theorem dX1_remove_48 : decode cX1_remove 48 = .ok (.return_, 1) := by decide +kernel
theorem dX1_tellSlate_0 : decode cX1_tellSlate 0 = .ok (.aload_n 0, 1) := by decide +kernel
theorem dX1_tellSlate_1 : decode cX1_tellSlate 1 = .ok (.iload_n 1, 1) := by decide +kernel
theorem dX1_tellSlate_2 : decode cX1_tellSlate 2 = .ok (.invokevirtual 65, 3) := by decide +kernel
theorem dX1_tellSlate_5 : decode cX1_tellSlate 5 = .ok (.ifCond .ne 5, 3) := by decide +kernel
theorem dX1_tellSlate_8 : decode cX1_tellSlate 8 = .ok (.iconst 0, 1) := by decide +kernel
theorem dX1_tellSlate_9 : decode cX1_tellSlate 9 = .ok (.ireturn, 1) := by decide +kernel
theorem dX1_tellSlate_10 : decode cX1_tellSlate 10 = .ok (.iload_n 2, 1) := by decide +kernel
theorem dX1_tellSlate_11 : decode cX1_tellSlate 11 = .ok (.tableswitch 105 0 6 #[41, 48, 55, 62, 69, 84, 99], 41) := by decide +kernel
theorem dX1_tellSlate_52 : decode cX1_tellSlate 52 = .ok (.aload_n 0, 1) := by decide +kernel
theorem dX1_tellSlate_53 : decode cX1_tellSlate 53 = .ok (.getfield 18, 3) := by decide +kernel
theorem dX1_tellSlate_56 : decode cX1_tellSlate 56 = .ok (.iload_n 1, 1) := by decide +kernel
theorem dX1_tellSlate_57 : decode cX1_tellSlate 57 = .ok (.iaload, 1) := by decide +kernel
theorem dX1_tellSlate_58 : decode cX1_tellSlate 58 = .ok (.ireturn, 1) := by decide +kernel
theorem dX1_tellSlate_59 : decode cX1_tellSlate 59 = .ok (.aload_n 0, 1) := by decide +kernel
theorem dX1_tellSlate_60 : decode cX1_tellSlate 60 = .ok (.getfield 21, 3) := by decide +kernel
theorem dX1_tellSlate_63 : decode cX1_tellSlate 63 = .ok (.iload_n 1, 1) := by decide +kernel
theorem dX1_tellSlate_64 : decode cX1_tellSlate 64 = .ok (.iaload, 1) := by decide +kernel
theorem dX1_tellSlate_65 : decode cX1_tellSlate 65 = .ok (.ireturn, 1) := by decide +kernel
theorem dX1_tellSlate_66 : decode cX1_tellSlate 66 = .ok (.aload_n 0, 1) := by decide +kernel
theorem dX1_tellSlate_67 : decode cX1_tellSlate 67 = .ok (.getfield 24, 3) := by decide +kernel
theorem dX1_tellSlate_70 : decode cX1_tellSlate 70 = .ok (.iload_n 1, 1) := by decide +kernel
theorem dX1_tellSlate_71 : decode cX1_tellSlate 71 = .ok (.iaload, 1) := by decide +kernel
theorem dX1_tellSlate_72 : decode cX1_tellSlate 72 = .ok (.ireturn, 1) := by decide +kernel
theorem dX1_tellSlate_73 : decode cX1_tellSlate 73 = .ok (.aload_n 0, 1) := by decide +kernel
theorem dX1_tellSlate_74 : decode cX1_tellSlate 74 = .ok (.getfield 27, 3) := by decide +kernel
theorem dX1_tellSlate_77 : decode cX1_tellSlate 77 = .ok (.iload_n 1, 1) := by decide +kernel
theorem dX1_tellSlate_78 : decode cX1_tellSlate 78 = .ok (.iaload, 1) := by decide +kernel
theorem dX1_tellSlate_79 : decode cX1_tellSlate 79 = .ok (.ireturn, 1) := by decide +kernel
theorem dX1_tellSlate_80 : decode cX1_tellSlate 80 = .ok (.aload_n 0, 1) := by decide +kernel
theorem dX1_tellSlate_81 : decode cX1_tellSlate 81 = .ok (.getfield 30, 3) := by decide +kernel
theorem dX1_tellSlate_84 : decode cX1_tellSlate 84 = .ok (.iload_n 1, 1) := by decide +kernel
theorem dX1_tellSlate_85 : decode cX1_tellSlate 85 = .ok (.baload, 1) := by decide +kernel
theorem dX1_tellSlate_86 : decode cX1_tellSlate 86 = .ok (.ifCond .eq 7, 3) := by decide +kernel
theorem dX1_tellSlate_89 : decode cX1_tellSlate 89 = .ok (.iconst 1, 1) := by decide +kernel
theorem dX1_tellSlate_90 : decode cX1_tellSlate 90 = .ok (.goto 4, 3) := by decide +kernel
theorem dX1_tellSlate_93 : decode cX1_tellSlate 93 = .ok (.iconst 0, 1) := by decide +kernel
theorem dX1_tellSlate_94 : decode cX1_tellSlate 94 = .ok (.ireturn, 1) := by decide +kernel
theorem dX1_tellSlate_95 : decode cX1_tellSlate 95 = .ok (.aload_n 0, 1) := by decide +kernel
theorem dX1_tellSlate_96 : decode cX1_tellSlate 96 = .ok (.getfield 34, 3) := by decide +kernel
theorem dX1_tellSlate_99 : decode cX1_tellSlate 99 = .ok (.iload_n 1, 1) := by decide +kernel
theorem dX1_tellSlate_100 : decode cX1_tellSlate 100 = .ok (.baload, 1) := by decide +kernel
theorem dX1_tellSlate_101 : decode cX1_tellSlate 101 = .ok (.ifCond .eq 7, 3) := by decide +kernel
theorem dX1_tellSlate_104 : decode cX1_tellSlate 104 = .ok (.iconst 1, 1) := by decide +kernel
theorem dX1_tellSlate_105 : decode cX1_tellSlate 105 = .ok (.goto 4, 3) := by decide +kernel
theorem dX1_tellSlate_108 : decode cX1_tellSlate 108 = .ok (.iconst 0, 1) := by decide +kernel
theorem dX1_tellSlate_109 : decode cX1_tellSlate 109 = .ok (.ireturn, 1) := by decide +kernel
theorem dX1_tellSlate_110 : decode cX1_tellSlate 110 = .ok (.aload_n 0, 1) := by decide +kernel
theorem dX1_tellSlate_111 : decode cX1_tellSlate 111 = .ok (.iload_n 1, 1) := by decide +kernel
theorem dX1_tellSlate_112 : decode cX1_tellSlate 112 = .ok (.invokevirtual 76, 3) := by decide +kernel
theorem dX1_tellSlate_115 : decode cX1_tellSlate 115 = .ok (.ireturn, 1) := by decide +kernel
theorem dX1_tellSlate_116 : decode cX1_tellSlate 116 = .ok (.aload_n 0, 1) := by decide +kernel
theorem dX1_tellSlate_117 : decode cX1_tellSlate 117 = .ok (.iload_n 1, 1) := by decide +kernel
theorem dX1_tellSlate_118 : decode cX1_tellSlate 118 = .ok (.invokevirtual 57, 3) := by decide +kernel
theorem dX1_tellSlate_121 : decode cX1_tellSlate 121 = .ok (.ireturn, 1) := by decide +kernel
theorem dX1_uponIt_0 : decode cX1_uponIt 0 = .ok (.aload_n 0, 1) := by decide +kernel
theorem dX1_uponIt_1 : decode cX1_uponIt 1 = .ok (.iload_n 1, 1) := by decide +kernel
theorem dX1_uponIt_2 : decode cX1_uponIt 2 = .ok (.invokevirtual 53, 3) := by decide +kernel
theorem dX1_uponIt_5 : decode cX1_uponIt 5 = .ok (.ifCond .ne 5, 3) := by decide +kernel
theorem dX1_uponIt_8 : decode cX1_uponIt 8 = .ok (.iconst 0, 1) := by decide +kernel
theorem dX1_uponIt_9 : decode cX1_uponIt 9 = .ok (.ireturn, 1) := by decide +kernel
theorem dX1_uponIt_10 : decode cX1_uponIt 10 = .ok (.iconst 0, 1) := by decide +kernel
theorem dX1_uponIt_11 : decode cX1_uponIt 11 = .ok (.istore_n 2, 1) := by decide +kernel
theorem dX1_uponIt_12 : decode cX1_uponIt 12 = .ok (.iconst (-1), 1) := by decide +kernel
theorem dX1_uponIt_13 : decode cX1_uponIt 13 = .ok (.istore_n 3, 1) := by decide +kernel
theorem dX1_uponIt_14 : decode cX1_uponIt 14 = .ok (.aload_n 0, 1) := by decide +kernel
theorem dX1_uponIt_15 : decode cX1_uponIt 15 = .ok (.getfield 21, 3) := by decide +kernel
theorem dX1_uponIt_18 : decode cX1_uponIt 18 = .ok (.iload_n 1, 1) := by decide +kernel
theorem dX1_uponIt_19 : decode cX1_uponIt 19 = .ok (.iaload, 1) := by decide +kernel
theorem dX1_uponIt_20 : decode cX1_uponIt 20 = .ok (.istore 4, 2) := by decide +kernel
theorem dX1_uponIt_22 : decode cX1_uponIt 22 = .ok (.iload 4, 2) := by decide +kernel
theorem dX1_uponIt_24 : decode cX1_uponIt 24 = .ok (.aload_n 0, 1) := by decide +kernel
theorem dX1_uponIt_25 : decode cX1_uponIt 25 = .ok (.getfield 21, 3) := by decide +kernel
theorem dX1_uponIt_28 : decode cX1_uponIt 28 = .ok (.iload_n 1, 1) := by decide +kernel
theorem dX1_uponIt_29 : decode cX1_uponIt 29 = .ok (.iaload, 1) := by decide +kernel
theorem dX1_uponIt_30 : decode cX1_uponIt 30 = .ok (.aload_n 0, 1) := by decide +kernel
theorem dX1_uponIt_31 : decode cX1_uponIt 31 = .ok (.getfield 24, 3) := by decide +kernel
theorem dX1_uponIt_34 : decode cX1_uponIt 34 = .ok (.iload_n 1, 1) := by decide +kernel
theorem dX1_uponIt_35 : decode cX1_uponIt 35 = .ok (.iaload, 1) := by decide +kernel
theorem dX1_uponIt_36 : decode cX1_uponIt 36 = .ok (.iadd, 1) := by decide +kernel
theorem dX1_uponIt_37 : decode cX1_uponIt 37 = .ok (.if_icmp .ge 43, 3) := by decide +kernel
theorem dX1_uponIt_40 : decode cX1_uponIt 40 = .ok (.aload_n 0, 1) := by decide +kernel
theorem dX1_uponIt_41 : decode cX1_uponIt 41 = .ok (.iload 4, 2) := by decide +kernel
theorem dX1_uponIt_43 : decode cX1_uponIt 43 = .ok (.aload_n 0, 1) := by decide +kernel
theorem dX1_uponIt_44 : decode cX1_uponIt 44 = .ok (.getfield 18, 3) := by decide +kernel
theorem dX1_uponIt_47 : decode cX1_uponIt 47 = .ok (.iload_n 1, 1) := by decide +kernel
theorem dX1_uponIt_48 : decode cX1_uponIt 48 = .ok (.iaload, 1) := by decide +kernel
theorem dX1_uponIt_49 : decode cX1_uponIt 49 = .ok (.iconst 1, 1) := by decide +kernel
theorem dX1_uponIt_50 : decode cX1_uponIt 50 = .ok (.iadd, 1) := by decide +kernel
theorem dX1_uponIt_51 : decode cX1_uponIt 51 = .ok (.invokevirtual 68, 3) := by decide +kernel
theorem dX1_uponIt_54 : decode cX1_uponIt 54 = .ok (.istore 5, 2) := by decide +kernel
theorem dX1_uponIt_56 : decode cX1_uponIt 56 = .ok (.iload 5, 2) := by decide +kernel
theorem dX1_uponIt_58 : decode cX1_uponIt 58 = .ok (.iconst (-1), 1) := by decide +kernel
theorem dX1_uponIt_59 : decode cX1_uponIt 59 = .ok (.if_icmp .eq 15, 3) := by decide +kernel
theorem dX1_uponIt_62 : decode cX1_uponIt 62 = .ok (.iload 5, 2) := by decide +kernel
theorem dX1_uponIt_64 : decode cX1_uponIt 64 = .ok (.iload_n 3, 1) := by decide +kernel
theorem dX1_uponIt_65 : decode cX1_uponIt 65 = .ok (.if_icmp .eq 9, 3) := by decide +kernel
theorem dX1_uponIt_68 : decode cX1_uponIt 68 = .ok (.iinc 2 1, 3) := by decide +kernel
theorem dX1_uponIt_71 : decode cX1_uponIt 71 = .ok (.iload 5, 2) := by decide +kernel
theorem dX1_uponIt_73 : decode cX1_uponIt 73 = .ok (.istore_n 3, 1) := by decide +kernel
theorem dX1_uponIt_74 : decode cX1_uponIt 74 = .ok (.iinc 4 1, 3) := by decide +kernel
theorem dX1_uponIt_77 : decode cX1_uponIt 77 = .ok (.goto (-55), 3) := by decide +kernel
theorem dX1_uponIt_80 : decode cX1_uponIt 80 = .ok (.iload_n 2, 1) := by decide +kernel
theorem dX1_uponIt_81 : decode cX1_uponIt 81 = .ok (.ireturn, 1) := by decide +kernel
theorem dX1_holdOf_0 : decode cX1_holdOf 0 = .ok (.aload_n 0, 1) := by decide +kernel
theorem dX1_holdOf_1 : decode cX1_holdOf 1 = .ok (.iload_n 1, 1) := by decide +kernel
theorem dX1_holdOf_2 : decode cX1_holdOf 2 = .ok (.invokevirtual 53, 3) := by decide +kernel
theorem dX1_holdOf_5 : decode cX1_holdOf 5 = .ok (.ifCond .ne 5, 3) := by decide +kernel
theorem dX1_holdOf_8 : decode cX1_holdOf 8 = .ok (.iconst 0, 1) := by decide +kernel
theorem dX1_holdOf_9 : decode cX1_holdOf 9 = .ok (.ireturn, 1) := by decide +kernel
theorem dX1_holdOf_10 : decode cX1_holdOf 10 = .ok (.aload_n 0, 1) := by decide +kernel
theorem dX1_holdOf_11 : decode cX1_holdOf 11 = .ok (.iload_n 1, 1) := by decide +kernel
theorem dX1_holdOf_12 : decode cX1_holdOf 12 = .ok (.invokevirtual 79, 3) := by decide +kernel
theorem dX1_holdOf_15 : decode cX1_holdOf 15 = .ok (.ifCond .eq 7, 3) := by decide +kernel
theorem dX1_holdOf_18 : decode cX1_holdOf 18 = .ok (.iconst 2, 1) := by decide +kernel
theorem dX1_holdOf_19 : decode cX1_holdOf 19 = .ok (.goto 4, 3) := by decide +kernel
theorem dX1_holdOf_22 : decode cX1_holdOf 22 = .ok (.iconst 3, 1) := by decide +kernel
theorem dX1_holdOf_23 : decode cX1_holdOf 23 = .ok (.istore_n 2, 1) := by decide +kernel
theorem dX1_holdOf_24 : decode cX1_holdOf 24 = .ok (.iload_n 2, 1) := by decide +kernel
theorem dX1_holdOf_25 : decode cX1_holdOf 25 = .ok (.aload_n 0, 1) := by decide +kernel
theorem dX1_holdOf_26 : decode cX1_holdOf 26 = .ok (.getfield 27, 3) := by decide +kernel
theorem dX1_holdOf_29 : decode cX1_holdOf 29 = .ok (.iload_n 1, 1) := by decide +kernel
theorem dX1_holdOf_30 : decode cX1_holdOf 30 = .ok (.iaload, 1) := by decide +kernel
theorem dX1_holdOf_31 : decode cX1_holdOf 31 = .ok (.imul, 1) := by decide +kernel
theorem dX1_holdOf_32 : decode cX1_holdOf 32 = .ok (.iconst 2, 1) := by decide +kernel
theorem dX1_holdOf_33 : decode cX1_holdOf 33 = .ok (.aload_n 0, 1) := by decide +kernel
theorem dX1_holdOf_34 : decode cX1_holdOf 34 = .ok (.iload_n 1, 1) := by decide +kernel
theorem dX1_holdOf_35 : decode cX1_holdOf 35 = .ok (.invokevirtual 57, 3) := by decide +kernel
theorem dX1_holdOf_38 : decode cX1_holdOf 38 = .ok (.imul, 1) := by decide +kernel
theorem dX1_holdOf_39 : decode cX1_holdOf 39 = .ok (.iadd, 1) := by decide +kernel
theorem dX1_holdOf_40 : decode cX1_holdOf 40 = .ok (.istore_n 3, 1) := by decide +kernel
theorem dX1_holdOf_41 : decode cX1_holdOf 41 = .ok (.aload_n 0, 1) := by decide +kernel
theorem dX1_holdOf_42 : decode cX1_holdOf 42 = .ok (.getfield 30, 3) := by decide +kernel
theorem dX1_holdOf_45 : decode cX1_holdOf 45 = .ok (.iload_n 1, 1) := by decide +kernel
theorem dX1_holdOf_46 : decode cX1_holdOf 46 = .ok (.baload, 1) := by decide +kernel
theorem dX1_holdOf_47 : decode cX1_holdOf 47 = .ok (.ifCond .eq 9, 3) := by decide +kernel
theorem dX1_holdOf_50 : decode cX1_holdOf 50 = .ok (.iload_n 3, 1) := by decide +kernel
theorem dX1_holdOf_51 : decode cX1_holdOf 51 = .ok (.iconst 2, 1) := by decide +kernel
theorem dX1_holdOf_52 : decode cX1_holdOf 52 = .ok (.idiv, 1) := by decide +kernel
theorem dX1_holdOf_53 : decode cX1_holdOf 53 = .ok (.goto 4, 3) := by decide +kernel
theorem dX1_holdOf_56 : decode cX1_holdOf 56 = .ok (.iload_n 3, 1) := by decide +kernel
theorem dX1_holdOf_57 : decode cX1_holdOf 57 = .ok (.ireturn, 1) := by decide +kernel
theorem dX1_isOnRot_0 : decode cX1_isOnRot 0 = .ok (.aload_n 0, 1) := by decide +kernel
theorem dX1_isOnRot_1 : decode cX1_isOnRot 1 = .ok (.iload_n 1, 1) := by decide +kernel
theorem dX1_isOnRot_2 : decode cX1_isOnRot 2 = .ok (.invokevirtual 65, 3) := by decide +kernel
theorem dX1_isOnRot_5 : decode cX1_isOnRot 5 = .ok (.ifCond .ne 5, 3) := by decide +kernel
theorem dX1_isOnRot_8 : decode cX1_isOnRot 8 = .ok (.iconst 0, 1) := by decide +kernel
theorem dX1_isOnRot_9 : decode cX1_isOnRot 9 = .ok (.ireturn, 1) := by decide +kernel
theorem dX1_isOnRot_10 : decode cX1_isOnRot 10 = .ok (.aload_n 0, 1) := by decide +kernel
theorem dX1_isOnRot_11 : decode cX1_isOnRot 11 = .ok (.getfield 21, 3) := by decide +kernel
theorem dX1_isOnRot_14 : decode cX1_isOnRot 14 = .ok (.iload_n 1, 1) := by decide +kernel
theorem dX1_isOnRot_15 : decode cX1_isOnRot 15 = .ok (.iaload, 1) := by decide +kernel
theorem dX1_isOnRot_16 : decode cX1_isOnRot 16 = .ok (.istore_n 2, 1) := by decide +kernel
theorem dX1_isOnRot_17 : decode cX1_isOnRot 17 = .ok (.iload_n 2, 1) := by decide +kernel
theorem dX1_isOnRot_18 : decode cX1_isOnRot 18 = .ok (.aload_n 0, 1) := by decide +kernel
theorem dX1_isOnRot_19 : decode cX1_isOnRot 19 = .ok (.getfield 21, 3) := by decide +kernel
theorem dX1_isOnRot_22 : decode cX1_isOnRot 22 = .ok (.iload_n 1, 1) := by decide +kernel
theorem dX1_isOnRot_23 : decode cX1_isOnRot 23 = .ok (.iaload, 1) := by decide +kernel
theorem dX1_isOnRot_24 : decode cX1_isOnRot 24 = .ok (.aload_n 0, 1) := by decide +kernel
theorem dX1_isOnRot_25 : decode cX1_isOnRot 25 = .ok (.getfield 24, 3) := by decide +kernel
theorem dX1_isOnRot_28 : decode cX1_isOnRot 28 = .ok (.iload_n 1, 1) := by decide +kernel
theorem dX1_isOnRot_29 : decode cX1_isOnRot 29 = .ok (.iaload, 1) := by decide +kernel
theorem dX1_isOnRot_30 : decode cX1_isOnRot 30 = .ok (.iadd, 1) := by decide +kernel
theorem dX1_isOnRot_31 : decode cX1_isOnRot 31 = .ok (.if_icmp .ge 26, 3) := by decide +kernel
theorem dX1_isOnRot_34 : decode cX1_isOnRot 34 = .ok (.aload_n 0, 1) := by decide +kernel
theorem dX1_isOnRot_35 : decode cX1_isOnRot 35 = .ok (.iload_n 2, 1) := by decide +kernel
theorem dX1_isOnRot_36 : decode cX1_isOnRot 36 = .ok (.aload_n 0, 1) := by decide +kernel
theorem dX1_isOnRot_37 : decode cX1_isOnRot 37 = .ok (.getfield 18, 3) := by decide +kernel
theorem dX1_isOnRot_40 : decode cX1_isOnRot 40 = .ok (.iload_n 1, 1) := by decide +kernel
theorem dX1_isOnRot_41 : decode cX1_isOnRot 41 = .ok (.iaload, 1) := by decide +kernel
theorem dX1_isOnRot_42 : decode cX1_isOnRot 42 = .ok (.invokevirtual 82, 3) := by decide +kernel
theorem dX1_isOnRot_45 : decode cX1_isOnRot 45 = .ok (.iconst 5, 1) := by decide +kernel
theorem dX1_isOnRot_46 : decode cX1_isOnRot 46 = .ok (.if_icmp .lt 5, 3) := by decide +kernel
theorem dX1_isOnRot_49 : decode cX1_isOnRot 49 = .ok (.iconst 1, 1) := by decide +kernel
theorem dX1_isOnRot_50 : decode cX1_isOnRot 50 = .ok (.ireturn, 1) := by decide +kernel
theorem dX1_isOnRot_51 : decode cX1_isOnRot 51 = .ok (.iinc 2 1, 3) := by decide +kernel
theorem dX1_isOnRot_54 : decode cX1_isOnRot 54 = .ok (.goto (-37), 3) := by decide +kernel
theorem dX1_isOnRot_57 : decode cX1_isOnRot 57 = .ok (.iconst 0, 1) := by decide +kernel
theorem dX1_isOnRot_58 : decode cX1_isOnRot 58 = .ok (.ireturn, 1) := by decide +kernel
theorem dX1_liftOf_0 : decode cX1_liftOf 0 = .ok (.aload_n 0, 1) := by decide +kernel
theorem dX1_liftOf_1 : decode cX1_liftOf 1 = .ok (.iload_n 1, 1) := by decide +kernel
theorem dX1_liftOf_2 : decode cX1_liftOf 2 = .ok (.invokevirtual 65, 3) := by decide +kernel
theorem dX1_liftOf_5 : decode cX1_liftOf 5 = .ok (.ifCond .ne 5, 3) := by decide +kernel
theorem dX1_liftOf_8 : decode cX1_liftOf 8 = .ok (.iconst 0, 1) := by decide +kernel
theorem dX1_liftOf_9 : decode cX1_liftOf 9 = .ok (.ireturn, 1) := by decide +kernel
theorem dX1_liftOf_10 : decode cX1_liftOf 10 = .ok (.iload_n 3, 1) := by decide +kernel
theorem dX1_liftOf_11 : decode cX1_liftOf 11 = .ok (.ifCond .eq 19, 3) := by decide +kernel
theorem dX1_liftOf_14 : decode cX1_liftOf 14 = .ok (.aload_n 0, 1) := by decide +kernel
theorem dX1_liftOf_15 : decode cX1_liftOf 15 = .ok (.getfield 21, 3) := by decide +kernel
theorem dX1_liftOf_18 : decode cX1_liftOf 18 = .ok (.iload_n 1, 1) := by decide +kernel
theorem dX1_liftOf_19 : decode cX1_liftOf 19 = .ok (.iaload, 1) := by decide +kernel
theorem dX1_liftOf_20 : decode cX1_liftOf 20 = .ok (.aload_n 0, 1) := by decide +kernel
theorem dX1_liftOf_21 : decode cX1_liftOf 21 = .ok (.getfield 24, 3) := by decide +kernel
theorem dX1_liftOf_24 : decode cX1_liftOf 24 = .ok (.iload_n 1, 1) := by decide +kernel
theorem dX1_liftOf_25 : decode cX1_liftOf 25 = .ok (.iaload, 1) := by decide +kernel
theorem dX1_liftOf_26 : decode cX1_liftOf 26 = .ok (.iadd, 1) := by decide +kernel
theorem dX1_liftOf_27 : decode cX1_liftOf 27 = .ok (.goto 11, 3) := by decide +kernel
theorem dX1_liftOf_30 : decode cX1_liftOf 30 = .ok (.aload_n 0, 1) := by decide +kernel
theorem dX1_liftOf_31 : decode cX1_liftOf 31 = .ok (.getfield 21, 3) := by decide +kernel
theorem dX1_liftOf_34 : decode cX1_liftOf 34 = .ok (.iload_n 1, 1) := by decide +kernel
theorem dX1_liftOf_35 : decode cX1_liftOf 35 = .ok (.iaload, 1) := by decide +kernel
theorem dX1_liftOf_36 : decode cX1_liftOf 36 = .ok (.iconst 1, 1) := by decide +kernel
theorem dX1_liftOf_37 : decode cX1_liftOf 37 = .ok (.isub, 1) := by decide +kernel
theorem dX1_liftOf_38 : decode cX1_liftOf 38 = .ok (.istore 4, 2) := by decide +kernel
theorem dX1_liftOf_40 : decode cX1_liftOf 40 = .ok (.aload_n 0, 1) := by decide +kernel
theorem dX1_liftOf_41 : decode cX1_liftOf 41 = .ok (.iload 4, 2) := by decide +kernel
theorem dX1_liftOf_43 : decode cX1_liftOf 43 = .ok (.aload_n 0, 1) := by decide +kernel
theorem dX1_liftOf_44 : decode cX1_liftOf 44 = .ok (.getfield 18, 3) := by decide +kernel
theorem dX1_liftOf_47 : decode cX1_liftOf 47 = .ok (.iload_n 1, 1) := by decide +kernel
theorem dX1_liftOf_48 : decode cX1_liftOf 48 = .ok (.iaload, 1) := by decide +kernel
theorem dX1_liftOf_49 : decode cX1_liftOf 49 = .ok (.invokevirtual 68, 3) := by decide +kernel
theorem dX1_liftOf_52 : decode cX1_liftOf 52 = .ok (.iconst (-1), 1) := by decide +kernel
theorem dX1_liftOf_53 : decode cX1_liftOf 53 = .ok (.if_icmp .eq 7, 3) := by decide +kernel
theorem dX1_liftOf_56 : decode cX1_liftOf 56 = .ok (.iconst 2, 1) := by decide +kernel
theorem dX1_liftOf_57 : decode cX1_liftOf 57 = .ok (.goto 4, 3) := by decide +kernel
theorem dX1_liftOf_60 : decode cX1_liftOf 60 = .ok (.iconst 0, 1) := by decide +kernel
theorem dX1_liftOf_61 : decode cX1_liftOf 61 = .ok (.istore 5, 2) := by decide +kernel
theorem dX1_liftOf_63 : decode cX1_liftOf 63 = .ok (.iload_n 2, 1) := by decide +kernel
theorem dX1_liftOf_64 : decode cX1_liftOf 64 = .ok (.aload_n 0, 1) := by decide +kernel
theorem dX1_liftOf_65 : decode cX1_liftOf 65 = .ok (.getfield 18, 3) := by decide +kernel
theorem dX1_liftOf_68 : decode cX1_liftOf 68 = .ok (.iload_n 1, 1) := by decide +kernel
theorem dX1_liftOf_69 : decode cX1_liftOf 69 = .ok (.iaload, 1) := by decide +kernel
theorem dX1_liftOf_70 : decode cX1_liftOf 70 = .ok (.iadd, 1) := by decide +kernel
theorem dX1_liftOf_71 : decode cX1_liftOf 71 = .ok (.iload 5, 2) := by decide +kernel
theorem dX1_liftOf_73 : decode cX1_liftOf 73 = .ok (.isub, 1) := by decide +kernel
theorem dX1_liftOf_74 : decode cX1_liftOf 74 = .ok (.ireturn, 1) := by decide +kernel
theorem dX1_blow_0 : decode cX1_blow 0 = .ok (.iload_n 1, 1) := by decide +kernel
theorem dX1_blow_1 : decode cX1_blow 1 = .ok (.iconst 1, 1) := by decide +kernel
theorem dX1_blow_2 : decode cX1_blow 2 = .ok (.if_icmp .ge 5, 3) := by decide +kernel
theorem dX1_blow_5 : decode cX1_blow 5 = .ok (.iconst 0, 1) := by decide +kernel
theorem dX1_blow_6 : decode cX1_blow 6 = .ok (.ireturn, 1) := by decide +kernel
theorem dX1_blow_7 : decode cX1_blow 7 = .ok (.iconst 1, 1) := by decide +kernel
theorem dX1_blow_8 : decode cX1_blow 8 = .ok (.istore_n 3, 1) := by decide +kernel
theorem dX1_blow_9 : decode cX1_blow 9 = .ok (.iload_n 3, 1) := by decide +kernel
theorem dX1_blow_10 : decode cX1_blow 10 = .ok (.bipush 60, 2) := by decide +kernel
theorem dX1_blow_12 : decode cX1_blow 12 = .ok (.if_icmp .gt 33, 3) := by decide +kernel
theorem dX1_blow_15 : decode cX1_blow 15 = .ok (.aload_n 0, 1) := by decide +kernel
theorem dX1_blow_16 : decode cX1_blow 16 = .ok (.iload_n 1, 1) := by decide +kernel
theorem dX1_blow_17 : decode cX1_blow 17 = .ok (.iload_n 2, 1) := by decide +kernel
theorem dX1_blow_18 : decode cX1_blow 18 = .ok (.invokevirtual 85, 3) := by decide +kernel
theorem dX1_blow_21 : decode cX1_blow 21 = .ok (.ifCond .ne 5, 3) := by decide +kernel
theorem dX1_blow_24 : decode cX1_blow 24 = .ok (.iload_n 3, 1) := by decide +kernel
theorem dX1_blow_25 : decode cX1_blow 25 = .ok (.ireturn, 1) := by decide +kernel
theorem dX1_blow_26 : decode cX1_blow 26 = .ok (.aload_n 0, 1) := by decide +kernel
theorem dX1_blow_27 : decode cX1_blow 27 = .ok (.dup, 1) := by decide +kernel
theorem dX1_blow_28 : decode cX1_blow 28 = .ok (.getfield 50, 3) := by decide +kernel
theorem dX1_blow_31 : decode cX1_blow 31 = .ok (.aload_n 0, 1) := by decide +kernel
theorem dX1_blow_32 : decode cX1_blow 32 = .ok (.invokevirtual 89, 3) := by decide +kernel
theorem dX1_blow_35 : decode cX1_blow 35 = .ok (.iadd, 1) := by decide +kernel
theorem dX1_blow_36 : decode cX1_blow 36 = .ok (.putfield 50, 3) := by decide +kernel
theorem dX1_blow_39 : decode cX1_blow 39 = .ok (.iinc 3 1, 3) := by decide +kernel
theorem dX1_blow_42 : decode cX1_blow 42 = .ok (.goto (-33), 3) := by decide +kernel
theorem dX1_blow_45 : decode cX1_blow 45 = .ok (.bipush 61, 2) := by decide +kernel
theorem dX1_blow_47 : decode cX1_blow 47 = .ok (.ireturn, 1) := by decide +kernel
theorem dX1_markLifted_0 : decode cX1_markLifted 0 = .ok (.iconst 0, 1) := by decide +kernel
theorem dX1_markLifted_1 : decode cX1_markLifted 1 = .ok (.istore_n 3, 1) := by decide +kernel
theorem dX1_markLifted_2 : decode cX1_markLifted 2 = .ok (.iconst 0, 1) := by decide +kernel
theorem dX1_markLifted_3 : decode cX1_markLifted 3 = .ok (.istore 4, 2) := by decide +kernel
theorem dX1_markLifted_5 : decode cX1_markLifted 5 = .ok (.iload 4, 2) := by decide +kernel
theorem dX1_markLifted_7 : decode cX1_markLifted 7 = .ok (.aload_n 0, 1) := by decide +kernel
theorem dX1_markLifted_8 : decode cX1_markLifted 8 = .ok (.getfield 44, 3) := by decide +kernel
theorem dX1_markLifted_11 : decode cX1_markLifted 11 = .ok (.if_icmp .ge 69, 3) := by decide +kernel
theorem dX1_markLifted_14 : decode cX1_markLifted 14 = .ok (.iload 4, 2) := by decide +kernel
theorem dX1_markLifted_16 : decode cX1_markLifted 16 = .ok (.sipush 200, 3) := by decide +kernel
theorem dX1_markLifted_19 : decode cX1_markLifted 19 = .ok (.if_icmp .ge 61, 3) := by decide +kernel
theorem dX1_markLifted_22 : decode cX1_markLifted 22 = .ok (.aload_n 0, 1) := by decide +kernel
theorem dX1_markLifted_23 : decode cX1_markLifted 23 = .ok (.getfield 37, 3) := by decide +kernel
theorem dX1_markLifted_26 : decode cX1_markLifted 26 = .ok (.iload 4, 2) := by decide +kernel
theorem dX1_markLifted_28 : decode cX1_markLifted 28 = .ok (.aload_n 0, 1) := by decide +kernel
theorem dX1_markLifted_29 : decode cX1_markLifted 29 = .ok (.getfield 34, 3) := by decide +kernel
theorem dX1_markLifted_32 : decode cX1_markLifted 32 = .ok (.iload 4, 2) := by decide +kernel
theorem dX1_markLifted_34 : decode cX1_markLifted 34 = .ok (.baload, 1) := by decide +kernel
theorem dX1_markLifted_35 : decode cX1_markLifted 35 = .ok (.ifCond .eq 24, 3) := by decide +kernel
theorem dX1_markLifted_38 : decode cX1_markLifted 38 = .ok (.aload_n 0, 1) := by decide +kernel
theorem dX1_markLifted_39 : decode cX1_markLifted 39 = .ok (.iload 4, 2) := by decide +kernel
theorem dX1_markLifted_41 : decode cX1_markLifted 41 = .ok (.iload_n 1, 1) := by decide +kernel
theorem dX1_markLifted_42 : decode cX1_markLifted 42 = .ok (.iload_n 2, 1) := by decide +kernel
theorem dX1_markLifted_43 : decode cX1_markLifted 43 = .ok (.invokevirtual 93, 3) := by decide +kernel
theorem dX1_markLifted_46 : decode cX1_markLifted 46 = .ok (.aload_n 0, 1) := by decide +kernel
theorem dX1_markLifted_47 : decode cX1_markLifted 47 = .ok (.iload 4, 2) := by decide +kernel
theorem dX1_markLifted_49 : decode cX1_markLifted 49 = .ok (.invokevirtual 76, 3) := by decide +kernel
theorem dX1_markLifted_52 : decode cX1_markLifted 52 = .ok (.if_icmp .le 7, 3) := by decide +kernel
theorem dX1_markLifted_55 : decode cX1_markLifted 55 = .ok (.iconst 1, 1) := by decide +kernel
theorem dX1_markLifted_56 : decode cX1_markLifted 56 = .ok (.goto 4, 3) := by decide +kernel
theorem dX1_markLifted_59 : decode cX1_markLifted 59 = .ok (.iconst 0, 1) := by decide +kernel
theorem dX1_markLifted_60 : decode cX1_markLifted 60 = .ok (.bastore, 1) := by decide +kernel
theorem dX1_markLifted_61 : decode cX1_markLifted 61 = .ok (.aload_n 0, 1) := by decide +kernel
theorem dX1_markLifted_62 : decode cX1_markLifted 62 = .ok (.getfield 37, 3) := by decide +kernel
theorem dX1_markLifted_65 : decode cX1_markLifted 65 = .ok (.iload 4, 2) := by decide +kernel
theorem dX1_markLifted_67 : decode cX1_markLifted 67 = .ok (.baload, 1) := by decide +kernel
theorem dX1_markLifted_68 : decode cX1_markLifted 68 = .ok (.ifCond .eq 6, 3) := by decide +kernel
theorem dX1_markLifted_71 : decode cX1_markLifted 71 = .ok (.iinc 3 1, 3) := by decide +kernel
theorem dX1_markLifted_74 : decode cX1_markLifted 74 = .ok (.iinc 4 1, 3) := by decide +kernel
theorem dX1_markLifted_77 : decode cX1_markLifted 77 = .ok (.goto (-72), 3) := by decide +kernel
theorem dX1_markLifted_80 : decode cX1_markLifted 80 = .ok (.iload_n 3, 1) := by decide +kernel
theorem dX1_markLifted_81 : decode cX1_markLifted 81 = .ok (.ireturn, 1) := by decide +kernel
theorem dX1_removeMarked_0 : decode cX1_removeMarked 0 = .ok (.aload_n 0, 1) := by decide +kernel
theorem dX1_removeMarked_1 : decode cX1_removeMarked 1 = .ok (.getfield 47, 3) := by decide +kernel
theorem dX1_removeMarked_4 : decode cX1_removeMarked 4 = .ok (.istore_n 1, 1) := by decide +kernel
theorem dX1_removeMarked_5 : decode cX1_removeMarked 5 = .ok (.iconst 0, 1) := by decide +kernel
theorem dX1_removeMarked_6 : decode cX1_removeMarked 6 = .ok (.istore_n 2, 1) := by decide +kernel
theorem dX1_removeMarked_7 : decode cX1_removeMarked 7 = .ok (.iload_n 2, 1) := by decide +kernel
theorem dX1_removeMarked_8 : decode cX1_removeMarked 8 = .ok (.aload_n 0, 1) := by decide +kernel
theorem dX1_removeMarked_9 : decode cX1_removeMarked 9 = .ok (.getfield 44, 3) := by decide +kernel
theorem dX1_removeMarked_12 : decode cX1_removeMarked 12 = .ok (.if_icmp .ge 30, 3) := by decide +kernel
theorem dX1_removeMarked_15 : decode cX1_removeMarked 15 = .ok (.iload_n 2, 1) := by decide +kernel
theorem dX1_removeMarked_16 : decode cX1_removeMarked 16 = .ok (.sipush 200, 3) := by decide +kernel
theorem dX1_removeMarked_19 : decode cX1_removeMarked 19 = .ok (.if_icmp .ge 23, 3) := by decide +kernel
theorem dX1_removeMarked_22 : decode cX1_removeMarked 22 = .ok (.aload_n 0, 1) := by decide +kernel
theorem dX1_removeMarked_23 : decode cX1_removeMarked 23 = .ok (.getfield 37, 3) := by decide +kernel
theorem dX1_removeMarked_26 : decode cX1_removeMarked 26 = .ok (.iload_n 2, 1) := by decide +kernel
theorem dX1_removeMarked_27 : decode cX1_removeMarked 27 = .ok (.baload, 1) := by decide +kernel
theorem dX1_removeMarked_28 : decode cX1_removeMarked 28 = .ok (.ifCond .eq 8, 3) := by decide +kernel
theorem dX1_removeMarked_31 : decode cX1_removeMarked 31 = .ok (.aload_n 0, 1) := by decide +kernel
theorem dX1_removeMarked_32 : decode cX1_removeMarked 32 = .ok (.iload_n 2, 1) := by decide +kernel
theorem dX1_removeMarked_33 : decode cX1_removeMarked 33 = .ok (.invokevirtual 97, 3) := by decide +kernel
theorem dX1_removeMarked_36 : decode cX1_removeMarked 36 = .ok (.iinc 2 1, 3) := by decide +kernel
theorem dX1_removeMarked_39 : decode cX1_removeMarked 39 = .ok (.goto (-32), 3) := by decide +kernel
theorem dX1_removeMarked_42 : decode cX1_removeMarked 42 = .ok (.iload_n 1, 1) := by decide +kernel
theorem dX1_removeMarked_43 : decode cX1_removeMarked 43 = .ok (.aload_n 0, 1) := by decide +kernel
theorem dX1_removeMarked_44 : decode cX1_removeMarked 44 = .ok (.getfield 47, 3) := by decide +kernel
theorem dX1_removeMarked_47 : decode cX1_removeMarked 47 = .ok (.isub, 1) := by decide +kernel
theorem dX1_removeMarked_48 : decode cX1_removeMarked 48 = .ok (.ireturn, 1) := by decide +kernel
theorem dX1_crackBy_0 : decode cX1_crackBy 0 = .ok (.iconst 0, 1) := by decide +kernel
theorem dX1_crackBy_1 : decode cX1_crackBy 1 = .ok (.istore_n 2, 1) := by decide +kernel
theorem dX1_crackBy_2 : decode cX1_crackBy 2 = .ok (.iload_n 2, 1) := by decide +kernel
theorem dX1_crackBy_3 : decode cX1_crackBy 3 = .ok (.aload_n 0, 1) := by decide +kernel
theorem dX1_crackBy_4 : decode cX1_crackBy 4 = .ok (.getfield 44, 3) := by decide +kernel
theorem dX1_crackBy_7 : decode cX1_crackBy 7 = .ok (.if_icmp .ge 52, 3) := by decide +kernel
theorem dX1_crackBy_10 : decode cX1_crackBy 10 = .ok (.iload_n 2, 1) := by decide +kernel
theorem dX1_crackBy_11 : decode cX1_crackBy 11 = .ok (.sipush 200, 3) := by decide +kernel
theorem dX1_crackBy_14 : decode cX1_crackBy 14 = .ok (.if_icmp .ge 45, 3) := by decide +kernel
theorem dX1_crackBy_17 : decode cX1_crackBy 17 = .ok (.aload_n 0, 1) := by decide +kernel
theorem dX1_crackBy_18 : decode cX1_crackBy 18 = .ok (.getfield 34, 3) := by decide +kernel
theorem dX1_crackBy_21 : decode cX1_crackBy 21 = .ok (.iload_n 2, 1) := by decide +kernel
theorem dX1_crackBy_22 : decode cX1_crackBy 22 = .ok (.baload, 1) := by decide +kernel
theorem dX1_crackBy_23 : decode cX1_crackBy 23 = .ok (.ifCond .eq 30, 3) := by decide +kernel
theorem dX1_crackBy_26 : decode cX1_crackBy 26 = .ok (.iload_n 1, 1) := by decide +kernel
theorem dX1_crackBy_27 : decode cX1_crackBy 27 = .ok (.aload_n 0, 1) := by decide +kernel
theorem dX1_crackBy_28 : decode cX1_crackBy 28 = .ok (.getfield 27, 3) := by decide +kernel
theorem dX1_crackBy_31 : decode cX1_crackBy 31 = .ok (.iload_n 2, 1) := by decide +kernel
theorem dX1_crackBy_32 : decode cX1_crackBy 32 = .ok (.iaload, 1) := by decide +kernel
theorem dX1_crackBy_33 : decode cX1_crackBy 33 = .ok (.iconst 3, 1) := by decide +kernel
theorem dX1_crackBy_34 : decode cX1_crackBy 34 = .ok (.iadd, 1) := by decide +kernel
theorem dX1_crackBy_35 : decode cX1_crackBy 35 = .ok (.if_icmp .le 18, 3) := by decide +kernel
theorem dX1_crackBy_38 : decode cX1_crackBy 38 = .ok (.aload_n 0, 1) := by decide +kernel
theorem dX1_crackBy_39 : decode cX1_crackBy 39 = .ok (.iload_n 2, 1) := by decide +kernel
theorem dX1_crackBy_40 : decode cX1_crackBy 40 = .ok (.invokevirtual 101, 3) := by decide +kernel
theorem dX1_crackBy_43 : decode cX1_crackBy 43 = .ok (.ifCond .eq 10, 3) := by decide +kernel
theorem dX1_crackBy_46 : decode cX1_crackBy 46 = .ok (.aload_n 0, 1) := by decide +kernel
theorem dX1_crackBy_47 : decode cX1_crackBy 47 = .ok (.getfield 30, 3) := by decide +kernel
theorem dX1_crackBy_50 : decode cX1_crackBy 50 = .ok (.iload_n 2, 1) := by decide +kernel
theorem dX1_crackBy_51 : decode cX1_crackBy 51 = .ok (.iconst 1, 1) := by decide +kernel
theorem dX1_crackBy_52 : decode cX1_crackBy 52 = .ok (.bastore, 1) := by decide +kernel
theorem dX1_crackBy_53 : decode cX1_crackBy 53 = .ok (.iinc 2 1, 3) := by decide +kernel
theorem dX1_crackBy_56 : decode cX1_crackBy 56 = .ok (.goto (-54), 3) := by decide +kernel
theorem dX1_crackBy_59 : decode cX1_crackBy 59 = .ok (.return_, 1) := by decide +kernel
theorem dX1_isBareSomewhere_0 : decode cX1_isBareSomewhere 0 = .ok (.aload_n 0, 1) := by decide +kernel
theorem dX1_isBareSomewhere_1 : decode cX1_isBareSomewhere 1 = .ok (.iload_n 1, 1) := by decide +kernel
theorem dX1_isBareSomewhere_2 : decode cX1_isBareSomewhere 2 = .ok (.invokevirtual 65, 3) := by decide +kernel
theorem dX1_isBareSomewhere_5 : decode cX1_isBareSomewhere 5 = .ok (.ifCond .ne 5, 3) := by decide +kernel
theorem dX1_isBareSomewhere_8 : decode cX1_isBareSomewhere 8 = .ok (.iconst 0, 1) := by decide +kernel
theorem dX1_isBareSomewhere_9 : decode cX1_isBareSomewhere 9 = .ok (.ireturn, 1) := by decide +kernel
theorem dX1_isBareSomewhere_10 : decode cX1_isBareSomewhere 10 = .ok (.aload_n 0, 1) := by decide +kernel
theorem dX1_isBareSomewhere_11 : decode cX1_isBareSomewhere 11 = .ok (.getfield 21, 3) := by decide +kernel
theorem dX1_isBareSomewhere_14 : decode cX1_isBareSomewhere 14 = .ok (.iload_n 1, 1) := by decide +kernel
theorem dX1_isBareSomewhere_15 : decode cX1_isBareSomewhere 15 = .ok (.iaload, 1) := by decide +kernel
theorem dX1_isBareSomewhere_16 : decode cX1_isBareSomewhere 16 = .ok (.istore_n 2, 1) := by decide +kernel
theorem dX1_isBareSomewhere_17 : decode cX1_isBareSomewhere 17 = .ok (.iload_n 2, 1) := by decide +kernel
theorem dX1_isBareSomewhere_18 : decode cX1_isBareSomewhere 18 = .ok (.aload_n 0, 1) := by decide +kernel
theorem dX1_isBareSomewhere_19 : decode cX1_isBareSomewhere 19 = .ok (.getfield 21, 3) := by decide +kernel
theorem dX1_isBareSomewhere_22 : decode cX1_isBareSomewhere 22 = .ok (.iload_n 1, 1) := by decide +kernel
theorem dX1_isBareSomewhere_23 : decode cX1_isBareSomewhere 23 = .ok (.iaload, 1) := by decide +kernel
theorem dX1_isBareSomewhere_24 : decode cX1_isBareSomewhere 24 = .ok (.aload_n 0, 1) := by decide +kernel
theorem dX1_isBareSomewhere_25 : decode cX1_isBareSomewhere 25 = .ok (.getfield 24, 3) := by decide +kernel
theorem dX1_isBareSomewhere_28 : decode cX1_isBareSomewhere 28 = .ok (.iload_n 1, 1) := by decide +kernel
theorem dX1_isBareSomewhere_29 : decode cX1_isBareSomewhere 29 = .ok (.iaload, 1) := by decide +kernel
theorem dX1_isBareSomewhere_30 : decode cX1_isBareSomewhere 30 = .ok (.iadd, 1) := by decide +kernel
theorem dX1_isBareSomewhere_31 : decode cX1_isBareSomewhere 31 = .ok (.if_icmp .ge 28, 3) := by decide +kernel
theorem dX1_isBareSomewhere_34 : decode cX1_isBareSomewhere 34 = .ok (.aload_n 0, 1) := by decide +kernel
theorem dX1_isBareSomewhere_35 : decode cX1_isBareSomewhere 35 = .ok (.iload_n 2, 1) := by decide +kernel
theorem dX1_isBareSomewhere_36 : decode cX1_isBareSomewhere 36 = .ok (.aload_n 0, 1) := by decide +kernel
theorem dX1_isBareSomewhere_37 : decode cX1_isBareSomewhere 37 = .ok (.getfield 18, 3) := by decide +kernel
theorem dX1_isBareSomewhere_40 : decode cX1_isBareSomewhere 40 = .ok (.iload_n 1, 1) := by decide +kernel
theorem dX1_isBareSomewhere_41 : decode cX1_isBareSomewhere 41 = .ok (.iaload, 1) := by decide +kernel
theorem dX1_isBareSomewhere_42 : decode cX1_isBareSomewhere 42 = .ok (.iconst 1, 1) := by decide +kernel
theorem dX1_isBareSomewhere_43 : decode cX1_isBareSomewhere 43 = .ok (.iadd, 1) := by decide +kernel
theorem dX1_isBareSomewhere_44 : decode cX1_isBareSomewhere 44 = .ok (.invokevirtual 68, 3) := by decide +kernel
theorem dX1_isBareSomewhere_47 : decode cX1_isBareSomewhere 47 = .ok (.iconst (-1), 1) := by decide +kernel
theorem dX1_isBareSomewhere_48 : decode cX1_isBareSomewhere 48 = .ok (.if_icmp .ne 5, 3) := by decide +kernel
theorem dX1_isBareSomewhere_51 : decode cX1_isBareSomewhere 51 = .ok (.iconst 1, 1) := by decide +kernel
theorem dX1_isBareSomewhere_52 : decode cX1_isBareSomewhere 52 = .ok (.ireturn, 1) := by decide +kernel
theorem dX1_isBareSomewhere_53 : decode cX1_isBareSomewhere 53 = .ok (.iinc 2 1, 3) := by decide +kernel
theorem dX1_isBareSomewhere_56 : decode cX1_isBareSomewhere 56 = .ok (.goto (-39), 3) := by decide +kernel
theorem dX1_isBareSomewhere_59 : decode cX1_isBareSomewhere 59 = .ok (.iconst 0, 1) := by decide +kernel
theorem dX1_isBareSomewhere_60 : decode cX1_isBareSomewhere 60 = .ok (.ireturn, 1) := by decide +kernel
theorem dX1_rotBy_0 : decode cX1_rotBy 0 = .ok (.iconst 0, 1) := by decide +kernel
theorem dX1_rotBy_1 : decode cX1_rotBy 1 = .ok (.istore_n 3, 1) := by decide +kernel
theorem dX1_rotBy_2 : decode cX1_rotBy 2 = .ok (.iload_n 3, 1) := by decide +kernel
theorem dX1_rotBy_3 : decode cX1_rotBy 3 = .ok (.bipush 12, 2) := by decide +kernel
theorem dX1_rotBy_5 : decode cX1_rotBy 5 = .ok (.if_icmp .ge 67, 3) := by decide +kernel
theorem dX1_rotBy_8 : decode cX1_rotBy 8 = .ok (.iconst 0, 1) := by decide +kernel
theorem dX1_rotBy_9 : decode cX1_rotBy 9 = .ok (.istore 4, 2) := by decide +kernel
theorem dX1_rotBy_11 : decode cX1_rotBy 11 = .ok (.bipush 7, 2) := by decide +kernel
theorem dX1_rotBy_13 : decode cX1_rotBy 13 = .ok (.istore 5, 2) := by decide +kernel
theorem dX1_rotBy_15 : decode cX1_rotBy 15 = .ok (.iload 5, 2) := by decide +kernel
theorem dX1_rotBy_17 : decode cX1_rotBy 17 = .ok (.ifCond .lt 49, 3) := by decide +kernel
theorem dX1_rotBy_20 : decode cX1_rotBy 20 = .ok (.aload_n 1, 1) := by decide +kernel
theorem dX1_rotBy_21 : decode cX1_rotBy 21 = .ok (.iload_n 2, 1) := by decide +kernel
theorem dX1_rotBy_22 : decode cX1_rotBy 22 = .ok (.iload 4, 2) := by decide +kernel
theorem dX1_rotBy_24 : decode cX1_rotBy 24 = .ok (.iload_n 3, 1) := by decide +kernel
theorem dX1_rotBy_25 : decode cX1_rotBy 25 = .ok (.iload 5, 2) := by decide +kernel
theorem dX1_rotBy_27 : decode cX1_rotBy 27 = .ok (.invokevirtual 104, 3) := by decide +kernel
theorem dX1_rotBy_30 : decode cX1_rotBy 30 = .ok (.istore 4, 2) := by decide +kernel
theorem dX1_rotBy_32 : decode cX1_rotBy 32 = .ok (.iload 4, 2) := by decide +kernel
theorem dX1_rotBy_34 : decode cX1_rotBy 34 = .ok (.bipush 6, 2) := by decide +kernel
theorem dX1_rotBy_36 : decode cX1_rotBy 36 = .ok (.if_icmp .lt 24, 3) := by decide +kernel
theorem dX1_rotBy_39 : decode cX1_rotBy 39 = .ok (.aload_n 0, 1) := by decide +kernel
theorem dX1_rotBy_40 : decode cX1_rotBy 40 = .ok (.iload_n 3, 1) := by decide +kernel
theorem dX1_rotBy_41 : decode cX1_rotBy 41 = .ok (.iload 5, 2) := by decide +kernel
theorem dX1_rotBy_43 : decode cX1_rotBy 43 = .ok (.aload_n 0, 1) := by decide +kernel
theorem dX1_rotBy_44 : decode cX1_rotBy 44 = .ok (.iload_n 3, 1) := by decide +kernel
theorem dX1_rotBy_45 : decode cX1_rotBy 45 = .ok (.iload 5, 2) := by decide +kernel
theorem dX1_rotBy_47 : decode cX1_rotBy 47 = .ok (.invokevirtual 82, 3) := by decide +kernel
theorem dX1_rotBy_50 : decode cX1_rotBy 50 = .ok (.iconst 1, 1) := by decide +kernel
theorem dX1_rotBy_51 : decode cX1_rotBy 51 = .ok (.iadd, 1) := by decide +kernel
theorem dX1_rotBy_52 : decode cX1_rotBy 52 = .ok (.bipush 9, 2) := by decide +kernel
theorem dX1_rotBy_54 : decode cX1_rotBy 54 = .ok (.invokestatic 110, 3) := by decide +kernel
theorem dX1_rotBy_57 : decode cX1_rotBy 57 = .ok (.invokevirtual 115, 3) := by decide +kernel
theorem dX1_rotBy_60 : decode cX1_rotBy 60 = .ok (.iinc 5 (-1), 3) := by decide +kernel
theorem dX1_rotBy_63 : decode cX1_rotBy 63 = .ok (.goto (-48), 3) := by decide +kernel
theorem dX1_rotBy_66 : decode cX1_rotBy 66 = .ok (.iinc 3 1, 3) := by decide +kernel
theorem dX1_rotBy_69 : decode cX1_rotBy 69 = .ok (.goto (-67), 3) := by decide +kernel
theorem dX1_rotBy_72 : decode cX1_rotBy 72 = .ok (.return_, 1) := by decide +kernel
theorem dX1_isWholeAt_0 : decode cX1_isWholeAt 0 = .ok (.aload_n 0, 1) := by decide +kernel
theorem dX1_isWholeAt_1 : decode cX1_isWholeAt 1 = .ok (.iload_n 1, 1) := by decide +kernel
theorem dX1_isWholeAt_2 : decode cX1_isWholeAt 2 = .ok (.iload_n 2, 1) := by decide +kernel
theorem dX1_isWholeAt_3 : decode cX1_isWholeAt 3 = .ok (.invokevirtual 68, 3) := by decide +kernel
theorem dX1_isWholeAt_6 : decode cX1_isWholeAt 6 = .ok (.istore_n 3, 1) := by decide +kernel
theorem dX1_isWholeAt_7 : decode cX1_isWholeAt 7 = .ok (.aload_n 0, 1) := by decide +kernel
theorem dX1_isWholeAt_8 : decode cX1_isWholeAt 8 = .ok (.iload_n 3, 1) := by decide +kernel
theorem dX1_isWholeAt_9 : decode cX1_isWholeAt 9 = .ok (.invokevirtual 65, 3) := by decide +kernel
theorem dX1_isWholeAt_12 : decode cX1_isWholeAt 12 = .ok (.ifCond .eq 16, 3) := by decide +kernel
theorem dX1_isWholeAt_15 : decode cX1_isWholeAt 15 = .ok (.aload_n 0, 1) := by decide +kernel
theorem dX1_isWholeAt_16 : decode cX1_isWholeAt 16 = .ok (.getfield 30, 3) := by decide +kernel
theorem dX1_isWholeAt_19 : decode cX1_isWholeAt 19 = .ok (.iload_n 3, 1) := by decide +kernel
theorem dX1_isWholeAt_20 : decode cX1_isWholeAt 20 = .ok (.baload, 1) := by decide +kernel
theorem dX1_isWholeAt_21 : decode cX1_isWholeAt 21 = .ok (.ifCond .ne 7, 3) := by decide +kernel
theorem dX1_isWholeAt_24 : decode cX1_isWholeAt 24 = .ok (.iconst 1, 1) := by decide +kernel
theorem dX1_isWholeAt_25 : decode cX1_isWholeAt 25 = .ok (.goto 4, 3) := by decide +kernel
theorem dX1_isWholeAt_28 : decode cX1_isWholeAt 28 = .ok (.iconst 0, 1) := by decide +kernel
theorem dX1_isWholeAt_29 : decode cX1_isWholeAt 29 = .ok (.ireturn, 1) := by decide +kernel
theorem dX1_isCovered_0 : decode cX1_isCovered 0 = .ok (.aload_n 0, 1) := by decide +kernel
theorem dX1_isCovered_1 : decode cX1_isCovered 1 = .ok (.iload_n 1, 1) := by decide +kernel
theorem dX1_isCovered_2 : decode cX1_isCovered 2 = .ok (.iload_n 2, 1) := by decide +kernel
theorem dX1_isCovered_3 : decode cX1_isCovered 3 = .ok (.invokevirtual 119, 3) := by decide +kernel
theorem dX1_isCovered_6 : decode cX1_isCovered 6 = .ok (.ifCond .ne 14, 3) := by decide +kernel
theorem dX1_isCovered_9 : decode cX1_isCovered 9 = .ok (.aload_n 0, 1) := by decide +kernel
theorem dX1_isCovered_10 : decode cX1_isCovered 10 = .ok (.iload_n 1, 1) := by decide +kernel
theorem dX1_isCovered_11 : decode cX1_isCovered 11 = .ok (.iload_n 2, 1) := by decide +kernel
theorem dX1_isCovered_12 : decode cX1_isCovered 12 = .ok (.iconst 1, 1) := by decide +kernel
theorem dX1_isCovered_13 : decode cX1_isCovered 13 = .ok (.iadd, 1) := by decide +kernel
theorem dX1_isCovered_14 : decode cX1_isCovered 14 = .ok (.invokevirtual 119, 3) := by decide +kernel
theorem dX1_isCovered_17 : decode cX1_isCovered 17 = .ok (.ifCond .eq 7, 3) := by decide +kernel
theorem dX1_isCovered_20 : decode cX1_isCovered 20 = .ok (.iconst 1, 1) := by decide +kernel
theorem dX1_isCovered_21 : decode cX1_isCovered 21 = .ok (.goto 4, 3) := by decide +kernel
theorem dX1_isCovered_24 : decode cX1_isCovered 24 = .ok (.iconst 0, 1) := by decide +kernel
theorem dX1_isCovered_25 : decode cX1_isCovered 25 = .ok (.ireturn, 1) := by decide +kernel
theorem dX1_coveredPlaces_0 : decode cX1_coveredPlaces 0 = .ok (.iconst 0, 1) := by decide +kernel
theorem dX1_coveredPlaces_1 : decode cX1_coveredPlaces 1 = .ok (.istore_n 1, 1) := by decide +kernel
theorem dX1_coveredPlaces_2 : decode cX1_coveredPlaces 2 = .ok (.iconst 0, 1) := by decide +kernel
theorem dX1_coveredPlaces_3 : decode cX1_coveredPlaces 3 = .ok (.istore_n 2, 1) := by decide +kernel
theorem dX1_coveredPlaces_4 : decode cX1_coveredPlaces 4 = .ok (.iload_n 2, 1) := by decide +kernel
theorem dX1_coveredPlaces_5 : decode cX1_coveredPlaces 5 = .ok (.bipush 8, 2) := by decide +kernel
theorem dX1_coveredPlaces_7 : decode cX1_coveredPlaces 7 = .ok (.if_icmp .ge 35, 3) := by decide +kernel
theorem dX1_coveredPlaces_10 : decode cX1_coveredPlaces 10 = .ok (.iconst 0, 1) := by decide +kernel
theorem dX1_coveredPlaces_11 : decode cX1_coveredPlaces 11 = .ok (.istore_n 3, 1) := by decide +kernel
theorem dX1_coveredPlaces_12 : decode cX1_coveredPlaces 12 = .ok (.iload_n 3, 1) := by decide +kernel
theorem dX1_coveredPlaces_13 : decode cX1_coveredPlaces 13 = .ok (.bipush 12, 2) := by decide +kernel
theorem dX1_coveredPlaces_15 : decode cX1_coveredPlaces 15 = .ok (.if_icmp .ge 21, 3) := by decide +kernel
theorem dX1_coveredPlaces_18 : decode cX1_coveredPlaces 18 = .ok (.aload_n 0, 1) := by decide +kernel
theorem dX1_coveredPlaces_19 : decode cX1_coveredPlaces 19 = .ok (.iload_n 3, 1) := by decide +kernel
theorem dX1_coveredPlaces_20 : decode cX1_coveredPlaces 20 = .ok (.iload_n 2, 1) := by decide +kernel
theorem dX1_coveredPlaces_21 : decode cX1_coveredPlaces 21 = .ok (.invokevirtual 122, 3) := by decide +kernel
theorem dX1_coveredPlaces_24 : decode cX1_coveredPlaces 24 = .ok (.ifCond .eq 6, 3) := by decide +kernel
theorem dX1_coveredPlaces_27 : decode cX1_coveredPlaces 27 = .ok (.iinc 1 1, 3) := by decide +kernel
theorem dX1_coveredPlaces_30 : decode cX1_coveredPlaces 30 = .ok (.iinc 3 1, 3) := by decide +kernel
theorem dX1_coveredPlaces_33 : decode cX1_coveredPlaces 33 = .ok (.goto (-21), 3) := by decide +kernel
theorem dX1_coveredPlaces_36 : decode cX1_coveredPlaces 36 = .ok (.iinc 2 1, 3) := by decide +kernel
theorem dX1_coveredPlaces_39 : decode cX1_coveredPlaces 39 = .ok (.goto (-35), 3) := by decide +kernel
theorem dX1_coveredPlaces_42 : decode cX1_coveredPlaces 42 = .ok (.iload_n 1, 1) := by decide +kernel
theorem dX1_coveredPlaces_43 : decode cX1_coveredPlaces 43 = .ok (.ireturn, 1) := by decide +kernel
theorem dX1_crackedThere_0 : decode cX1_crackedThere 0 = .ok (.iconst 0, 1) := by decide +kernel
theorem dX1_crackedThere_1 : decode cX1_crackedThere 1 = .ok (.istore_n 1, 1) := by decide +kernel
theorem dX1_crackedThere_2 : decode cX1_crackedThere 2 = .ok (.iconst 0, 1) := by decide +kernel
theorem dX1_crackedThere_3 : decode cX1_crackedThere 3 = .ok (.istore_n 2, 1) := by decide +kernel
theorem dX1_crackedThere_4 : decode cX1_crackedThere 4 = .ok (.iload_n 2, 1) := by decide +kernel
theorem dX1_crackedThere_5 : decode cX1_crackedThere 5 = .ok (.aload_n 0, 1) := by decide +kernel
theorem dX1_crackedThere_6 : decode cX1_crackedThere 6 = .ok (.getfield 44, 3) := by decide +kernel
theorem dX1_crackedThere_9 : decode cX1_crackedThere 9 = .ok (.if_icmp .ge 37, 3) := by decide +kernel
theorem dX1_crackedThere_12 : decode cX1_crackedThere 12 = .ok (.iload_n 2, 1) := by decide +kernel
theorem dX1_crackedThere_13 : decode cX1_crackedThere 13 = .ok (.sipush 200, 3) := by decide +kernel
theorem dX1_crackedThere_16 : decode cX1_crackedThere 16 = .ok (.if_icmp .ge 30, 3) := by decide +kernel
theorem dX1_crackedThere_19 : decode cX1_crackedThere 19 = .ok (.aload_n 0, 1) := by decide +kernel
theorem dX1_crackedThere_20 : decode cX1_crackedThere 20 = .ok (.getfield 34, 3) := by decide +kernel
theorem dX1_crackedThere_23 : decode cX1_crackedThere 23 = .ok (.iload_n 2, 1) := by decide +kernel
theorem dX1_crackedThere_24 : decode cX1_crackedThere 24 = .ok (.baload, 1) := by decide +kernel
theorem dX1_crackedThere_25 : decode cX1_crackedThere 25 = .ok (.ifCond .eq 15, 3) := by decide +kernel
theorem dX1_crackedThere_28 : decode cX1_crackedThere 28 = .ok (.aload_n 0, 1) := by decide +kernel
theorem dX1_crackedThere_29 : decode cX1_crackedThere 29 = .ok (.getfield 30, 3) := by decide +kernel
theorem dX1_crackedThere_32 : decode cX1_crackedThere 32 = .ok (.iload_n 2, 1) := by decide +kernel
theorem dX1_crackedThere_33 : decode cX1_crackedThere 33 = .ok (.baload, 1) := by decide +kernel
theorem dX1_crackedThere_34 : decode cX1_crackedThere 34 = .ok (.ifCond .eq 6, 3) := by decide +kernel
theorem dX1_crackedThere_37 : decode cX1_crackedThere 37 = .ok (.iinc 1 1, 3) := by decide +kernel
theorem dX1_crackedThere_40 : decode cX1_crackedThere 40 = .ok (.iinc 2 1, 3) := by decide +kernel
theorem dX1_crackedThere_43 : decode cX1_crackedThere 43 = .ok (.goto (-39), 3) := by decide +kernel
theorem dX1_crackedThere_46 : decode cX1_crackedThere 46 = .ok (.iload_n 1, 1) := by decide +kernel
theorem dX1_crackedThere_47 : decode cX1_crackedThere 47 = .ok (.ireturn, 1) := by decide +kernel
theorem dX1_allRot_0 : decode cX1_allRot 0 = .ok (.iconst 0, 1) := by decide +kernel
theorem dX1_allRot_1 : decode cX1_allRot 1 = .ok (.istore_n 1, 1) := by decide +kernel
theorem dX1_allRot_2 : decode cX1_allRot 2 = .ok (.iconst 0, 1) := by decide +kernel
theorem dX1_allRot_3 : decode cX1_allRot 3 = .ok (.istore_n 2, 1) := by decide +kernel
theorem dX1_allRot_4 : decode cX1_allRot 4 = .ok (.iload_n 2, 1) := by decide +kernel
theorem dX1_allRot_5 : decode cX1_allRot 5 = .ok (.bipush 96, 2) := by decide +kernel
theorem dX1_allRot_7 : decode cX1_allRot 7 = .ok (.if_icmp .ge 18, 3) := by decide +kernel
theorem dX1_allRot_10 : decode cX1_allRot 10 = .ok (.iload_n 1, 1) := by decide +kernel
theorem dX1_allRot_11 : decode cX1_allRot 11 = .ok (.aload_n 0, 1) := by decide +kernel
theorem dX1_allRot_12 : decode cX1_allRot 12 = .ok (.getfield 15, 3) := by decide +kernel
theorem dX1_allRot_15 : decode cX1_allRot 15 = .ok (.iload_n 2, 1) := by decide +kernel
theorem dX1_allRot_16 : decode cX1_allRot 16 = .ok (.iaload, 1) := by decide +kernel
theorem dX1_allRot_17 : decode cX1_allRot 17 = .ok (.iadd, 1) := by decide +kernel
theorem dX1_allRot_18 : decode cX1_allRot 18 = .ok (.istore_n 1, 1) := by decide +kernel
theorem dX1_allRot_19 : decode cX1_allRot 19 = .ok (.iinc 2 1, 3) := by decide +kernel
theorem dX1_allRot_22 : decode cX1_allRot 22 = .ok (.goto (-18), 3) := by decide +kernel
theorem dX1_allRot_25 : decode cX1_allRot 25 = .ok (.iload_n 1, 1) := by decide +kernel
theorem dX1_allRot_26 : decode cX1_allRot 26 = .ok (.ireturn, 1) := by decide +kernel
theorem dX1_inTheWay_0 : decode cX1_inTheWay 0 = .ok (.iconst 0, 1) := by decide +kernel
theorem dX1_inTheWay_1 : decode cX1_inTheWay 1 = .ok (.istore 4, 2) := by decide +kernel
theorem dX1_inTheWay_3 : decode cX1_inTheWay 3 = .ok (.iload 4, 2) := by decide +kernel
theorem dX1_inTheWay_5 : decode cX1_inTheWay 5 = .ok (.sipush 200, 3) := by decide +kernel
theorem dX1_inTheWay_8 : decode cX1_inTheWay 8 = .ok (.if_icmp .ge 17, 3) := by decide +kernel
theorem dX1_inTheWay_11 : decode cX1_inTheWay 11 = .ok (.aload_n 0, 1) := by decide +kernel
theorem dX1_inTheWay_12 : decode cX1_inTheWay 12 = .ok (.getfield 37, 3) := by decide +kernel
theorem dX1_inTheWay_15 : decode cX1_inTheWay 15 = .ok (.iload 4, 2) := by decide +kernel
theorem dX1_inTheWay_17 : decode cX1_inTheWay 17 = .ok (.iconst 0, 1) := by decide +kernel
theorem dX1_inTheWay_18 : decode cX1_inTheWay 18 = .ok (.bastore, 1) := by decide +kernel
theorem dX1_inTheWay_19 : decode cX1_inTheWay 19 = .ok (.iinc 4 1, 3) := by decide +kernel
theorem dX1_inTheWay_22 : decode cX1_inTheWay 22 = .ok (.goto (-19), 3) := by decide +kernel
theorem dX1_inTheWay_25 : decode cX1_inTheWay 25 = .ok (.iconst 0, 1) := by decide +kernel
theorem dX1_inTheWay_26 : decode cX1_inTheWay 26 = .ok (.istore 4, 2) := by decide +kernel
theorem dX1_inTheWay_28 : decode cX1_inTheWay 28 = .ok (.iload_n 2, 1) := by decide +kernel
theorem dX1_inTheWay_29 : decode cX1_inTheWay 29 = .ok (.istore 5, 2) := by decide +kernel
theorem dX1_inTheWay_31 : decode cX1_inTheWay 31 = .ok (.iload 5, 2) := by decide +kernel
theorem dX1_inTheWay_33 : decode cX1_inTheWay 33 = .ok (.iload_n 2, 1) := by decide +kernel
theorem dX1_inTheWay_34 : decode cX1_inTheWay 34 = .ok (.iload_n 3, 1) := by decide +kernel
theorem dX1_inTheWay_35 : decode cX1_inTheWay 35 = .ok (.iadd, 1) := by decide +kernel
theorem dX1_inTheWay_36 : decode cX1_inTheWay 36 = .ok (.if_icmp .ge 43, 3) := by decide +kernel
theorem dX1_inTheWay_39 : decode cX1_inTheWay 39 = .ok (.iload 4, 2) := by decide +kernel
theorem dX1_inTheWay_41 : decode cX1_inTheWay 41 = .ok (.aload_n 0, 1) := by decide +kernel
theorem dX1_inTheWay_42 : decode cX1_inTheWay 42 = .ok (.aload_n 0, 1) := by decide +kernel
theorem dX1_inTheWay_43 : decode cX1_inTheWay 43 = .ok (.iload 5, 2) := by decide +kernel
theorem dX1_inTheWay_45 : decode cX1_inTheWay 45 = .ok (.iload_n 1, 1) := by decide +kernel
theorem dX1_inTheWay_46 : decode cX1_inTheWay 46 = .ok (.invokevirtual 68, 3) := by decide +kernel
theorem dX1_inTheWay_49 : decode cX1_inTheWay 49 = .ok (.invokevirtual 125, 3) := by decide +kernel
theorem dX1_inTheWay_52 : decode cX1_inTheWay 52 = .ok (.iadd, 1) := by decide +kernel
theorem dX1_inTheWay_53 : decode cX1_inTheWay 53 = .ok (.istore 4, 2) := by decide +kernel
theorem dX1_inTheWay_55 : decode cX1_inTheWay 55 = .ok (.iload 4, 2) := by decide +kernel
theorem dX1_inTheWay_57 : decode cX1_inTheWay 57 = .ok (.aload_n 0, 1) := by decide +kernel
theorem dX1_inTheWay_58 : decode cX1_inTheWay 58 = .ok (.aload_n 0, 1) := by decide +kernel
theorem dX1_inTheWay_59 : decode cX1_inTheWay 59 = .ok (.iload 5, 2) := by decide +kernel
theorem dX1_inTheWay_61 : decode cX1_inTheWay 61 = .ok (.iload_n 1, 1) := by decide +kernel
theorem dX1_inTheWay_62 : decode cX1_inTheWay 62 = .ok (.iconst 1, 1) := by decide +kernel
theorem dX1_inTheWay_63 : decode cX1_inTheWay 63 = .ok (.iadd, 1) := by decide +kernel
theorem dX1_inTheWay_64 : decode cX1_inTheWay 64 = .ok (.invokevirtual 68, 3) := by decide +kernel
theorem dX1_inTheWay_67 : decode cX1_inTheWay 67 = .ok (.invokevirtual 125, 3) := by decide +kernel
theorem dX1_inTheWay_70 : decode cX1_inTheWay 70 = .ok (.iadd, 1) := by decide +kernel
theorem dX1_inTheWay_71 : decode cX1_inTheWay 71 = .ok (.istore 4, 2) := by decide +kernel
theorem dX1_inTheWay_73 : decode cX1_inTheWay 73 = .ok (.iinc 5 1, 3) := by decide +kernel
theorem dX1_inTheWay_76 : decode cX1_inTheWay 76 = .ok (.goto (-45), 3) := by decide +kernel
theorem dX1_inTheWay_79 : decode cX1_inTheWay 79 = .ok (.iload_n 1, 1) := by decide +kernel
theorem dX1_inTheWay_80 : decode cX1_inTheWay 80 = .ok (.istore 5, 2) := by decide +kernel
theorem dX1_inTheWay_82 : decode cX1_inTheWay 82 = .ok (.iload 5, 2) := by decide +kernel
theorem dX1_inTheWay_84 : decode cX1_inTheWay 84 = .ok (.bipush 8, 2) := by decide +kernel
theorem dX1_inTheWay_86 : decode cX1_inTheWay 86 = .ok (.if_icmp .ge 59, 3) := by decide +kernel
theorem dX1_inTheWay_89 : decode cX1_inTheWay 89 = .ok (.iconst 0, 1) := by decide +kernel
theorem dX1_inTheWay_90 : decode cX1_inTheWay 90 = .ok (.istore 6, 2) := by decide +kernel
theorem dX1_inTheWay_92 : decode cX1_inTheWay 92 = .ok (.iload 6, 2) := by decide +kernel
theorem dX1_inTheWay_94 : decode cX1_inTheWay 94 = .ok (.bipush 12, 2) := by decide +kernel
theorem dX1_inTheWay_96 : decode cX1_inTheWay 96 = .ok (.if_icmp .ge 43, 3) := by decide +kernel
theorem dX1_inTheWay_99 : decode cX1_inTheWay 99 = .ok (.aload_n 0, 1) := by decide +kernel
theorem dX1_inTheWay_100 : decode cX1_inTheWay 100 = .ok (.aload_n 0, 1) := by decide +kernel
theorem dX1_inTheWay_101 : decode cX1_inTheWay 101 = .ok (.iload 6, 2) := by decide +kernel
theorem dX1_inTheWay_103 : decode cX1_inTheWay 103 = .ok (.iload 5, 2) := by decide +kernel
theorem dX1_inTheWay_105 : decode cX1_inTheWay 105 = .ok (.invokevirtual 68, 3) := by decide +kernel
theorem dX1_inTheWay_108 : decode cX1_inTheWay 108 = .ok (.invokevirtual 128, 3) := by decide +kernel
theorem dX1_inTheWay_111 : decode cX1_inTheWay 111 = .ok (.ifCond .eq 22, 3) := by decide +kernel
theorem dX1_inTheWay_114 : decode cX1_inTheWay 114 = .ok (.iload 4, 2) := by decide +kernel
theorem dX1_inTheWay_116 : decode cX1_inTheWay 116 = .ok (.aload_n 0, 1) := by decide +kernel
theorem dX1_inTheWay_117 : decode cX1_inTheWay 117 = .ok (.aload_n 0, 1) := by decide +kernel
theorem dX1_inTheWay_118 : decode cX1_inTheWay 118 = .ok (.iload 6, 2) := by decide +kernel
theorem dX1_inTheWay_120 : decode cX1_inTheWay 120 = .ok (.iload 5, 2) := by decide +kernel
theorem dX1_inTheWay_122 : decode cX1_inTheWay 122 = .ok (.iconst 1, 1) := by decide +kernel
theorem dX1_inTheWay_123 : decode cX1_inTheWay 123 = .ok (.iadd, 1) := by decide +kernel
theorem dX1_inTheWay_124 : decode cX1_inTheWay 124 = .ok (.invokevirtual 68, 3) := by decide +kernel
theorem dX1_inTheWay_127 : decode cX1_inTheWay 127 = .ok (.invokevirtual 125, 3) := by decide +kernel
theorem dX1_inTheWay_130 : decode cX1_inTheWay 130 = .ok (.iadd, 1) := by decide +kernel
theorem dX1_inTheWay_131 : decode cX1_inTheWay 131 = .ok (.istore 4, 2) := by decide +kernel
theorem dX1_inTheWay_133 : decode cX1_inTheWay 133 = .ok (.iinc 6 1, 3) := by decide +kernel
theorem dX1_inTheWay_136 : decode cX1_inTheWay 136 = .ok (.goto (-44), 3) := by decide +kernel
theorem dX1_inTheWay_139 : decode cX1_inTheWay 139 = .ok (.iinc 5 1, 3) := by decide +kernel
theorem dX1_inTheWay_142 : decode cX1_inTheWay 142 = .ok (.goto (-60), 3) := by decide +kernel
theorem dX1_inTheWay_145 : decode cX1_inTheWay 145 = .ok (.iload 4, 2) := by decide +kernel
theorem dX1_inTheWay_147 : decode cX1_inTheWay 147 = .ok (.ireturn, 1) := by decide +kernel
theorem dX1_isGoing_0 : decode cX1_isGoing 0 = .ok (.aload_n 0, 1) := by decide +kernel
theorem dX1_isGoing_1 : decode cX1_isGoing 1 = .ok (.iload_n 1, 1) := by decide +kernel
theorem dX1_isGoing_2 : decode cX1_isGoing 2 = .ok (.invokevirtual 65, 3) := by decide +kernel
theorem dX1_isGoing_5 : decode cX1_isGoing 5 = .ok (.ifCond .eq 16, 3) := by decide +kernel
theorem dX1_isGoing_8 : decode cX1_isGoing 8 = .ok (.aload_n 0, 1) := by decide +kernel
theorem dX1_isGoing_9 : decode cX1_isGoing 9 = .ok (.getfield 37, 3) := by decide +kernel
theorem dX1_isGoing_12 : decode cX1_isGoing 12 = .ok (.iload_n 1, 1) := by decide +kernel
theorem dX1_isGoing_13 : decode cX1_isGoing 13 = .ok (.baload, 1) := by decide +kernel
theorem dX1_isGoing_14 : decode cX1_isGoing 14 = .ok (.ifCond .eq 7, 3) := by decide +kernel
theorem dX1_isGoing_17 : decode cX1_isGoing 17 = .ok (.iconst 1, 1) := by decide +kernel
theorem dX1_isGoing_18 : decode cX1_isGoing 18 = .ok (.goto 4, 3) := by decide +kernel
theorem dX1_isGoing_21 : decode cX1_isGoing 21 = .ok (.iconst 0, 1) := by decide +kernel
theorem dX1_isGoing_22 : decode cX1_isGoing 22 = .ok (.ireturn, 1) := by decide +kernel
theorem dX1_letGo_0 : decode cX1_letGo 0 = .ok (.aload_n 0, 1) := by decide +kernel
theorem dX1_letGo_1 : decode cX1_letGo 1 = .ok (.iload_n 1, 1) := by decide +kernel
theorem dX1_letGo_2 : decode cX1_letGo 2 = .ok (.invokevirtual 65, 3) := by decide +kernel
theorem dX1_letGo_5 : decode cX1_letGo 5 = .ok (.ifCond .eq 12, 3) := by decide +kernel
theorem dX1_letGo_8 : decode cX1_letGo 8 = .ok (.aload_n 0, 1) := by decide +kernel
theorem dX1_letGo_9 : decode cX1_letGo 9 = .ok (.getfield 37, 3) := by decide +kernel
theorem dX1_letGo_12 : decode cX1_letGo 12 = .ok (.iload_n 1, 1) := by decide +kernel
theorem dX1_letGo_13 : decode cX1_letGo 13 = .ok (.baload, 1) := by decide +kernel
theorem dX1_letGo_14 : decode cX1_letGo 14 = .ok (.ifCond .eq 5, 3) := by decide +kernel
theorem dX1_letGo_17 : decode cX1_letGo 17 = .ok (.iconst 0, 1) := by decide +kernel
theorem dX1_letGo_18 : decode cX1_letGo 18 = .ok (.ireturn, 1) := by decide +kernel
theorem dX1_letGo_19 : decode cX1_letGo 19 = .ok (.aload_n 0, 1) := by decide +kernel
theorem dX1_letGo_20 : decode cX1_letGo 20 = .ok (.getfield 37, 3) := by decide +kernel
theorem dX1_letGo_23 : decode cX1_letGo 23 = .ok (.iload_n 1, 1) := by decide +kernel
theorem dX1_letGo_24 : decode cX1_letGo 24 = .ok (.iconst 1, 1) := by decide +kernel
theorem dX1_letGo_25 : decode cX1_letGo 25 = .ok (.bastore, 1) := by decide +kernel
theorem dX1_letGo_26 : decode cX1_letGo 26 = .ok (.iconst 1, 1) := by decide +kernel
theorem dX1_letGo_27 : decode cX1_letGo 27 = .ok (.ireturn, 1) := by decide +kernel
theorem dX2_init_0 : decode cX2_init 0 = .ok (.aload_n 0, 1) := by decide +kernel
theorem dX2_init_1 : decode cX2_init 1 = .ok (.invokespecial 3, 3) := by decide +kernel
theorem dX2_init_4 : decode cX2_init 4 = .ok (.aload_n 0, 1) := by decide +kernel
theorem dX2_init_5 : decode cX2_init 5 = .ok (.bipush 7, 2) := by decide +kernel
theorem dX2_init_7 : decode cX2_init 7 = .ok (.newarray .int, 2) := by decide +kernel
theorem dX2_init_9 : decode cX2_init 9 = .ok (.putfield 9, 3) := by decide +kernel
theorem dX2_init_12 : decode cX2_init 12 = .ok (.aload_n 0, 1) := by decide +kernel
theorem dX2_init_13 : decode cX2_init 13 = .ok (.bipush 7, 2) := by decide +kernel
theorem dX2_init_15 : decode cX2_init 15 = .ok (.newarray .boolean, 2) := by decide +kernel
theorem dX2_init_17 : decode cX2_init 17 = .ok (.putfield 15, 3) := by decide +kernel
theorem dX2_init_20 : decode cX2_init 20 = .ok (.aload_n 0, 1) := by decide +kernel
theorem dX2_init_21 : decode cX2_init 21 = .ok (.bipush 7, 2) := by decide +kernel
theorem dX2_init_23 : decode cX2_init 23 = .ok (.newarray .int, 2) := by decide +kernel
theorem dX2_init_25 : decode cX2_init 25 = .ok (.putfield 19, 3) := by decide +kernel
theorem dX2_init_28 : decode cX2_init 28 = .ok (.aload_n 0, 1) := by decide +kernel
theorem dX2_init_29 : decode cX2_init 29 = .ok (.bipush 7, 2) := by decide +kernel
theorem dX2_init_31 : decode cX2_init 31 = .ok (.newarray .int, 2) := by decide +kernel
theorem dX2_init_33 : decode cX2_init 33 = .ok (.putfield 22, 3) := by decide +kernel
theorem dX2_init_36 : decode cX2_init 36 = .ok (.return_, 1) := by decide +kernel
theorem dX2_isDay_0 : decode cX2_isDay 0 = .ok (.iload_n 1, 1) := by decide +kernel
theorem dX2_isDay_1 : decode cX2_isDay 1 = .ok (.ifCond .lt 13, 3) := by decide +kernel
theorem dX2_isDay_4 : decode cX2_isDay 4 = .ok (.iload_n 1, 1) := by decide +kernel
theorem dX2_isDay_5 : decode cX2_isDay 5 = .ok (.bipush 7, 2) := by decide +kernel
theorem dX2_isDay_7 : decode cX2_isDay 7 = .ok (.if_icmp .ge 7, 3) := by decide +kernel
theorem dX2_isDay_10 : decode cX2_isDay 10 = .ok (.iconst 1, 1) := by decide +kernel
theorem dX2_isDay_11 : decode cX2_isDay 11 = .ok (.goto 4, 3) := by decide +kernel
theorem dX2_isDay_14 : decode cX2_isDay 14 = .ok (.iconst 0, 1) := by decide +kernel
theorem dX2_isDay_15 : decode cX2_isDay 15 = .ok (.ireturn, 1) := by decide +kernel
theorem dX2_write_0 : decode cX2_write 0 = .ok (.aload_n 0, 1) := by decide +kernel
theorem dX2_write_1 : decode cX2_write 1 = .ok (.iload_n 1, 1) := by decide +kernel
theorem dX2_write_2 : decode cX2_write 2 = .ok (.invokevirtual 25, 3) := by decide +kernel
theorem dX2_write_5 : decode cX2_write 5 = .ok (.ifCond .eq 33, 3) := by decide +kernel
theorem dX2_write_8 : decode cX2_write 8 = .ok (.aload_n 0, 1) := by decide +kernel
theorem dX2_write_9 : decode cX2_write 9 = .ok (.getfield 9, 3) := by decide +kernel
theorem dX2_write_12 : decode cX2_write 12 = .ok (.iload_n 1, 1) := by decide +kernel
theorem dX2_write_13 : decode cX2_write 13 = .ok (.iload_n 2, 1) := by decide +kernel
theorem dX2_write_14 : decode cX2_write 14 = .ok (.iastore, 1) := by decide +kernel
theorem dX2_write_15 : decode cX2_write 15 = .ok (.aload_n 0, 1) := by decide +kernel
theorem dX2_write_16 : decode cX2_write 16 = .ok (.getfield 15, 3) := by decide +kernel
theorem dX2_write_19 : decode cX2_write 19 = .ok (.iload_n 1, 1) := by decide +kernel
theorem dX2_write_20 : decode cX2_write 20 = .ok (.iload_n 3, 1) := by decide +kernel
theorem dX2_write_21 : decode cX2_write 21 = .ok (.bastore, 1) := by decide +kernel
theorem dX2_write_22 : decode cX2_write 22 = .ok (.aload_n 0, 1) := by decide +kernel
theorem dX2_write_23 : decode cX2_write 23 = .ok (.getfield 19, 3) := by decide +kernel
theorem dX2_write_26 : decode cX2_write 26 = .ok (.iload_n 1, 1) := by decide +kernel
theorem dX2_write_27 : decode cX2_write 27 = .ok (.iload 4, 2) := by decide +kernel
theorem dX2_write_29 : decode cX2_write 29 = .ok (.iastore, 1) := by decide +kernel
theorem dX2_write_30 : decode cX2_write 30 = .ok (.aload_n 0, 1) := by decide +kernel
theorem dX2_write_31 : decode cX2_write 31 = .ok (.getfield 22, 3) := by decide +kernel
theorem dX2_write_34 : decode cX2_write 34 = .ok (.iload_n 1, 1) := by decide +kernel
theorem dX2_write_35 : decode cX2_write 35 = .ok (.iload 5, 2) := by decide +kernel
theorem dX2_write_37 : decode cX2_write 37 = .ok (.iastore, 1) := by decide +kernel
theorem dX2_write_38 : decode cX2_write 38 = .ok (.return_, 1) := by decide +kernel
theorem dX2_told_0 : decode cX2_told 0 = .ok (.bipush 100, 2) := by decide +kernel
theorem dX2_told_2 : decode cX2_told 2 = .ok (.aload_n 0, 1) := by decide +kernel
theorem dX2_told_3 : decode cX2_told 3 = .ok (.iload_n 1, 1) := by decide +kernel
theorem dX2_told_4 : decode cX2_told 4 = .ok (.invokevirtual 29, 3) := by decide +kernel
theorem dX2_told_7 : decode cX2_told 7 = .ok (.imul, 1) := by decide +kernel
theorem dX2_told_8 : decode cX2_told 8 = .ok (.bipush 10, 2) := by decide +kernel
theorem dX2_told_10 : decode cX2_told 10 = .ok (.aload_n 0, 1) := by decide +kernel
theorem dX2_told_11 : decode cX2_told 11 = .ok (.iload_n 1, 1) := by decide +kernel
theorem dX2_told_12 : decode cX2_told 12 = .ok (.invokevirtual 33, 3) := by decide +kernel
theorem dX2_told_15 : decode cX2_told 15 = .ok (.imul, 1) := by decide +kernel
theorem dX2_told_16 : decode cX2_told 16 = .ok (.iadd, 1) := by decide +kernel
theorem dX2_told_17 : decode cX2_told 17 = .ok (.aload_n 0, 1) := by decide +kernel
theorem dX2_told_18 : decode cX2_told 18 = .ok (.iload_n 1, 1) := by decide +kernel
theorem dX2_told_19 : decode cX2_told 19 = .ok (.invokevirtual 36, 3) := by decide +kernel
theorem dX2_told_22 : decode cX2_told 22 = .ok (.iadd, 1) := by decide +kernel
theorem dX2_told_23 : decode cX2_told 23 = .ok (.ireturn, 1) := by decide +kernel
theorem dX2_forceOf_0 : decode cX2_forceOf 0 = .ok (.aload_n 0, 1) := by decide +kernel
theorem dX2_forceOf_1 : decode cX2_forceOf 1 = .ok (.iload_n 1, 1) := by decide +kernel
theorem dX2_forceOf_2 : decode cX2_forceOf 2 = .ok (.invokevirtual 25, 3) := by decide +kernel
theorem dX2_forceOf_5 : decode cX2_forceOf 5 = .ok (.ifCond .eq 12, 3) := by decide +kernel
theorem dX2_forceOf_8 : decode cX2_forceOf 8 = .ok (.aload_n 0, 1) := by decide +kernel
theorem dX2_forceOf_9 : decode cX2_forceOf 9 = .ok (.getfield 9, 3) := by decide +kernel
theorem dX2_forceOf_12 : decode cX2_forceOf 12 = .ok (.iload_n 1, 1) := by decide +kernel
theorem dX2_forceOf_13 : decode cX2_forceOf 13 = .ok (.iaload, 1) := by decide +kernel
theorem dX2_forceOf_14 : decode cX2_forceOf 14 = .ok (.goto 4, 3) := by decide +kernel
theorem dX2_forceOf_17 : decode cX2_forceOf 17 = .ok (.iconst 0, 1) := by decide +kernel
theorem dX2_forceOf_18 : decode cX2_forceOf 18 = .ok (.ireturn, 1) := by decide +kernel
theorem dX2_isFromRight_0 : decode cX2_isFromRight 0 = .ok (.aload_n 0, 1) := by decide +kernel
theorem dX2_isFromRight_1 : decode cX2_isFromRight 1 = .ok (.iload_n 1, 1) := by decide +kernel
theorem dX2_isFromRight_2 : decode cX2_isFromRight 2 = .ok (.invokevirtual 25, 3) := by decide +kernel
theorem dX2_isFromRight_5 : decode cX2_isFromRight 5 = .ok (.ifCond .eq 16, 3) := by decide +kernel
theorem dX2_isFromRight_8 : decode cX2_isFromRight 8 = .ok (.aload_n 0, 1) := by decide +kernel
theorem dX2_isFromRight_9 : decode cX2_isFromRight 9 = .ok (.getfield 15, 3) := by decide +kernel
theorem dX2_isFromRight_12 : decode cX2_isFromRight 12 = .ok (.iload_n 1, 1) := by decide +kernel
theorem dX2_isFromRight_13 : decode cX2_isFromRight 13 = .ok (.baload, 1) := by decide +kernel
theorem dX2_isFromRight_14 : decode cX2_isFromRight 14 = .ok (.ifCond .eq 7, 3) := by decide +kernel
theorem dX2_isFromRight_17 : decode cX2_isFromRight 17 = .ok (.iconst 1, 1) := by decide +kernel
theorem dX2_isFromRight_18 : decode cX2_isFromRight 18 = .ok (.goto 4, 3) := by decide +kernel
theorem dX2_isFromRight_21 : decode cX2_isFromRight 21 = .ok (.iconst 0, 1) := by decide +kernel
theorem dX2_isFromRight_22 : decode cX2_isFromRight 22 = .ok (.ireturn, 1) := by decide +kernel
theorem dX2_hailOf_0 : decode cX2_hailOf 0 = .ok (.aload_n 0, 1) := by decide +kernel
theorem dX2_hailOf_1 : decode cX2_hailOf 1 = .ok (.iload_n 1, 1) := by decide +kernel
theorem dX2_hailOf_2 : decode cX2_hailOf 2 = .ok (.invokevirtual 25, 3) := by decide +kernel
theorem dX2_hailOf_5 : decode cX2_hailOf 5 = .ok (.ifCond .eq 12, 3) := by decide +kernel
theorem dX2_hailOf_8 : decode cX2_hailOf 8 = .ok (.aload_n 0, 1) := by decide +kernel
theorem dX2_hailOf_9 : decode cX2_hailOf 9 = .ok (.getfield 19, 3) := by decide +kernel
theorem dX2_hailOf_12 : decode cX2_hailOf 12 = .ok (.iload_n 1, 1) := by decide +kernel
theorem dX2_hailOf_13 : decode cX2_hailOf 13 = .ok (.iaload, 1) := by decide +kernel
theorem dX2_hailOf_14 : decode cX2_hailOf 14 = .ok (.goto 4, 3) := by decide +kernel
theorem dX2_hailOf_17 : decode cX2_hailOf 17 = .ok (.iconst 0, 1) := by decide +kernel
theorem dX2_hailOf_18 : decode cX2_hailOf 18 = .ok (.ireturn, 1) := by decide +kernel
theorem dX2_rainOf_0 : decode cX2_rainOf 0 = .ok (.aload_n 0, 1) := by decide +kernel
theorem dX2_rainOf_1 : decode cX2_rainOf 1 = .ok (.iload_n 1, 1) := by decide +kernel
theorem dX2_rainOf_2 : decode cX2_rainOf 2 = .ok (.invokevirtual 25, 3) := by decide +kernel
theorem dX2_rainOf_5 : decode cX2_rainOf 5 = .ok (.ifCond .eq 12, 3) := by decide +kernel
theorem dX2_rainOf_8 : decode cX2_rainOf 8 = .ok (.aload_n 0, 1) := by decide +kernel
theorem dX2_rainOf_9 : decode cX2_rainOf 9 = .ok (.getfield 22, 3) := by decide +kernel
theorem dX2_rainOf_12 : decode cX2_rainOf 12 = .ok (.iload_n 1, 1) := by decide +kernel
theorem dX2_rainOf_13 : decode cX2_rainOf 13 = .ok (.iaload, 1) := by decide +kernel
theorem dX2_rainOf_14 : decode cX2_rainOf 14 = .ok (.goto 4, 3) := by decide +kernel
theorem dX2_rainOf_17 : decode cX2_rainOf 17 = .ok (.iconst 0, 1) := by decide +kernel
theorem dX2_rainOf_18 : decode cX2_rainOf 18 = .ok (.ireturn, 1) := by decide +kernel
theorem dX3_init_0 : decode cX3_init 0 = .ok (.aload_n 0, 1) := by decide +kernel
theorem dX3_init_1 : decode cX3_init 1 = .ok (.invokespecial 3, 3) := by decide +kernel
theorem dX3_init_4 : decode cX3_init 4 = .ok (.aload_n 0, 1) := by decide +kernel
theorem dX3_init_5 : decode cX3_init 5 = .ok (.new 9, 3) := by decide +kernel
theorem dX3_init_8 : decode cX3_init 8 = .ok (.dup, 1) := by decide +kernel
theorem dX3_init_9 : decode cX3_init 9 = .ok (.invokespecial 11, 3) := by decide +kernel
theorem dX3_init_12 : decode cX3_init 12 = .ok (.putfield 12, 3) := by decide +kernel
theorem dX3_init_15 : decode cX3_init 15 = .ok (.aload_n 0, 1) := by decide +kernel
theorem dX3_init_16 : decode cX3_init 16 = .ok (.new 9, 3) := by decide +kernel
theorem dX3_init_19 : decode cX3_init 19 = .ok (.dup, 1) := by decide +kernel
theorem dX3_init_20 : decode cX3_init 20 = .ok (.invokespecial 11, 3) := by decide +kernel
theorem dX3_init_23 : decode cX3_init 23 = .ok (.putfield 16, 3) := by decide +kernel
theorem dX3_init_26 : decode cX3_init 26 = .ok (.aload_n 0, 1) := by decide +kernel
theorem dX3_init_27 : decode cX3_init 27 = .ok (.new 19, 3) := by decide +kernel
theorem dX3_init_30 : decode cX3_init 30 = .ok (.dup, 1) := by decide +kernel
theorem dX3_init_31 : decode cX3_init 31 = .ok (.invokespecial 21, 3) := by decide +kernel
theorem dX3_init_34 : decode cX3_init 34 = .ok (.putfield 22, 3) := by decide +kernel
theorem dX3_init_37 : decode cX3_init 37 = .ok (.aload_n 0, 1) := by decide +kernel
theorem dX3_init_38 : decode cX3_init 38 = .ok (.new 26, 3) := by decide +kernel
theorem dX3_init_41 : decode cX3_init 41 = .ok (.dup, 1) := by decide +kernel
theorem dX3_init_42 : decode cX3_init 42 = .ok (.invokespecial 28, 3) := by decide +kernel
theorem dX3_init_45 : decode cX3_init 45 = .ok (.putfield 29, 3) := by decide +kernel
theorem dX3_init_48 : decode cX3_init 48 = .ok (.return_, 1) := by decide +kernel
theorem dX3_lay_0 : decode cX3_lay 0 = .ok (.iload_n 1, 1) := by decide +kernel
theorem dX3_lay_1 : decode cX3_lay 1 = .ok (.iload_n 2, 1) := by decide +kernel
theorem dX3_lay_2 : decode cX3_lay 2 = .ok (.iload_n 3, 1) := by decide +kernel
theorem dX3_lay_3 : decode cX3_lay 3 = .ok (.invokestatic 33, 3) := by decide +kernel
theorem dX3_lay_6 : decode cX3_lay 6 = .ok (.ifCond .eq 11, 3) := by decide +kernel
theorem dX3_lay_9 : decode cX3_lay 9 = .ok (.iload 4, 2) := by decide +kernel
theorem dX3_lay_11 : decode cX3_lay 11 = .ok (.invokestatic 37, 3) := by decide +kernel
theorem dX3_lay_14 : decode cX3_lay 14 = .ok (.ifCond .ne 13, 3) := by decide +kernel
theorem dX3_lay_17 : decode cX3_lay 17 = .ok (.new 41, 3) := by decide +kernel
theorem dX3_lay_20 : decode cX3_lay 20 = .ok (.dup, 1) := by decide +kernel
theorem dX3_lay_21 : decode cX3_lay 21 = .ok (.ldc 43, 2) := by decide +kernel
theorem dX3_lay_23 : decode cX3_lay 23 = .ok (.invokespecial 45, 3) := by decide +kernel
theorem dX3_lay_26 : decode cX3_lay 26 = .ok (.athrow, 1) := by decide +kernel
theorem dX3_lay_27 : decode cX3_lay 27 = .ok (.aload_n 0, 1) := by decide +kernel
theorem dX3_lay_28 : decode cX3_lay 28 = .ok (.getfield 12, 3) := by decide +kernel
theorem dX3_lay_31 : decode cX3_lay 31 = .ok (.getfield 48, 3) := by decide +kernel
theorem dX3_lay_34 : decode cX3_lay 34 = .ok (.bipush 60, 2) := by decide +kernel
theorem dX3_lay_36 : decode cX3_lay 36 = .ok (.if_icmp .ge 29, 3) := by decide +kernel
theorem dX3_lay_39 : decode cX3_lay 39 = .ok (.aload_n 0, 1) := by decide +kernel
theorem dX3_lay_40 : decode cX3_lay 40 = .ok (.getfield 12, 3) := by decide +kernel
theorem dX3_lay_43 : decode cX3_lay 43 = .ok (.getfield 52, 3) := by decide +kernel
theorem dX3_lay_46 : decode cX3_lay 46 = .ok (.sipush 200, 3) := by decide +kernel
theorem dX3_lay_49 : decode cX3_lay 49 = .ok (.if_icmp .ge 16, 3) := by decide +kernel
theorem dX3_lay_52 : decode cX3_lay 52 = .ok (.aload_n 0, 1) := by decide +kernel
theorem dX3_lay_53 : decode cX3_lay 53 = .ok (.getfield 12, 3) := by decide +kernel
theorem dX3_lay_56 : decode cX3_lay 56 = .ok (.iload_n 1, 1) := by decide +kernel
theorem dX3_lay_57 : decode cX3_lay 57 = .ok (.iload_n 2, 1) := by decide +kernel
theorem dX3_lay_58 : decode cX3_lay 58 = .ok (.iload_n 3, 1) := by decide +kernel
theorem dX3_lay_59 : decode cX3_lay 59 = .ok (.invokevirtual 55, 3) := by decide +kernel
theorem dX3_lay_62 : decode cX3_lay 62 = .ok (.ifCond .ne 13, 3) := by decide +kernel
theorem dX3_lay_65 : decode cX3_lay 65 = .ok (.new 58, 3) := by decide +kernel
theorem dX3_lay_68 : decode cX3_lay 68 = .ok (.dup, 1) := by decide +kernel
theorem dX3_lay_69 : decode cX3_lay 69 = .ok (.ldc 60, 2) := by decide +kernel
theorem dX3_lay_71 : decode cX3_lay 71 = .ok (.invokespecial 62, 3) := by decide +kernel
theorem dX3_lay_74 : decode cX3_lay 74 = .ok (.athrow, 1) := by decide +kernel
theorem dX3_lay_75 : decode cX3_lay 75 = .ok (.aload_n 0, 1) := by decide +kernel
theorem dX3_lay_76 : decode cX3_lay 76 = .ok (.getfield 12, 3) := by decide +kernel
theorem dX3_lay_79 : decode cX3_lay 79 = .ok (.iload_n 1, 1) := by decide +kernel
theorem dX3_lay_80 : decode cX3_lay 80 = .ok (.iload_n 2, 1) := by decide +kernel
theorem dX3_lay_81 : decode cX3_lay 81 = .ok (.iload_n 3, 1) := by decide +kernel
theorem dX3_lay_82 : decode cX3_lay 82 = .ok (.iload 4, 2) := by decide +kernel
theorem dX3_lay_84 : decode cX3_lay 84 = .ok (.invokevirtual 63, 3) := by decide +kernel
theorem dX3_lay_87 : decode cX3_lay 87 = .ok (.ireturn, 1) := by decide +kernel
theorem dX3_take_0 : decode cX3_take 0 = .ok (.aload_n 0, 1) := by decide +kernel
theorem dX3_take_1 : decode cX3_take 1 = .ok (.getfield 12, 3) := by decide +kernel
theorem dX3_take_4 : decode cX3_take 4 = .ok (.iload_n 1, 1) := by decide +kernel
theorem dX3_take_5 : decode cX3_take 5 = .ok (.invokevirtual 67, 3) := by decide +kernel
theorem dX3_take_8 : decode cX3_take 8 = .ok (.ifCond .ne 13, 3) := by decide +kernel
theorem dX3_take_11 : decode cX3_take 11 = .ok (.new 70, 3) := by decide +kernel
theorem dX3_take_14 : decode cX3_take 14 = .ok (.dup, 1) := by decide +kernel
theorem dX3_take_15 : decode cX3_take 15 = .ok (.ldc 72, 2) := by decide +kernel
theorem dX3_take_17 : decode cX3_take 17 = .ok (.invokespecial 74, 3) := by decide +kernel
theorem dX3_take_20 : decode cX3_take 20 = .ok (.athrow, 1) := by decide +kernel
theorem dX3_take_21 : decode cX3_take 21 = .ok (.aload_n 0, 1) := by decide +kernel
theorem dX3_take_22 : decode cX3_take 22 = .ok (.getfield 12, 3) := by decide +kernel
theorem dX3_take_25 : decode cX3_take 25 = .ok (.iload_n 1, 1) := by decide +kernel
theorem dX3_take_26 : decode cX3_take 26 = .ok (.invokevirtual 75, 3) := by decide +kernel
theorem dX3_take_29 : decode cX3_take 29 = .ok (.ifCond .ne 13, 3) := by decide +kernel
theorem dX3_take_32 : decode cX3_take 32 = .ok (.new 58, 3) := by decide +kernel
theorem dX3_take_35 : decode cX3_take 35 = .ok (.dup, 1) := by decide +kernel
theorem dX3_take_36 : decode cX3_take 36 = .ok (.ldc 78, 2) := by decide +kernel
theorem dX3_take_38 : decode cX3_take 38 = .ok (.invokespecial 62, 3) := by decide +kernel
theorem dX3_take_41 : decode cX3_take 41 = .ok (.athrow, 1) := by decide +kernel
theorem dX3_take_42 : decode cX3_take 42 = .ok (.aload_n 0, 1) := by decide +kernel
theorem dX3_take_43 : decode cX3_take 43 = .ok (.getfield 12, 3) := by decide +kernel
theorem dX3_take_46 : decode cX3_take 46 = .ok (.iload_n 1, 1) := by decide +kernel
theorem dX3_take_47 : decode cX3_take 47 = .ok (.invokevirtual 80, 3) := by decide +kernel
theorem dX3_take_50 : decode cX3_take 50 = .ok (.aload_n 0, 1) := by decide +kernel
theorem dX3_take_51 : decode cX3_take 51 = .ok (.getfield 12, 3) := by decide +kernel
theorem dX3_take_54 : decode cX3_take 54 = .ok (.iload_n 1, 1) := by decide +kernel
theorem dX3_take_55 : decode cX3_take 55 = .ok (.invokevirtual 84, 3) := by decide +kernel
theorem dX3_take_58 : decode cX3_take 58 = .ok (.ireturn, 1) := by decide +kernel
theorem dX3_nail_0 : decode cX3_nail 0 = .ok (.aload_n 0, 1) := by decide +kernel
theorem dX3_nail_1 : decode cX3_nail 1 = .ok (.getfield 12, 3) := by decide +kernel
theorem dX3_nail_4 : decode cX3_nail 4 = .ok (.iload_n 1, 1) := by decide +kernel
theorem dX3_nail_5 : decode cX3_nail 5 = .ok (.invokevirtual 67, 3) := by decide +kernel
theorem dX3_nail_8 : decode cX3_nail 8 = .ok (.ifCond .ne 13, 3) := by decide +kernel
theorem dX3_nail_11 : decode cX3_nail 11 = .ok (.new 70, 3) := by decide +kernel
theorem dX3_nail_14 : decode cX3_nail 14 = .ok (.dup, 1) := by decide +kernel
theorem dX3_nail_15 : decode cX3_nail 15 = .ok (.ldc 72, 2) := by decide +kernel
theorem dX3_nail_17 : decode cX3_nail 17 = .ok (.invokespecial 74, 3) := by decide +kernel
theorem dX3_nail_20 : decode cX3_nail 20 = .ok (.athrow, 1) := by decide +kernel
theorem dX3_nail_21 : decode cX3_nail 21 = .ok (.iload_n 2, 1) := by decide +kernel
theorem dX3_nail_22 : decode cX3_nail 22 = .ok (.invokestatic 37, 3) := by decide +kernel
theorem dX3_nail_25 : decode cX3_nail 25 = .ok (.ifCond .ne 13, 3) := by decide +kernel
theorem dX3_nail_28 : decode cX3_nail 28 = .ok (.new 41, 3) := by decide +kernel
theorem dX3_nail_31 : decode cX3_nail 31 = .ok (.dup, 1) := by decide +kernel
theorem dX3_nail_32 : decode cX3_nail 32 = .ok (.ldc 88, 2) := by decide +kernel
theorem dX3_nail_34 : decode cX3_nail 34 = .ok (.invokespecial 45, 3) := by decide +kernel
theorem dX3_nail_37 : decode cX3_nail 37 = .ok (.athrow, 1) := by decide +kernel
theorem dX3_nail_38 : decode cX3_nail 38 = .ok (.aload_n 0, 1) := by decide +kernel
theorem dX3_nail_39 : decode cX3_nail 39 = .ok (.getfield 12, 3) := by decide +kernel
theorem dX3_nail_42 : decode cX3_nail 42 = .ok (.iload_n 1, 1) := by decide +kernel
theorem dX3_nail_43 : decode cX3_nail 43 = .ok (.invokevirtual 75, 3) := by decide +kernel
theorem dX3_nail_46 : decode cX3_nail 46 = .ok (.ifCond .ne 13, 3) := by decide +kernel
theorem dX3_nail_49 : decode cX3_nail 49 = .ok (.new 58, 3) := by decide +kernel
theorem dX3_nail_52 : decode cX3_nail 52 = .ok (.dup, 1) := by decide +kernel
theorem dX3_nail_53 : decode cX3_nail 53 = .ok (.ldc 78, 2) := by decide +kernel
theorem dX3_nail_55 : decode cX3_nail 55 = .ok (.invokespecial 62, 3) := by decide +kernel
theorem dX3_nail_58 : decode cX3_nail 58 = .ok (.athrow, 1) := by decide +kernel
theorem dX3_nail_59 : decode cX3_nail 59 = .ok (.aload_n 0, 1) := by decide +kernel
theorem dX3_nail_60 : decode cX3_nail 60 = .ok (.getfield 12, 3) := by decide +kernel
theorem dX3_nail_63 : decode cX3_nail 63 = .ok (.iload_n 1, 1) := by decide +kernel
theorem dX3_nail_64 : decode cX3_nail 64 = .ok (.invokevirtual 84, 3) := by decide +kernel
theorem dX3_nail_67 : decode cX3_nail 67 = .ok (.istore_n 3, 1) := by decide +kernel
theorem dX3_nail_68 : decode cX3_nail 68 = .ok (.aload_n 0, 1) := by decide +kernel
theorem dX3_nail_69 : decode cX3_nail 69 = .ok (.getfield 12, 3) := by decide +kernel
theorem dX3_nail_72 : decode cX3_nail 72 = .ok (.iload_n 1, 1) := by decide +kernel
theorem dX3_nail_73 : decode cX3_nail 73 = .ok (.iload_n 2, 1) := by decide +kernel
theorem dX3_nail_74 : decode cX3_nail 74 = .ok (.invokevirtual 90, 3) := by decide +kernel
theorem dX3_nail_77 : decode cX3_nail 77 = .ok (.iload_n 3, 1) := by decide +kernel
theorem dX3_nail_78 : decode cX3_nail 78 = .ok (.ireturn, 1) := by decide +kernel
theorem dX3_board_0 : decode cX3_board 0 = .ok (.iload_n 1, 1) := by decide +kernel
theorem dX3_board_1 : decode cX3_board 1 = .ok (.iload_n 2, 1) := by decide +kernel
theorem dX3_board_2 : decode cX3_board 2 = .ok (.invokestatic 94, 3) := by decide +kernel
theorem dX3_board_5 : decode cX3_board 5 = .ok (.ifCond .ne 13, 3) := by decide +kernel
theorem dX3_board_8 : decode cX3_board 8 = .ok (.new 70, 3) := by decide +kernel
theorem dX3_board_11 : decode cX3_board 11 = .ok (.dup, 1) := by decide +kernel
theorem dX3_board_12 : decode cX3_board 12 = .ok (.ldc 98, 2) := by decide +kernel
theorem dX3_board_14 : decode cX3_board 14 = .ok (.invokespecial 74, 3) := by decide +kernel
theorem dX3_board_17 : decode cX3_board 17 = .ok (.athrow, 1) := by decide +kernel
theorem dX3_board_18 : decode cX3_board 18 = .ok (.aload_n 0, 1) := by decide +kernel
theorem dX3_board_19 : decode cX3_board 19 = .ok (.getfield 12, 3) := by decide +kernel
theorem dX3_board_22 : decode cX3_board 22 = .ok (.iload_n 1, 1) := by decide +kernel
theorem dX3_board_23 : decode cX3_board 23 = .ok (.iload_n 2, 1) := by decide +kernel
theorem dX3_board_24 : decode cX3_board 24 = .ok (.invokevirtual 100, 3) := by decide +kernel
theorem dX3_board_27 : decode cX3_board 27 = .ok (.iconst (-1), 1) := by decide +kernel
theorem dX3_board_28 : decode cX3_board 28 = .ok (.if_icmp .eq 13, 3) := by decide +kernel
theorem dX3_board_31 : decode cX3_board 31 = .ok (.new 58, 3) := by decide +kernel
theorem dX3_board_34 : decode cX3_board 34 = .ok (.dup, 1) := by decide +kernel
theorem dX3_board_35 : decode cX3_board 35 = .ok (.ldc 104, 2) := by decide +kernel
theorem dX3_board_37 : decode cX3_board 37 = .ok (.invokespecial 62, 3) := by decide +kernel
theorem dX3_board_40 : decode cX3_board 40 = .ok (.athrow, 1) := by decide +kernel
theorem dX3_board_41 : decode cX3_board 41 = .ok (.aload_n 0, 1) := by decide +kernel
theorem dX3_board_42 : decode cX3_board 42 = .ok (.getfield 12, 3) := by decide +kernel
theorem dX3_board_45 : decode cX3_board 45 = .ok (.iload_n 1, 1) := by decide +kernel
theorem dX3_board_46 : decode cX3_board 46 = .ok (.iload_n 2, 1) := by decide +kernel
theorem dX3_board_47 : decode cX3_board 47 = .ok (.invokevirtual 106, 3) := by decide +kernel
theorem dX3_board_50 : decode cX3_board 50 = .ok (.istore_n 3, 1) := by decide +kernel
theorem dX3_board_51 : decode cX3_board 51 = .ok (.aload_n 0, 1) := by decide +kernel
theorem dX3_board_52 : decode cX3_board 52 = .ok (.getfield 12, 3) := by decide +kernel
theorem dX3_board_55 : decode cX3_board 55 = .ok (.iload_n 1, 1) := by decide +kernel
theorem dX3_board_56 : decode cX3_board 56 = .ok (.iload_n 2, 1) := by decide +kernel
theorem dX3_board_57 : decode cX3_board 57 = .ok (.iconst 0, 1) := by decide +kernel
theorem dX3_board_58 : decode cX3_board 58 = .ok (.invokevirtual 109, 3) := by decide +kernel
theorem dX3_board_61 : decode cX3_board 61 = .ok (.iload_n 3, 1) := by decide +kernel
theorem dX3_board_62 : decode cX3_board 62 = .ok (.ireturn, 1) := by decide +kernel
theorem dX3_setDay_0 : decode cX3_setDay 0 = .ok (.iload_n 1, 1) := by decide +kernel
theorem dX3_setDay_1 : decode cX3_setDay 1 = .ok (.bipush 6, 2) := by decide +kernel
theorem dX3_setDay_3 : decode cX3_setDay 3 = .ok (.invokestatic 113, 3) := by decide +kernel
theorem dX3_setDay_6 : decode cX3_setDay 6 = .ok (.ifCond .ne 13, 3) := by decide +kernel
theorem dX3_setDay_9 : decode cX3_setDay 9 = .ok (.new 70, 3) := by decide +kernel
theorem dX3_setDay_12 : decode cX3_setDay 12 = .ok (.dup, 1) := by decide +kernel
theorem dX3_setDay_13 : decode cX3_setDay 13 = .ok (.ldc 116, 2) := by decide +kernel
theorem dX3_setDay_15 : decode cX3_setDay 15 = .ok (.invokespecial 74, 3) := by decide +kernel
theorem dX3_setDay_18 : decode cX3_setDay 18 = .ok (.athrow, 1) := by decide +kernel
theorem dX3_setDay_19 : decode cX3_setDay 19 = .ok (.iload_n 2, 1) := by decide +kernel
theorem dX3_setDay_20 : decode cX3_setDay 20 = .ok (.bipush 20, 2) := by decide +kernel
theorem dX3_setDay_22 : decode cX3_setDay 22 = .ok (.invokestatic 113, 3) := by decide +kernel
theorem dX3_setDay_25 : decode cX3_setDay 25 = .ok (.ifCond .eq 23, 3) := by decide +kernel
theorem dX3_setDay_28 : decode cX3_setDay 28 = .ok (.iload 4, 2) := by decide +kernel
theorem dX3_setDay_30 : decode cX3_setDay 30 = .ok (.bipush 9, 2) := by decide +kernel
theorem dX3_setDay_32 : decode cX3_setDay 32 = .ok (.invokestatic 113, 3) := by decide +kernel
theorem dX3_setDay_35 : decode cX3_setDay 35 = .ok (.ifCond .eq 13, 3) := by decide +kernel
theorem dX3_setDay_38 : decode cX3_setDay 38 = .ok (.iload 5, 2) := by decide +kernel
theorem dX3_setDay_40 : decode cX3_setDay 40 = .ok (.bipush 9, 2) := by decide +kernel
theorem dX3_setDay_42 : decode cX3_setDay 42 = .ok (.invokestatic 113, 3) := by decide +kernel
theorem dX3_setDay_45 : decode cX3_setDay 45 = .ok (.ifCond .ne 13, 3) := by decide +kernel
theorem dX3_setDay_48 : decode cX3_setDay 48 = .ok (.new 41, 3) := by decide +kernel
theorem dX3_setDay_51 : decode cX3_setDay 51 = .ok (.dup, 1) := by decide +kernel
theorem dX3_setDay_52 : decode cX3_setDay 52 = .ok (.ldc 118, 2) := by decide +kernel
theorem dX3_setDay_54 : decode cX3_setDay 54 = .ok (.invokespecial 45, 3) := by decide +kernel
theorem dX3_setDay_57 : decode cX3_setDay 57 = .ok (.athrow, 1) := by decide +kernel
theorem dX3_setDay_58 : decode cX3_setDay 58 = .ok (.aload_n 0, 1) := by decide +kernel
theorem dX3_setDay_59 : decode cX3_setDay 59 = .ok (.getfield 29, 3) := by decide +kernel
theorem dX3_setDay_62 : decode cX3_setDay 62 = .ok (.iload_n 1, 1) := by decide +kernel
theorem dX3_setDay_63 : decode cX3_setDay 63 = .ok (.invokevirtual 120, 3) := by decide +kernel
theorem dX3_setDay_66 : decode cX3_setDay 66 = .ok (.istore 6, 2) := by decide +kernel
theorem dX3_setDay_68 : decode cX3_setDay 68 = .ok (.aload_n 0, 1) := by decide +kernel
theorem dX3_setDay_69 : decode cX3_setDay 69 = .ok (.getfield 29, 3) := by decide +kernel
theorem dX3_setDay_72 : decode cX3_setDay 72 = .ok (.iload_n 1, 1) := by decide +kernel
theorem dX3_setDay_73 : decode cX3_setDay 73 = .ok (.iload_n 2, 1) := by decide +kernel
theorem dX3_setDay_74 : decode cX3_setDay 74 = .ok (.iload_n 3, 1) := by decide +kernel
theorem dX3_setDay_75 : decode cX3_setDay 75 = .ok (.iload 4, 2) := by decide +kernel
theorem dX3_setDay_77 : decode cX3_setDay 77 = .ok (.iload 5, 2) := by decide +kernel
theorem dX3_setDay_79 : decode cX3_setDay 79 = .ok (.invokevirtual 123, 3) := by decide +kernel
theorem dX3_setDay_82 : decode cX3_setDay 82 = .ok (.iload 6, 2) := by decide +kernel
theorem dX3_setDay_84 : decode cX3_setDay 84 = .ok (.ireturn, 1) := by decide +kernel
theorem dX3_slate_0 : decode cX3_slate 0 = .ok (.aload_n 0, 1) := by decide +kernel
theorem dX3_slate_1 : decode cX3_slate 1 = .ok (.getfield 12, 3) := by decide +kernel
theorem dX3_slate_4 : decode cX3_slate 4 = .ok (.iload_n 1, 1) := by decide +kernel
theorem dX3_slate_5 : decode cX3_slate 5 = .ok (.invokevirtual 67, 3) := by decide +kernel
theorem dX3_slate_8 : decode cX3_slate 8 = .ok (.ifCond .eq 12, 3) := by decide +kernel
theorem dX3_slate_11 : decode cX3_slate 11 = .ok (.iload_n 2, 1) := by decide +kernel
theorem dX3_slate_12 : decode cX3_slate 12 = .ok (.bipush 7, 2) := by decide +kernel
theorem dX3_slate_14 : decode cX3_slate 14 = .ok (.invokestatic 113, 3) := by decide +kernel
theorem dX3_slate_17 : decode cX3_slate 17 = .ok (.ifCond .ne 13, 3) := by decide +kernel
theorem dX3_slate_20 : decode cX3_slate 20 = .ok (.new 70, 3) := by decide +kernel
theorem dX3_slate_23 : decode cX3_slate 23 = .ok (.dup, 1) := by decide +kernel
theorem dX3_slate_24 : decode cX3_slate 24 = .ok (.ldc 127, 2) := by decide +kernel
theorem dX3_slate_26 : decode cX3_slate 26 = .ok (.invokespecial 74, 3) := by decide +kernel
theorem dX3_slate_29 : decode cX3_slate 29 = .ok (.athrow, 1) := by decide +kernel
theorem dX3_slate_30 : decode cX3_slate 30 = .ok (.aload_n 0, 1) := by decide +kernel
theorem dX3_slate_31 : decode cX3_slate 31 = .ok (.getfield 12, 3) := by decide +kernel
theorem dX3_slate_34 : decode cX3_slate 34 = .ok (.iload_n 1, 1) := by decide +kernel
theorem dX3_slate_35 : decode cX3_slate 35 = .ok (.iload_n 2, 1) := by decide +kernel
theorem dX3_slate_36 : decode cX3_slate 36 = .ok (.invokevirtual 129, 3) := by decide +kernel
theorem dX3_slate_39 : decode cX3_slate 39 = .ok (.ireturn, 1) := by decide +kernel
theorem dX3_place_0 : decode cX3_place 0 = .ok (.iload_n 1, 1) := by decide +kernel
theorem dX3_place_1 : decode cX3_place 1 = .ok (.iload_n 2, 1) := by decide +kernel
theorem dX3_place_2 : decode cX3_place 2 = .ok (.invokestatic 94, 3) := by decide +kernel
theorem dX3_place_5 : decode cX3_place 5 = .ok (.ifCond .eq 11, 3) := by decide +kernel
theorem dX3_place_8 : decode cX3_place 8 = .ok (.iload_n 3, 1) := by decide +kernel
theorem dX3_place_9 : decode cX3_place 9 = .ok (.iconst 2, 1) := by decide +kernel
theorem dX3_place_10 : decode cX3_place 10 = .ok (.invokestatic 113, 3) := by decide +kernel
theorem dX3_place_13 : decode cX3_place 13 = .ok (.ifCond .ne 13, 3) := by decide +kernel
theorem dX3_place_16 : decode cX3_place 16 = .ok (.new 70, 3) := by decide +kernel
theorem dX3_place_19 : decode cX3_place 19 = .ok (.dup, 1) := by decide +kernel
theorem dX3_place_20 : decode cX3_place 20 = .ok (.ldc 132, 2) := by decide +kernel
theorem dX3_place_22 : decode cX3_place 22 = .ok (.invokespecial 74, 3) := by decide +kernel
theorem dX3_place_25 : decode cX3_place 25 = .ok (.athrow, 1) := by decide +kernel
theorem dX3_place_26 : decode cX3_place 26 = .ok (.iload_n 3, 1) := by decide +kernel
theorem dX3_place_27 : decode cX3_place 27 = .ok (.lookupswitch 53 #[(0, 25), (1, 35)], 25) := by decide +kernel
theorem dX3_place_52 : decode cX3_place 52 = .ok (.aload_n 0, 1) := by decide +kernel
theorem dX3_place_53 : decode cX3_place 53 = .ok (.getfield 12, 3) := by decide +kernel
theorem dX3_place_56 : decode cX3_place 56 = .ok (.iload_n 1, 1) := by decide +kernel
theorem dX3_place_57 : decode cX3_place 57 = .ok (.iload_n 2, 1) := by decide +kernel
theorem dX3_place_58 : decode cX3_place 58 = .ok (.invokevirtual 100, 3) := by decide +kernel
theorem dX3_place_61 : decode cX3_place 61 = .ok (.ireturn, 1) := by decide +kernel
theorem dX3_place_62 : decode cX3_place 62 = .ok (.aload_n 0, 1) := by decide +kernel
theorem dX3_place_63 : decode cX3_place 63 = .ok (.getfield 12, 3) := by decide +kernel
theorem dX3_place_66 : decode cX3_place 66 = .ok (.iload_n 1, 1) := by decide +kernel
theorem dX3_place_67 : decode cX3_place 67 = .ok (.iload_n 2, 1) := by decide +kernel
theorem dX3_place_68 : decode cX3_place 68 = .ok (.invokevirtual 134, 3) := by decide +kernel
theorem dX3_place_71 : decode cX3_place 71 = .ok (.ifCond .eq 7, 3) := by decide +kernel
theorem dX3_place_74 : decode cX3_place 74 = .ok (.iconst 1, 1) := by decide +kernel
theorem dX3_place_75 : decode cX3_place 75 = .ok (.goto 4, 3) := by decide +kernel
theorem dX3_place_78 : decode cX3_place 78 = .ok (.iconst 0, 1) := by decide +kernel
theorem dX3_place_79 : decode cX3_place 79 = .ok (.ireturn, 1) := by decide +kernel
theorem dX3_place_80 : decode cX3_place 80 = .ok (.aload_n 0, 1) := by decide +kernel
theorem dX3_place_81 : decode cX3_place 81 = .ok (.getfield 12, 3) := by decide +kernel
theorem dX3_place_84 : decode cX3_place 84 = .ok (.iload_n 1, 1) := by decide +kernel
theorem dX3_place_85 : decode cX3_place 85 = .ok (.iload_n 2, 1) := by decide +kernel
theorem dX3_place_86 : decode cX3_place 86 = .ok (.invokevirtual 106, 3) := by decide +kernel
theorem dX3_place_89 : decode cX3_place 89 = .ok (.ireturn, 1) := by decide +kernel
theorem dX3_count_0 : decode cX3_count 0 = .ok (.iload_n 1, 1) := by decide +kernel
theorem dX3_count_1 : decode cX3_count 1 = .ok (.bipush 6, 2) := by decide +kernel
theorem dX3_count_3 : decode cX3_count 3 = .ok (.invokestatic 113, 3) := by decide +kernel
theorem dX3_count_6 : decode cX3_count 6 = .ok (.ifCond .ne 13, 3) := by decide +kernel
theorem dX3_count_9 : decode cX3_count 9 = .ok (.new 70, 3) := by decide +kernel
theorem dX3_count_12 : decode cX3_count 12 = .ok (.dup, 1) := by decide +kernel
theorem dX3_count_13 : decode cX3_count 13 = .ok (.ldc 137, 2) := by decide +kernel
theorem dX3_count_15 : decode cX3_count 15 = .ok (.invokespecial 74, 3) := by decide +kernel
theorem dX3_count_18 : decode cX3_count 18 = .ok (.athrow, 1) := by decide +kernel
theorem dX3_count_19 : decode cX3_count 19 = .ok (.iload_n 1, 1) := by decide +kernel
theorem dX3_count_20 : decode cX3_count 20 = .ok (.tableswitch 88 0 5 #[40, 48, 56, 64, 72, 80], 40) := by decide +kernel
theorem dX3_count_60 : decode cX3_count 60 = .ok (.aload_n 0, 1) := by decide +kernel
theorem dX3_count_61 : decode cX3_count 61 = .ok (.getfield 12, 3) := by decide +kernel
theorem dX3_count_64 : decode cX3_count 64 = .ok (.getfield 139, 3) := by decide +kernel
theorem dX3_count_67 : decode cX3_count 67 = .ok (.ireturn, 1) := by decide +kernel
theorem dX3_count_68 : decode cX3_count 68 = .ok (.aload_n 0, 1) := by decide +kernel
theorem dX3_count_69 : decode cX3_count 69 = .ok (.getfield 12, 3) := by decide +kernel
theorem dX3_count_72 : decode cX3_count 72 = .ok (.getfield 52, 3) := by decide +kernel
theorem dX3_count_75 : decode cX3_count 75 = .ok (.ireturn, 1) := by decide +kernel
theorem dX3_count_76 : decode cX3_count 76 = .ok (.aload_n 0, 1) := by decide +kernel
theorem dX3_count_77 : decode cX3_count 77 = .ok (.getfield 12, 3) := by decide +kernel
theorem dX3_count_80 : decode cX3_count 80 = .ok (.getfield 48, 3) := by decide +kernel
theorem dX3_count_83 : decode cX3_count 83 = .ok (.ireturn, 1) := by decide +kernel
theorem dX3_count_84 : decode cX3_count 84 = .ok (.aload_n 0, 1) := by decide +kernel
theorem dX3_count_85 : decode cX3_count 85 = .ok (.getfield 12, 3) := by decide +kernel
theorem dX3_count_88 : decode cX3_count 88 = .ok (.invokevirtual 142, 3) := by decide +kernel
theorem dX3_count_91 : decode cX3_count 91 = .ok (.ireturn, 1) := by decide +kernel
theorem dX3_count_92 : decode cX3_count 92 = .ok (.aload_n 0, 1) := by decide +kernel
theorem dX3_count_93 : decode cX3_count 93 = .ok (.getfield 12, 3) := by decide +kernel
theorem dX3_count_96 : decode cX3_count 96 = .ok (.invokevirtual 146, 3) := by decide +kernel
theorem dX3_count_99 : decode cX3_count 99 = .ok (.ireturn, 1) := by decide +kernel
theorem dX3_count_100 : decode cX3_count 100 = .ok (.aload_n 0, 1) := by decide +kernel
theorem dX3_count_101 : decode cX3_count 101 = .ok (.getfield 12, 3) := by decide +kernel
theorem dX3_count_104 : decode cX3_count 104 = .ok (.getfield 149, 3) := by decide +kernel
theorem dX3_count_107 : decode cX3_count 107 = .ok (.ireturn, 1) := by decide +kernel
theorem dX3_count_108 : decode cX3_count 108 = .ok (.aload_n 0, 1) := by decide +kernel
theorem dX3_count_109 : decode cX3_count 109 = .ok (.getfield 12, 3) := by decide +kernel
theorem dX3_count_112 : decode cX3_count 112 = .ok (.invokevirtual 152, 3) := by decide +kernel
theorem dX3_count_115 : decode cX3_count 115 = .ok (.ireturn, 1) := by decide +kernel
theorem dX3_lift_0 : decode cX3_lift 0 = .ok (.aload_n 0, 1) := by decide +kernel
theorem dX3_lift_1 : decode cX3_lift 1 = .ok (.getfield 12, 3) := by decide +kernel
theorem dX3_lift_4 : decode cX3_lift 4 = .ok (.iload_n 1, 1) := by decide +kernel
theorem dX3_lift_5 : decode cX3_lift 5 = .ok (.invokevirtual 67, 3) := by decide +kernel
theorem dX3_lift_8 : decode cX3_lift 8 = .ok (.ifCond .ne 13, 3) := by decide +kernel
theorem dX3_lift_11 : decode cX3_lift 11 = .ok (.new 70, 3) := by decide +kernel
theorem dX3_lift_14 : decode cX3_lift 14 = .ok (.dup, 1) := by decide +kernel
theorem dX3_lift_15 : decode cX3_lift 15 = .ok (.ldc 72, 2) := by decide +kernel
theorem dX3_lift_17 : decode cX3_lift 17 = .ok (.invokespecial 74, 3) := by decide +kernel
theorem dX3_lift_20 : decode cX3_lift 20 = .ok (.athrow, 1) := by decide +kernel
theorem dX3_lift_21 : decode cX3_lift 21 = .ok (.iload_n 2, 1) := by decide +kernel
theorem dX3_lift_22 : decode cX3_lift 22 = .ok (.bipush 20, 2) := by decide +kernel
theorem dX3_lift_24 : decode cX3_lift 24 = .ok (.invokestatic 113, 3) := by decide +kernel
theorem dX3_lift_27 : decode cX3_lift 27 = .ok (.ifCond .ne 13, 3) := by decide +kernel
theorem dX3_lift_30 : decode cX3_lift 30 = .ok (.new 41, 3) := by decide +kernel
theorem dX3_lift_33 : decode cX3_lift 33 = .ok (.dup, 1) := by decide +kernel
theorem dX3_lift_34 : decode cX3_lift 34 = .ok (.ldc 155, 2) := by decide +kernel
theorem dX3_lift_36 : decode cX3_lift 36 = .ok (.invokespecial 45, 3) := by decide +kernel
theorem dX3_lift_39 : decode cX3_lift 39 = .ok (.athrow, 1) := by decide +kernel
theorem dX3_lift_40 : decode cX3_lift 40 = .ok (.aload_n 0, 1) := by decide +kernel
theorem dX3_lift_41 : decode cX3_lift 41 = .ok (.getfield 12, 3) := by decide +kernel
theorem dX3_lift_44 : decode cX3_lift 44 = .ok (.iload_n 1, 1) := by decide +kernel
theorem dX3_lift_45 : decode cX3_lift 45 = .ok (.invokevirtual 157, 3) := by decide +kernel
theorem dX3_lift_48 : decode cX3_lift 48 = .ok (.ifCond .ne 13, 3) := by decide +kernel
theorem dX3_lift_51 : decode cX3_lift 51 = .ok (.new 58, 3) := by decide +kernel
theorem dX3_lift_54 : decode cX3_lift 54 = .ok (.dup, 1) := by decide +kernel
theorem dX3_lift_55 : decode cX3_lift 55 = .ok (.ldc 160, 2) := by decide +kernel
theorem dX3_lift_57 : decode cX3_lift 57 = .ok (.invokespecial 62, 3) := by decide +kernel
theorem dX3_lift_60 : decode cX3_lift 60 = .ok (.athrow, 1) := by decide +kernel
theorem dX3_lift_61 : decode cX3_lift 61 = .ok (.aload_n 0, 1) := by decide +kernel
theorem dX3_lift_62 : decode cX3_lift 62 = .ok (.getfield 12, 3) := by decide +kernel
theorem dX3_lift_65 : decode cX3_lift 65 = .ok (.iload_n 1, 1) := by decide +kernel
theorem dX3_lift_66 : decode cX3_lift 66 = .ok (.iload_n 2, 1) := by decide +kernel
theorem dX3_lift_67 : decode cX3_lift 67 = .ok (.iload_n 3, 1) := by decide +kernel
theorem dX3_lift_68 : decode cX3_lift 68 = .ok (.invokevirtual 162, 3) := by decide +kernel
theorem dX3_lift_71 : decode cX3_lift 71 = .ok (.ireturn, 1) := by decide +kernel
theorem dX3_storm_0 : decode cX3_storm 0 = .ok (.iload_n 1, 1) := by decide +kernel
theorem dX3_storm_1 : decode cX3_storm 1 = .ok (.bipush 20, 2) := by decide +kernel
theorem dX3_storm_3 : decode cX3_storm 3 = .ok (.invokestatic 113, 3) := by decide +kernel
theorem dX3_storm_6 : decode cX3_storm 6 = .ok (.ifCond .ne 13, 3) := by decide +kernel
theorem dX3_storm_9 : decode cX3_storm 9 = .ok (.new 41, 3) := by decide +kernel
theorem dX3_storm_12 : decode cX3_storm 12 = .ok (.dup, 1) := by decide +kernel
theorem dX3_storm_13 : decode cX3_storm 13 = .ok (.ldc 155, 2) := by decide +kernel
theorem dX3_storm_15 : decode cX3_storm 15 = .ok (.invokespecial 45, 3) := by decide +kernel
theorem dX3_storm_18 : decode cX3_storm 18 = .ok (.athrow, 1) := by decide +kernel
theorem dX3_storm_19 : decode cX3_storm 19 = .ok (.iload_n 3, 1) := by decide +kernel
theorem dX3_storm_20 : decode cX3_storm 20 = .ok (.iconst 2, 1) := by decide +kernel
theorem dX3_storm_21 : decode cX3_storm 21 = .ok (.invokestatic 113, 3) := by decide +kernel
theorem dX3_storm_24 : decode cX3_storm 24 = .ok (.ifCond .ne 13, 3) := by decide +kernel
theorem dX3_storm_27 : decode cX3_storm 27 = .ok (.new 70, 3) := by decide +kernel
theorem dX3_storm_30 : decode cX3_storm 30 = .ok (.dup, 1) := by decide +kernel
theorem dX3_storm_31 : decode cX3_storm 31 = .ok (.ldc 166, 2) := by decide +kernel
theorem dX3_storm_33 : decode cX3_storm 33 = .ok (.invokespecial 74, 3) := by decide +kernel
theorem dX3_storm_36 : decode cX3_storm 36 = .ok (.athrow, 1) := by decide +kernel
theorem dX3_storm_37 : decode cX3_storm 37 = .ok (.aload_n 0, 1) := by decide +kernel
theorem dX3_storm_38 : decode cX3_storm 38 = .ok (.getfield 16, 3) := by decide +kernel
theorem dX3_storm_41 : decode cX3_storm 41 = .ok (.aload_n 0, 1) := by decide +kernel
theorem dX3_storm_42 : decode cX3_storm 42 = .ok (.getfield 12, 3) := by decide +kernel
theorem dX3_storm_45 : decode cX3_storm 45 = .ok (.invokevirtual 168, 3) := by decide +kernel
theorem dX3_storm_48 : decode cX3_storm 48 = .ok (.aload_n 0, 1) := by decide +kernel
theorem dX3_storm_49 : decode cX3_storm 49 = .ok (.getfield 16, 3) := by decide +kernel
theorem dX3_storm_52 : decode cX3_storm 52 = .ok (.iload_n 1, 1) := by decide +kernel
theorem dX3_storm_53 : decode cX3_storm 53 = .ok (.iload_n 2, 1) := by decide +kernel
theorem dX3_storm_54 : decode cX3_storm 54 = .ok (.invokevirtual 172, 3) := by decide +kernel
theorem dX3_storm_57 : decode cX3_storm 57 = .ok (.istore 4, 2) := by decide +kernel
theorem dX3_storm_59 : decode cX3_storm 59 = .ok (.iload_n 3, 1) := by decide +kernel
theorem dX3_storm_60 : decode cX3_storm 60 = .ok (.lookupswitch 47 #[(0, 28), (1, 44)], 28) := by decide +kernel
theorem dX3_storm_88 : decode cX3_storm 88 = .ok (.aload_n 0, 1) := by decide +kernel
theorem dX3_storm_89 : decode cX3_storm 89 = .ok (.getfield 16, 3) := by decide +kernel
theorem dX3_storm_92 : decode cX3_storm 92 = .ok (.getfield 149, 3) := by decide +kernel
theorem dX3_storm_95 : decode cX3_storm 95 = .ok (.aload_n 0, 1) := by decide +kernel
theorem dX3_storm_96 : decode cX3_storm 96 = .ok (.getfield 12, 3) := by decide +kernel
theorem dX3_storm_99 : decode cX3_storm 99 = .ok (.getfield 149, 3) := by decide +kernel
theorem dX3_storm_102 : decode cX3_storm 102 = .ok (.isub, 1) := by decide +kernel
theorem dX3_storm_103 : decode cX3_storm 103 = .ok (.ireturn, 1) := by decide +kernel
theorem dX3_storm_104 : decode cX3_storm 104 = .ok (.iload 4, 2) := by decide +kernel
theorem dX3_storm_106 : decode cX3_storm 106 = .ok (.ireturn, 1) := by decide +kernel
theorem dX3_storm_107 : decode cX3_storm 107 = .ok (.aload_n 0, 1) := by decide +kernel
theorem dX3_storm_108 : decode cX3_storm 108 = .ok (.getfield 16, 3) := by decide +kernel
theorem dX3_storm_111 : decode cX3_storm 111 = .ok (.invokevirtual 146, 3) := by decide +kernel
theorem dX3_storm_114 : decode cX3_storm 114 = .ok (.ireturn, 1) := by decide +kernel
theorem dX3_bears_0 : decode cX3_bears 0 = .ok (.iconst 1, 1) := by decide +kernel
theorem dX3_bears_1 : decode cX3_bears 1 = .ok (.istore_n 2, 1) := by decide +kernel
theorem dX3_bears_2 : decode cX3_bears 2 = .ok (.iload_n 2, 1) := by decide +kernel
theorem dX3_bears_3 : decode cX3_bears 3 = .ok (.bipush 20, 2) := by decide +kernel
theorem dX3_bears_5 : decode cX3_bears 5 = .ok (.if_icmp .gt 25, 3) := by decide +kernel
theorem dX3_bears_8 : decode cX3_bears 8 = .ok (.aload_n 0, 1) := by decide +kernel
theorem dX3_bears_9 : decode cX3_bears 9 = .ok (.getfield 12, 3) := by decide +kernel
theorem dX3_bears_12 : decode cX3_bears 12 = .ok (.iload_n 2, 1) := by decide +kernel
theorem dX3_bears_13 : decode cX3_bears 13 = .ok (.iload_n 1, 1) := by decide +kernel
theorem dX3_bears_14 : decode cX3_bears 14 = .ok (.invokevirtual 176, 3) := by decide +kernel
theorem dX3_bears_17 : decode cX3_bears 17 = .ok (.ifCond .le 7, 3) := by decide +kernel
theorem dX3_bears_20 : decode cX3_bears 20 = .ok (.iload_n 2, 1) := by decide +kernel
theorem dX3_bears_21 : decode cX3_bears 21 = .ok (.iconst 1, 1) := by decide +kernel
theorem dX3_bears_22 : decode cX3_bears 22 = .ok (.isub, 1) := by decide +kernel
theorem dX3_bears_23 : decode cX3_bears 23 = .ok (.ireturn, 1) := by decide +kernel
theorem dX3_bears_24 : decode cX3_bears 24 = .ok (.iinc 2 1, 3) := by decide +kernel
theorem dX3_bears_27 : decode cX3_bears 27 = .ok (.goto (-25), 3) := by decide +kernel
theorem dX3_bears_30 : decode cX3_bears 30 = .ok (.bipush 20, 2) := by decide +kernel
theorem dX3_bears_32 : decode cX3_bears 32 = .ok (.ireturn, 1) := by decide +kernel
theorem dX3_comes_0 : decode cX3_comes 0 = .ok (.iload_n 1, 1) := by decide +kernel
theorem dX3_comes_1 : decode cX3_comes 1 = .ok (.bipush 9, 2) := by decide +kernel
theorem dX3_comes_3 : decode cX3_comes 3 = .ok (.invokestatic 113, 3) := by decide +kernel
theorem dX3_comes_6 : decode cX3_comes 6 = .ok (.ifCond .ne 13, 3) := by decide +kernel
theorem dX3_comes_9 : decode cX3_comes 9 = .ok (.new 41, 3) := by decide +kernel
theorem dX3_comes_12 : decode cX3_comes 12 = .ok (.dup, 1) := by decide +kernel
theorem dX3_comes_13 : decode cX3_comes 13 = .ok (.ldc 179, 2) := by decide +kernel
theorem dX3_comes_15 : decode cX3_comes 15 = .ok (.invokespecial 45, 3) := by decide +kernel
theorem dX3_comes_18 : decode cX3_comes 18 = .ok (.athrow, 1) := by decide +kernel
theorem dX3_comes_19 : decode cX3_comes 19 = .ok (.iload_n 2, 1) := by decide +kernel
theorem dX3_comes_20 : decode cX3_comes 20 = .ok (.iload_n 3, 1) := by decide +kernel
theorem dX3_comes_21 : decode cX3_comes 21 = .ok (.invokestatic 94, 3) := by decide +kernel
theorem dX3_comes_24 : decode cX3_comes 24 = .ok (.ifCond .ne 13, 3) := by decide +kernel
theorem dX3_comes_27 : decode cX3_comes 27 = .ok (.new 70, 3) := by decide +kernel
theorem dX3_comes_30 : decode cX3_comes 30 = .ok (.dup, 1) := by decide +kernel
theorem dX3_comes_31 : decode cX3_comes 31 = .ok (.ldc 98, 2) := by decide +kernel
theorem dX3_comes_33 : decode cX3_comes 33 = .ok (.invokespecial 74, 3) := by decide +kernel
theorem dX3_comes_36 : decode cX3_comes 36 = .ok (.athrow, 1) := by decide +kernel
theorem dX3_comes_37 : decode cX3_comes 37 = .ok (.aload_n 0, 1) := by decide +kernel
theorem dX3_comes_38 : decode cX3_comes 38 = .ok (.getfield 22, 3) := by decide +kernel
theorem dX3_comes_41 : decode cX3_comes 41 = .ok (.aload_n 0, 1) := by decide +kernel
theorem dX3_comes_42 : decode cX3_comes 42 = .ok (.getfield 12, 3) := by decide +kernel
theorem dX3_comes_45 : decode cX3_comes 45 = .ok (.invokevirtual 181, 3) := by decide +kernel
theorem dX3_comes_48 : decode cX3_comes 48 = .ok (.aload_n 0, 1) := by decide +kernel
theorem dX3_comes_49 : decode cX3_comes 49 = .ok (.getfield 22, 3) := by decide +kernel
theorem dX3_comes_52 : decode cX3_comes 52 = .ok (.iload_n 1, 1) := by decide +kernel
theorem dX3_comes_53 : decode cX3_comes 53 = .ok (.iload_n 2, 1) := by decide +kernel
theorem dX3_comes_54 : decode cX3_comes 54 = .ok (.iload_n 3, 1) := by decide +kernel
theorem dX3_comes_55 : decode cX3_comes 55 = .ok (.invokevirtual 184, 3) := by decide +kernel
theorem dX3_comes_58 : decode cX3_comes 58 = .ok (.ireturn, 1) := by decide +kernel
theorem dX3_leaks_0 : decode cX3_leaks 0 = .ok (.iload_n 1, 1) := by decide +kernel
theorem dX3_leaks_1 : decode cX3_leaks 1 = .ok (.bipush 9, 2) := by decide +kernel
theorem dX3_leaks_3 : decode cX3_leaks 3 = .ok (.invokestatic 113, 3) := by decide +kernel
theorem dX3_leaks_6 : decode cX3_leaks 6 = .ok (.ifCond .ne 13, 3) := by decide +kernel
theorem dX3_leaks_9 : decode cX3_leaks 9 = .ok (.new 41, 3) := by decide +kernel
theorem dX3_leaks_12 : decode cX3_leaks 12 = .ok (.dup, 1) := by decide +kernel
theorem dX3_leaks_13 : decode cX3_leaks 13 = .ok (.ldc 179, 2) := by decide +kernel
theorem dX3_leaks_15 : decode cX3_leaks 15 = .ok (.invokespecial 45, 3) := by decide +kernel
theorem dX3_leaks_18 : decode cX3_leaks 18 = .ok (.athrow, 1) := by decide +kernel
theorem dX3_leaks_19 : decode cX3_leaks 19 = .ok (.aload_n 0, 1) := by decide +kernel
theorem dX3_leaks_20 : decode cX3_leaks 20 = .ok (.getfield 22, 3) := by decide +kernel
theorem dX3_leaks_23 : decode cX3_leaks 23 = .ok (.aload_n 0, 1) := by decide +kernel
theorem dX3_leaks_24 : decode cX3_leaks 24 = .ok (.getfield 12, 3) := by decide +kernel
theorem dX3_leaks_27 : decode cX3_leaks 27 = .ok (.invokevirtual 181, 3) := by decide +kernel
theorem dX3_leaks_30 : decode cX3_leaks 30 = .ok (.aload_n 0, 1) := by decide +kernel
theorem dX3_leaks_31 : decode cX3_leaks 31 = .ok (.getfield 22, 3) := by decide +kernel
theorem dX3_leaks_34 : decode cX3_leaks 34 = .ok (.iload_n 1, 1) := by decide +kernel
theorem dX3_leaks_35 : decode cX3_leaks 35 = .ok (.invokevirtual 188, 3) := by decide +kernel
theorem dX3_leaks_38 : decode cX3_leaks 38 = .ok (.ireturn, 1) := by decide +kernel
theorem dX3_needs_0 : decode cX3_needs 0 = .ok (.iload_n 1, 1) := by decide +kernel
theorem dX3_needs_1 : decode cX3_needs 1 = .ok (.iload_n 2, 1) := by decide +kernel
theorem dX3_needs_2 : decode cX3_needs 2 = .ok (.iload_n 3, 1) := by decide +kernel
theorem dX3_needs_3 : decode cX3_needs 3 = .ok (.invokestatic 33, 3) := by decide +kernel
theorem dX3_needs_6 : decode cX3_needs 6 = .ok (.ifCond .ne 13, 3) := by decide +kernel
theorem dX3_needs_9 : decode cX3_needs 9 = .ok (.new 41, 3) := by decide +kernel
theorem dX3_needs_12 : decode cX3_needs 12 = .ok (.dup, 1) := by decide +kernel
theorem dX3_needs_13 : decode cX3_needs 13 = .ok (.ldc 191, 2) := by decide +kernel
theorem dX3_needs_15 : decode cX3_needs 15 = .ok (.invokespecial 45, 3) := by decide +kernel
theorem dX3_needs_18 : decode cX3_needs 18 = .ok (.athrow, 1) := by decide +kernel
theorem dX3_needs_19 : decode cX3_needs 19 = .ok (.aload_n 0, 1) := by decide +kernel
theorem dX3_needs_20 : decode cX3_needs 20 = .ok (.getfield 12, 3) := by decide +kernel
theorem dX3_needs_23 : decode cX3_needs 23 = .ok (.iload_n 1, 1) := by decide +kernel
theorem dX3_needs_24 : decode cX3_needs 24 = .ok (.iload_n 2, 1) := by decide +kernel
theorem dX3_needs_25 : decode cX3_needs 25 = .ok (.iload_n 3, 1) := by decide +kernel
theorem dX3_needs_26 : decode cX3_needs 26 = .ok (.invokevirtual 193, 3) := by decide +kernel
theorem dX3_needs_29 : decode cX3_needs 29 = .ok (.ireturn, 1) := by decide +kernel
theorem dX3_best_0 : decode cX3_best 0 = .ok (.aload_n 0, 1) := by decide +kernel
theorem dX3_best_1 : decode cX3_best 1 = .ok (.getfield 22, 3) := by decide +kernel
theorem dX3_best_4 : decode cX3_best 4 = .ok (.aload_n 0, 1) := by decide +kernel
theorem dX3_best_5 : decode cX3_best 5 = .ok (.getfield 12, 3) := by decide +kernel
theorem dX3_best_8 : decode cX3_best 8 = .ok (.invokevirtual 181, 3) := by decide +kernel
theorem dX3_best_11 : decode cX3_best 11 = .ok (.aload_n 0, 1) := by decide +kernel
theorem dX3_best_12 : decode cX3_best 12 = .ok (.getfield 22, 3) := by decide +kernel
theorem dX3_best_15 : decode cX3_best 15 = .ok (.bipush 9, 2) := by decide +kernel
theorem dX3_best_17 : decode cX3_best 17 = .ok (.invokevirtual 188, 3) := by decide +kernel
theorem dX3_best_20 : decode cX3_best 20 = .ok (.istore_n 1, 1) := by decide +kernel
theorem dX3_best_21 : decode cX3_best 21 = .ok (.iconst (-1), 1) := by decide +kernel
theorem dX3_best_22 : decode cX3_best 22 = .ok (.istore_n 2, 1) := by decide +kernel
theorem dX3_best_23 : decode cX3_best 23 = .ok (.iconst 0, 1) := by decide +kernel
theorem dX3_best_24 : decode cX3_best 24 = .ok (.istore_n 3, 1) := by decide +kernel
theorem dX3_best_25 : decode cX3_best 25 = .ok (.iload_n 3, 1) := by decide +kernel
theorem dX3_best_26 : decode cX3_best 26 = .ok (.bipush 8, 2) := by decide +kernel
theorem dX3_best_28 : decode cX3_best 28 = .ok (.if_icmp .ge 66, 3) := by decide +kernel
theorem dX3_best_31 : decode cX3_best 31 = .ok (.iconst 0, 1) := by decide +kernel
theorem dX3_best_32 : decode cX3_best 32 = .ok (.istore 4, 2) := by decide +kernel
theorem dX3_best_34 : decode cX3_best 34 = .ok (.iload 4, 2) := by decide +kernel
theorem dX3_best_36 : decode cX3_best 36 = .ok (.bipush 8, 2) := by decide +kernel
theorem dX3_best_38 : decode cX3_best 38 = .ok (.if_icmp .gt 50, 3) := by decide +kernel
theorem dX3_best_41 : decode cX3_best 41 = .ok (.aload_n 0, 1) := by decide +kernel
theorem dX3_best_42 : decode cX3_best 42 = .ok (.getfield 12, 3) := by decide +kernel
theorem dX3_best_45 : decode cX3_best 45 = .ok (.iload_n 3, 1) := by decide +kernel
theorem dX3_best_46 : decode cX3_best 46 = .ok (.iload 4, 2) := by decide +kernel
theorem dX3_best_48 : decode cX3_best 48 = .ok (.iconst 4, 1) := by decide +kernel
theorem dX3_best_49 : decode cX3_best 49 = .ok (.invokevirtual 55, 3) := by decide +kernel
theorem dX3_best_52 : decode cX3_best 52 = .ok (.ifCond .eq 30, 3) := by decide +kernel
theorem dX3_best_55 : decode cX3_best 55 = .ok (.aload_n 0, 1) := by decide +kernel
theorem dX3_best_56 : decode cX3_best 56 = .ok (.iload_n 3, 1) := by decide +kernel
theorem dX3_best_57 : decode cX3_best 57 = .ok (.iload 4, 2) := by decide +kernel
theorem dX3_best_59 : decode cX3_best 59 = .ok (.iconst 4, 1) := by decide +kernel
theorem dX3_best_60 : decode cX3_best 60 = .ok (.invokevirtual 196, 3) := by decide +kernel
theorem dX3_best_63 : decode cX3_best 63 = .ok (.istore 5, 2) := by decide +kernel
theorem dX3_best_65 : decode cX3_best 65 = .ok (.iload 5, 2) := by decide +kernel
theorem dX3_best_67 : decode cX3_best 67 = .ok (.iload_n 1, 1) := by decide +kernel
theorem dX3_best_68 : decode cX3_best 68 = .ok (.if_icmp .ge 14, 3) := by decide +kernel
theorem dX3_best_71 : decode cX3_best 71 = .ok (.iload 5, 2) := by decide +kernel
theorem dX3_best_73 : decode cX3_best 73 = .ok (.istore_n 1, 1) := by decide +kernel
theorem dX3_best_74 : decode cX3_best 74 = .ok (.bipush 100, 2) := by decide +kernel
theorem dX3_best_76 : decode cX3_best 76 = .ok (.iload_n 3, 1) := by decide +kernel
theorem dX3_best_77 : decode cX3_best 77 = .ok (.imul, 1) := by decide +kernel
theorem dX3_best_78 : decode cX3_best 78 = .ok (.iload 4, 2) := by decide +kernel
theorem dX3_best_80 : decode cX3_best 80 = .ok (.iadd, 1) := by decide +kernel
theorem dX3_best_81 : decode cX3_best 81 = .ok (.istore_n 2, 1) := by decide +kernel
theorem dX3_best_82 : decode cX3_best 82 = .ok (.iinc 4 1, 3) := by decide +kernel
theorem dX3_best_85 : decode cX3_best 85 = .ok (.goto (-51), 3) := by decide +kernel
theorem dX3_best_88 : decode cX3_best 88 = .ok (.iinc 3 1, 3) := by decide +kernel
theorem dX3_best_91 : decode cX3_best 91 = .ok (.goto (-66), 3) := by decide +kernel
theorem dX3_best_94 : decode cX3_best 94 = .ok (.iload_n 2, 1) := by decide +kernel
theorem dX3_best_95 : decode cX3_best 95 = .ok (.ireturn, 1) := by decide +kernel
theorem dX3_pass_0 : decode cX3_pass 0 = .ok (.iload_n 1, 1) := by decide +kernel
theorem dX3_pass_1 : decode cX3_pass 1 = .ok (.invokestatic 199, 3) := by decide +kernel
theorem dX3_pass_4 : decode cX3_pass 4 = .ok (.ifCond .ne 13, 3) := by decide +kernel
theorem dX3_pass_7 : decode cX3_pass 7 = .ok (.new 41, 3) := by decide +kernel
theorem dX3_pass_10 : decode cX3_pass 10 = .ok (.dup, 1) := by decide +kernel
theorem dX3_pass_11 : decode cX3_pass 11 = .ok (.ldc 202, 2) := by decide +kernel
theorem dX3_pass_13 : decode cX3_pass 13 = .ok (.invokespecial 45, 3) := by decide +kernel
theorem dX3_pass_16 : decode cX3_pass 16 = .ok (.athrow, 1) := by decide +kernel
theorem dX3_pass_17 : decode cX3_pass 17 = .ok (.aload_n 0, 1) := by decide +kernel
theorem dX3_pass_18 : decode cX3_pass 18 = .ok (.getfield 12, 3) := by decide +kernel
theorem dX3_pass_21 : decode cX3_pass 21 = .ok (.getfield 149, 3) := by decide +kernel
theorem dX3_pass_24 : decode cX3_pass 24 = .ok (.istore_n 2, 1) := by decide +kernel
theorem dX3_pass_25 : decode cX3_pass 25 = .ok (.aload_n 0, 1) := by decide +kernel
theorem dX3_pass_26 : decode cX3_pass 26 = .ok (.aload_n 0, 1) := by decide +kernel
theorem dX3_pass_27 : decode cX3_pass 27 = .ok (.getfield 12, 3) := by decide +kernel
theorem dX3_pass_30 : decode cX3_pass 30 = .ok (.iload_n 1, 1) := by decide +kernel
theorem dX3_pass_31 : decode cX3_pass 31 = .ok (.invokevirtual 204, 3) := by decide +kernel
theorem dX3_pass_34 : decode cX3_pass 34 = .ok (.aload_n 0, 1) := by decide +kernel
theorem dX3_pass_35 : decode cX3_pass 35 = .ok (.getfield 12, 3) := by decide +kernel
theorem dX3_pass_38 : decode cX3_pass 38 = .ok (.getfield 149, 3) := by decide +kernel
theorem dX3_pass_41 : decode cX3_pass 41 = .ok (.iload_n 2, 1) := by decide +kernel
theorem dX3_pass_42 : decode cX3_pass 42 = .ok (.isub, 1) := by decide +kernel
theorem dX3_pass_43 : decode cX3_pass 43 = .ok (.ireturn, 1) := by decide +kernel
theorem dX3_foresee_0 : decode cX3_foresee 0 = .ok (.iload_n 1, 1) := by decide +kernel
theorem dX3_foresee_1 : decode cX3_foresee 1 = .ok (.invokestatic 199, 3) := by decide +kernel
theorem dX3_foresee_4 : decode cX3_foresee 4 = .ok (.ifCond .ne 13, 3) := by decide +kernel
theorem dX3_foresee_7 : decode cX3_foresee 7 = .ok (.new 41, 3) := by decide +kernel
theorem dX3_foresee_10 : decode cX3_foresee 10 = .ok (.dup, 1) := by decide +kernel
theorem dX3_foresee_11 : decode cX3_foresee 11 = .ok (.ldc 202, 2) := by decide +kernel
theorem dX3_foresee_13 : decode cX3_foresee 13 = .ok (.invokespecial 45, 3) := by decide +kernel
theorem dX3_foresee_16 : decode cX3_foresee 16 = .ok (.athrow, 1) := by decide +kernel
theorem dX3_foresee_17 : decode cX3_foresee 17 = .ok (.iload_n 2, 1) := by decide +kernel
theorem dX3_foresee_18 : decode cX3_foresee 18 = .ok (.iconst 2, 1) := by decide +kernel
theorem dX3_foresee_19 : decode cX3_foresee 19 = .ok (.invokestatic 113, 3) := by decide +kernel
theorem dX3_foresee_22 : decode cX3_foresee 22 = .ok (.ifCond .ne 13, 3) := by decide +kernel
theorem dX3_foresee_25 : decode cX3_foresee 25 = .ok (.new 70, 3) := by decide +kernel
theorem dX3_foresee_28 : decode cX3_foresee 28 = .ok (.dup, 1) := by decide +kernel
theorem dX3_foresee_29 : decode cX3_foresee 29 = .ok (.ldc 208, 2) := by decide +kernel
theorem dX3_foresee_31 : decode cX3_foresee 31 = .ok (.invokespecial 74, 3) := by decide +kernel
theorem dX3_foresee_34 : decode cX3_foresee 34 = .ok (.athrow, 1) := by decide +kernel
theorem dX3_foresee_35 : decode cX3_foresee 35 = .ok (.aload_n 0, 1) := by decide +kernel
theorem dX3_foresee_36 : decode cX3_foresee 36 = .ok (.getfield 16, 3) := by decide +kernel
theorem dX3_foresee_39 : decode cX3_foresee 39 = .ok (.aload_n 0, 1) := by decide +kernel
theorem dX3_foresee_40 : decode cX3_foresee 40 = .ok (.getfield 12, 3) := by decide +kernel
theorem dX3_foresee_43 : decode cX3_foresee 43 = .ok (.invokevirtual 168, 3) := by decide +kernel
theorem dX3_foresee_46 : decode cX3_foresee 46 = .ok (.aload_n 0, 1) := by decide +kernel
theorem dX3_foresee_47 : decode cX3_foresee 47 = .ok (.aload_n 0, 1) := by decide +kernel
theorem dX3_foresee_48 : decode cX3_foresee 48 = .ok (.getfield 16, 3) := by decide +kernel
theorem dX3_foresee_51 : decode cX3_foresee 51 = .ok (.iload_n 1, 1) := by decide +kernel
theorem dX3_foresee_52 : decode cX3_foresee 52 = .ok (.invokevirtual 204, 3) := by decide +kernel
theorem dX3_foresee_55 : decode cX3_foresee 55 = .ok (.iload_n 2, 1) := by decide +kernel
theorem dX3_foresee_56 : decode cX3_foresee 56 = .ok (.lookupswitch 44 #[(0, 28), (1, 36)], 28) := by decide +kernel
theorem dX3_foresee_84 : decode cX3_foresee 84 = .ok (.aload_n 0, 1) := by decide +kernel
theorem dX3_foresee_85 : decode cX3_foresee 85 = .ok (.getfield 16, 3) := by decide +kernel
theorem dX3_foresee_88 : decode cX3_foresee 88 = .ok (.getfield 48, 3) := by decide +kernel
theorem dX3_foresee_91 : decode cX3_foresee 91 = .ok (.ireturn, 1) := by decide +kernel
theorem dX3_foresee_92 : decode cX3_foresee 92 = .ok (.aload_n 0, 1) := by decide +kernel
theorem dX3_foresee_93 : decode cX3_foresee 93 = .ok (.getfield 16, 3) := by decide +kernel
theorem dX3_foresee_96 : decode cX3_foresee 96 = .ok (.invokevirtual 142, 3) := by decide +kernel
theorem dX3_foresee_99 : decode cX3_foresee 99 = .ok (.ireturn, 1) := by decide +kernel
theorem dX3_foresee_100 : decode cX3_foresee 100 = .ok (.aload_n 0, 1) := by decide +kernel
theorem dX3_foresee_101 : decode cX3_foresee 101 = .ok (.getfield 16, 3) := by decide +kernel
theorem dX3_foresee_104 : decode cX3_foresee 104 = .ok (.invokevirtual 152, 3) := by decide +kernel
theorem dX3_foresee_107 : decode cX3_foresee 107 = .ok (.ireturn, 1) := by decide +kernel
theorem dX3_share_0 : decode cX3_share 0 = .ok (.aload_n 0, 1) := by decide +kernel
theorem dX3_share_1 : decode cX3_share 1 = .ok (.getfield 12, 3) := by decide +kernel
theorem dX3_share_4 : decode cX3_share 4 = .ok (.invokevirtual 146, 3) := by decide +kernel
theorem dX3_share_7 : decode cX3_share 7 = .ok (.i2d, 1) := by decide +kernel
theorem dX3_share_8 : decode cX3_share 8 = .ok (.ldc2_w 210, 3) := by decide +kernel
theorem dX3_share_11 : decode cX3_share 11 = .ok (.ddiv, 1) := by decide +kernel
theorem dX3_share_12 : decode cX3_share 12 = .ok (.dreturn, 1) := by decide +kernel
theorem dX3_digest_0 : decode cX3_digest 0 = .ok (.ldc2_w 212, 3) := by decide +kernel
theorem dX3_digest_3 : decode cX3_digest 3 = .ok (.lstore_n 1, 1) := by decide +kernel
theorem dX3_digest_4 : decode cX3_digest 4 = .ok (.iconst 0, 1) := by decide +kernel
theorem dX3_digest_5 : decode cX3_digest 5 = .ok (.istore_n 3, 1) := by decide +kernel
theorem dX3_digest_6 : decode cX3_digest 6 = .ok (.iload_n 3, 1) := by decide +kernel
theorem dX3_digest_7 : decode cX3_digest 7 = .ok (.bipush 6, 2) := by decide +kernel
theorem dX3_digest_9 : decode cX3_digest 9 = .ok (.if_icmp .gt 22, 3) := by decide +kernel
theorem dX3_digest_12 : decode cX3_digest 12 = .ok (.lload_n 1, 1) := by decide +kernel
theorem dX3_digest_13 : decode cX3_digest 13 = .ok (.ldc2_w 214, 3) := by decide +kernel
theorem dX3_digest_16 : decode cX3_digest 16 = .ok (.lmul, 1) := by decide +kernel
theorem dX3_digest_17 : decode cX3_digest 17 = .ok (.aload_n 0, 1) := by decide +kernel
theorem dX3_digest_18 : decode cX3_digest 18 = .ok (.iload_n 3, 1) := by decide +kernel
theorem dX3_digest_19 : decode cX3_digest 19 = .ok (.invokevirtual 216, 3) := by decide +kernel
theorem dX3_digest_22 : decode cX3_digest 22 = .ok (.i2l, 1) := by decide +kernel
theorem dX3_digest_23 : decode cX3_digest 23 = .ok (.ladd, 1) := by decide +kernel
theorem dX3_digest_24 : decode cX3_digest 24 = .ok (.lstore_n 1, 1) := by decide +kernel
theorem dX3_digest_25 : decode cX3_digest 25 = .ok (.iinc 3 1, 3) := by decide +kernel
theorem dX3_digest_28 : decode cX3_digest 28 = .ok (.goto (-22), 3) := by decide +kernel
theorem dX3_digest_31 : decode cX3_digest 31 = .ok (.iconst 0, 1) := by decide +kernel
theorem dX3_digest_32 : decode cX3_digest 32 = .ok (.istore_n 3, 1) := by decide +kernel
theorem dX3_digest_33 : decode cX3_digest 33 = .ok (.iload_n 3, 1) := by decide +kernel
theorem dX3_digest_34 : decode cX3_digest 34 = .ok (.aload_n 0, 1) := by decide +kernel
theorem dX3_digest_35 : decode cX3_digest 35 = .ok (.getfield 12, 3) := by decide +kernel
theorem dX3_digest_38 : decode cX3_digest 38 = .ok (.getfield 52, 3) := by decide +kernel
theorem dX3_digest_41 : decode cX3_digest 41 = .ok (.if_icmp .ge 40, 3) := by decide +kernel
theorem dX3_digest_44 : decode cX3_digest 44 = .ok (.iconst 0, 1) := by decide +kernel
theorem dX3_digest_45 : decode cX3_digest 45 = .ok (.istore 4, 2) := by decide +kernel
theorem dX3_digest_47 : decode cX3_digest 47 = .ok (.iload 4, 2) := by decide +kernel
theorem dX3_digest_49 : decode cX3_digest 49 = .ok (.bipush 7, 2) := by decide +kernel
theorem dX3_digest_51 : decode cX3_digest 51 = .ok (.if_icmp .gt 24, 3) := by decide +kernel
theorem dX3_digest_54 : decode cX3_digest 54 = .ok (.lload_n 1, 1) := by decide +kernel
theorem dX3_digest_55 : decode cX3_digest 55 = .ok (.ldc2_w 214, 3) := by decide +kernel
theorem dX3_digest_58 : decode cX3_digest 58 = .ok (.lmul, 1) := by decide +kernel
theorem dX3_digest_59 : decode cX3_digest 59 = .ok (.aload_n 0, 1) := by decide +kernel
theorem dX3_digest_60 : decode cX3_digest 60 = .ok (.iload_n 3, 1) := by decide +kernel
theorem dX3_digest_61 : decode cX3_digest 61 = .ok (.iload 4, 2) := by decide +kernel
theorem dX3_digest_63 : decode cX3_digest 63 = .ok (.invokevirtual 219, 3) := by decide +kernel
theorem dX3_digest_66 : decode cX3_digest 66 = .ok (.i2l, 1) := by decide +kernel
theorem dX3_digest_67 : decode cX3_digest 67 = .ok (.ladd, 1) := by decide +kernel
theorem dX3_digest_68 : decode cX3_digest 68 = .ok (.lstore_n 1, 1) := by decide +kernel
theorem dX3_digest_69 : decode cX3_digest 69 = .ok (.iinc 4 1, 3) := by decide +kernel
theorem dX3_digest_72 : decode cX3_digest 72 = .ok (.goto (-25), 3) := by decide +kernel
theorem dX3_digest_75 : decode cX3_digest 75 = .ok (.iinc 3 1, 3) := by decide +kernel
theorem dX3_digest_78 : decode cX3_digest 78 = .ok (.goto (-45), 3) := by decide +kernel
theorem dX3_digest_81 : decode cX3_digest 81 = .ok (.iconst 0, 1) := by decide +kernel
theorem dX3_digest_82 : decode cX3_digest 82 = .ok (.istore_n 3, 1) := by decide +kernel
theorem dX3_digest_83 : decode cX3_digest 83 = .ok (.iload_n 3, 1) := by decide +kernel
theorem dX3_digest_84 : decode cX3_digest 84 = .ok (.bipush 8, 2) := by decide +kernel
theorem dX3_digest_86 : decode cX3_digest 86 = .ok (.if_icmp .ge 57, 3) := by decide +kernel
theorem dX3_digest_89 : decode cX3_digest 89 = .ok (.iconst 0, 1) := by decide +kernel
theorem dX3_digest_90 : decode cX3_digest 90 = .ok (.istore 4, 2) := by decide +kernel
theorem dX3_digest_92 : decode cX3_digest 92 = .ok (.iload 4, 2) := by decide +kernel
theorem dX3_digest_94 : decode cX3_digest 94 = .ok (.bipush 12, 2) := by decide +kernel
theorem dX3_digest_96 : decode cX3_digest 96 = .ok (.if_icmp .ge 41, 3) := by decide +kernel
theorem dX3_digest_99 : decode cX3_digest 99 = .ok (.iconst 0, 1) := by decide +kernel
theorem dX3_digest_100 : decode cX3_digest 100 = .ok (.istore 5, 2) := by decide +kernel
theorem dX3_digest_102 : decode cX3_digest 102 = .ok (.iload 5, 2) := by decide +kernel
theorem dX3_digest_104 : decode cX3_digest 104 = .ok (.iconst 2, 1) := by decide +kernel
theorem dX3_digest_105 : decode cX3_digest 105 = .ok (.if_icmp .gt 26, 3) := by decide +kernel
theorem dX3_digest_108 : decode cX3_digest 108 = .ok (.lload_n 1, 1) := by decide +kernel
theorem dX3_digest_109 : decode cX3_digest 109 = .ok (.ldc2_w 214, 3) := by decide +kernel
theorem dX3_digest_112 : decode cX3_digest 112 = .ok (.lmul, 1) := by decide +kernel
theorem dX3_digest_113 : decode cX3_digest 113 = .ok (.aload_n 0, 1) := by decide +kernel
theorem dX3_digest_114 : decode cX3_digest 114 = .ok (.iload 4, 2) := by decide +kernel
theorem dX3_digest_116 : decode cX3_digest 116 = .ok (.iload_n 3, 1) := by decide +kernel
theorem dX3_digest_117 : decode cX3_digest 117 = .ok (.iload 5, 2) := by decide +kernel
theorem dX3_digest_119 : decode cX3_digest 119 = .ok (.invokevirtual 222, 3) := by decide +kernel
theorem dX3_digest_122 : decode cX3_digest 122 = .ok (.i2l, 1) := by decide +kernel
theorem dX3_digest_123 : decode cX3_digest 123 = .ok (.ladd, 1) := by decide +kernel
theorem dX3_digest_124 : decode cX3_digest 124 = .ok (.lstore_n 1, 1) := by decide +kernel
theorem dX3_digest_125 : decode cX3_digest 125 = .ok (.iinc 5 1, 3) := by decide +kernel
theorem dX3_digest_128 : decode cX3_digest 128 = .ok (.goto (-26), 3) := by decide +kernel
theorem dX3_digest_131 : decode cX3_digest 131 = .ok (.iinc 4 1, 3) := by decide +kernel
theorem dX3_digest_134 : decode cX3_digest 134 = .ok (.goto (-42), 3) := by decide +kernel
theorem dX3_digest_137 : decode cX3_digest 137 = .ok (.iinc 3 1, 3) := by decide +kernel
theorem dX3_digest_140 : decode cX3_digest 140 = .ok (.goto (-57), 3) := by decide +kernel
theorem dX3_digest_143 : decode cX3_digest 143 = .ok (.iconst 0, 1) := by decide +kernel
theorem dX3_digest_144 : decode cX3_digest 144 = .ok (.istore_n 3, 1) := by decide +kernel
theorem dX3_digest_145 : decode cX3_digest 145 = .ok (.iload_n 3, 1) := by decide +kernel
theorem dX3_digest_146 : decode cX3_digest 146 = .ok (.bipush 7, 2) := by decide +kernel
theorem dX3_digest_148 : decode cX3_digest 148 = .ok (.if_icmp .ge 49, 3) := by decide +kernel
theorem dX3_digest_151 : decode cX3_digest 151 = .ok (.lload_n 1, 1) := by decide +kernel
theorem dX3_digest_152 : decode cX3_digest 152 = .ok (.ldc2_w 214, 3) := by decide +kernel
theorem dX3_digest_155 : decode cX3_digest 155 = .ok (.lmul, 1) := by decide +kernel
theorem dX3_digest_156 : decode cX3_digest 156 = .ok (.aload_n 0, 1) := by decide +kernel
theorem dX3_digest_157 : decode cX3_digest 157 = .ok (.getfield 29, 3) := by decide +kernel
theorem dX3_digest_160 : decode cX3_digest 160 = .ok (.iload_n 3, 1) := by decide +kernel
theorem dX3_digest_161 : decode cX3_digest 161 = .ok (.invokevirtual 120, 3) := by decide +kernel
theorem dX3_digest_164 : decode cX3_digest 164 = .ok (.i2l, 1) := by decide +kernel
theorem dX3_digest_165 : decode cX3_digest 165 = .ok (.ladd, 1) := by decide +kernel
theorem dX3_digest_166 : decode cX3_digest 166 = .ok (.lstore_n 1, 1) := by decide +kernel
theorem dX3_digest_167 : decode cX3_digest 167 = .ok (.lload_n 1, 1) := by decide +kernel
theorem dX3_digest_168 : decode cX3_digest 168 = .ok (.ldc2_w 214, 3) := by decide +kernel
theorem dX3_digest_171 : decode cX3_digest 171 = .ok (.lmul, 1) := by decide +kernel
theorem dX3_digest_172 : decode cX3_digest 172 = .ok (.aload_n 0, 1) := by decide +kernel
theorem dX3_digest_173 : decode cX3_digest 173 = .ok (.getfield 29, 3) := by decide +kernel
theorem dX3_digest_176 : decode cX3_digest 176 = .ok (.iload_n 3, 1) := by decide +kernel
theorem dX3_digest_177 : decode cX3_digest 177 = .ok (.invokevirtual 225, 3) := by decide +kernel
theorem dX3_digest_180 : decode cX3_digest 180 = .ok (.ifCond .eq 7, 3) := by decide +kernel
theorem dX3_digest_183 : decode cX3_digest 183 = .ok (.iconst 1, 1) := by decide +kernel
theorem dX3_digest_184 : decode cX3_digest 184 = .ok (.goto 4, 3) := by decide +kernel
theorem dX3_digest_187 : decode cX3_digest 187 = .ok (.iconst 0, 1) := by decide +kernel
theorem dX3_digest_188 : decode cX3_digest 188 = .ok (.i2l, 1) := by decide +kernel
theorem dX3_digest_189 : decode cX3_digest 189 = .ok (.ladd, 1) := by decide +kernel
theorem dX3_digest_190 : decode cX3_digest 190 = .ok (.lstore_n 1, 1) := by decide +kernel
theorem dX3_digest_191 : decode cX3_digest 191 = .ok (.iinc 3 1, 3) := by decide +kernel
theorem dX3_digest_194 : decode cX3_digest 194 = .ok (.goto (-49), 3) := by decide +kernel
theorem dX3_digest_197 : decode cX3_digest 197 = .ok (.lload_n 1, 1) := by decide +kernel
theorem dX3_digest_198 : decode cX3_digest 198 = .ok (.lreturn, 1) := by decide +kernel
theorem dX3_comesInWith_0 : decode cX3_comesInWith 0 = .ok (.aload_n 0, 1) := by decide +kernel
theorem dX3_comesInWith_1 : decode cX3_comesInWith 1 = .ok (.getfield 22, 3) := by decide +kernel
theorem dX3_comesInWith_4 : decode cX3_comesInWith 4 = .ok (.aload_n 0, 1) := by decide +kernel
theorem dX3_comesInWith_5 : decode cX3_comesInWith 5 = .ok (.getfield 12, 3) := by decide +kernel
theorem dX3_comesInWith_8 : decode cX3_comesInWith 8 = .ok (.invokevirtual 181, 3) := by decide +kernel
theorem dX3_comesInWith_11 : decode cX3_comesInWith 11 = .ok (.aload_n 0, 1) := by decide +kernel
theorem dX3_comesInWith_12 : decode cX3_comesInWith 12 = .ok (.getfield 22, 3) := by decide +kernel
theorem dX3_comesInWith_15 : decode cX3_comesInWith 15 = .ok (.iload_n 1, 1) := by decide +kernel
theorem dX3_comesInWith_16 : decode cX3_comesInWith 16 = .ok (.iload_n 2, 1) := by decide +kernel
theorem dX3_comesInWith_17 : decode cX3_comesInWith 17 = .ok (.iload_n 3, 1) := by decide +kernel
theorem dX3_comesInWith_18 : decode cX3_comesInWith 18 = .ok (.invokevirtual 228, 3) := by decide +kernel
theorem dX3_comesInWith_21 : decode cX3_comesInWith 21 = .ok (.aload_n 0, 1) := by decide +kernel
theorem dX3_comesInWith_22 : decode cX3_comesInWith 22 = .ok (.getfield 22, 3) := by decide +kernel
theorem dX3_comesInWith_25 : decode cX3_comesInWith 25 = .ok (.bipush 9, 2) := by decide +kernel
theorem dX3_comesInWith_27 : decode cX3_comesInWith 27 = .ok (.invokevirtual 188, 3) := by decide +kernel
theorem dX3_comesInWith_30 : decode cX3_comesInWith 30 = .ok (.ireturn, 1) := by decide +kernel
theorem dX3_letGoBy_0 : decode cX3_letGoBy 0 = .ok (.iconst 0, 1) := by decide +kernel
theorem dX3_letGoBy_1 : decode cX3_letGoBy 1 = .ok (.istore_n 3, 1) := by decide +kernel
theorem dX3_letGoBy_2 : decode cX3_letGoBy 2 = .ok (.iload_n 3, 1) := by decide +kernel
theorem dX3_letGoBy_3 : decode cX3_letGoBy 3 = .ok (.iload_n 2, 1) := by decide +kernel
theorem dX3_letGoBy_4 : decode cX3_letGoBy 4 = .ok (.if_icmp .ge 91, 3) := by decide +kernel
theorem dX3_letGoBy_7 : decode cX3_letGoBy 7 = .ok (.aload_n 1, 1) := by decide +kernel
theorem dX3_letGoBy_8 : decode cX3_letGoBy 8 = .ok (.getfield 139, 3) := by decide +kernel
theorem dX3_letGoBy_11 : decode cX3_letGoBy 11 = .ok (.bipush 7, 2) := by decide +kernel
theorem dX3_letGoBy_13 : decode cX3_letGoBy 13 = .ok (.invokestatic 231, 3) := by decide +kernel
theorem dX3_letGoBy_16 : decode cX3_letGoBy 16 = .ok (.istore 4, 2) := by decide +kernel
theorem dX3_letGoBy_18 : decode cX3_letGoBy 18 = .ok (.aload_n 1, 1) := by decide +kernel
theorem dX3_letGoBy_19 : decode cX3_letGoBy 19 = .ok (.aload_n 0, 1) := by decide +kernel
theorem dX3_letGoBy_20 : decode cX3_letGoBy 20 = .ok (.getfield 29, 3) := by decide +kernel
theorem dX3_letGoBy_23 : decode cX3_letGoBy 23 = .ok (.iload 4, 2) := by decide +kernel
theorem dX3_letGoBy_25 : decode cX3_letGoBy 25 = .ok (.invokevirtual 236, 3) := by decide +kernel
theorem dX3_letGoBy_28 : decode cX3_letGoBy 28 = .ok (.aload_n 0, 1) := by decide +kernel
theorem dX3_letGoBy_29 : decode cX3_letGoBy 29 = .ok (.getfield 29, 3) := by decide +kernel
theorem dX3_letGoBy_32 : decode cX3_letGoBy 32 = .ok (.iload 4, 2) := by decide +kernel
theorem dX3_letGoBy_34 : decode cX3_letGoBy 34 = .ok (.invokevirtual 225, 3) := by decide +kernel
theorem dX3_letGoBy_37 : decode cX3_letGoBy 37 = .ok (.invokevirtual 172, 3) := by decide +kernel
theorem dX3_letGoBy_40 : decode cX3_letGoBy 40 = .ok (.pop, 1) := by decide +kernel
theorem dX3_letGoBy_41 : decode cX3_letGoBy 41 = .ok (.aload_n 1, 1) := by decide +kernel
theorem dX3_letGoBy_42 : decode cX3_letGoBy 42 = .ok (.aload_n 0, 1) := by decide +kernel
theorem dX3_letGoBy_43 : decode cX3_letGoBy 43 = .ok (.getfield 29, 3) := by decide +kernel
theorem dX3_letGoBy_46 : decode cX3_letGoBy 46 = .ok (.iload 4, 2) := by decide +kernel
theorem dX3_letGoBy_48 : decode cX3_letGoBy 48 = .ok (.invokevirtual 239, 3) := by decide +kernel
theorem dX3_letGoBy_51 : decode cX3_letGoBy 51 = .ok (.invokevirtual 242, 3) := by decide +kernel
theorem dX3_letGoBy_54 : decode cX3_letGoBy 54 = .ok (.aload_n 0, 1) := by decide +kernel
theorem dX3_letGoBy_55 : decode cX3_letGoBy 55 = .ok (.getfield 22, 3) := by decide +kernel
theorem dX3_letGoBy_58 : decode cX3_letGoBy 58 = .ok (.aload_n 1, 1) := by decide +kernel
theorem dX3_letGoBy_59 : decode cX3_letGoBy 59 = .ok (.invokevirtual 181, 3) := by decide +kernel
theorem dX3_letGoBy_62 : decode cX3_letGoBy 62 = .ok (.aload_n 1, 1) := by decide +kernel
theorem dX3_letGoBy_63 : decode cX3_letGoBy 63 = .ok (.aload_n 0, 1) := by decide +kernel
theorem dX3_letGoBy_64 : decode cX3_letGoBy 64 = .ok (.getfield 22, 3) := by decide +kernel
theorem dX3_letGoBy_67 : decode cX3_letGoBy 67 = .ok (.aload_n 0, 1) := by decide +kernel
theorem dX3_letGoBy_68 : decode cX3_letGoBy 68 = .ok (.getfield 29, 3) := by decide +kernel
theorem dX3_letGoBy_71 : decode cX3_letGoBy 71 = .ok (.iload 4, 2) := by decide +kernel
theorem dX3_letGoBy_73 : decode cX3_letGoBy 73 = .ok (.invokevirtual 245, 3) := by decide +kernel
theorem dX3_letGoBy_76 : decode cX3_letGoBy 76 = .ok (.invokevirtual 248, 3) := by decide +kernel
theorem dX3_letGoBy_79 : decode cX3_letGoBy 79 = .ok (.aload_n 1, 1) := by decide +kernel
theorem dX3_letGoBy_80 : decode cX3_letGoBy 80 = .ok (.dup, 1) := by decide +kernel
theorem dX3_letGoBy_81 : decode cX3_letGoBy 81 = .ok (.getfield 139, 3) := by decide +kernel
theorem dX3_letGoBy_84 : decode cX3_letGoBy 84 = .ok (.iconst 1, 1) := by decide +kernel
theorem dX3_letGoBy_85 : decode cX3_letGoBy 85 = .ok (.iadd, 1) := by decide +kernel
theorem dX3_letGoBy_86 : decode cX3_letGoBy 86 = .ok (.putfield 139, 3) := by decide +kernel
theorem dX3_letGoBy_89 : decode cX3_letGoBy 89 = .ok (.iinc 3 1, 3) := by decide +kernel
theorem dX3_letGoBy_92 : decode cX3_letGoBy 92 = .ok (.goto (-90), 3) := by decide +kernel
theorem dX3_letGoBy_95 : decode cX3_letGoBy 95 = .ok (.return_, 1) := by decide +kernel
theorem dX3_isUpTo_0 : decode cX3_isUpTo 0 = .ok (.iload_n 0, 1) := by decide +kernel
theorem dX3_isUpTo_1 : decode cX3_isUpTo 1 = .ok (.ifCond .lt 12, 3) := by decide +kernel
theorem dX3_isUpTo_4 : decode cX3_isUpTo 4 = .ok (.iload_n 0, 1) := by decide +kernel
theorem dX3_isUpTo_5 : decode cX3_isUpTo 5 = .ok (.iload_n 1, 1) := by decide +kernel
theorem dX3_isUpTo_6 : decode cX3_isUpTo 6 = .ok (.if_icmp .gt 7, 3) := by decide +kernel
theorem dX3_isUpTo_9 : decode cX3_isUpTo 9 = .ok (.iconst 1, 1) := by decide +kernel
theorem dX3_isUpTo_10 : decode cX3_isUpTo 10 = .ok (.goto 4, 3) := by decide +kernel
theorem dX3_isUpTo_13 : decode cX3_isUpTo 13 = .ok (.iconst 0, 1) := by decide +kernel
theorem dX3_isUpTo_14 : decode cX3_isUpTo 14 = .ok (.ireturn, 1) := by decide +kernel
theorem dX3_isPlace_0 : decode cX3_isPlace 0 = .ok (.iload_n 0, 1) := by decide +kernel
theorem dX3_isPlace_1 : decode cX3_isPlace 1 = .ok (.ifCond .lt 23, 3) := by decide +kernel
theorem dX3_isPlace_4 : decode cX3_isPlace 4 = .ok (.iload_n 0, 1) := by decide +kernel
theorem dX3_isPlace_5 : decode cX3_isPlace 5 = .ok (.bipush 12, 2) := by decide +kernel
theorem dX3_isPlace_7 : decode cX3_isPlace 7 = .ok (.if_icmp .ge 17, 3) := by decide +kernel
theorem dX3_isPlace_10 : decode cX3_isPlace 10 = .ok (.iload_n 1, 1) := by decide +kernel
theorem dX3_isPlace_11 : decode cX3_isPlace 11 = .ok (.ifCond .lt 13, 3) := by decide +kernel
theorem dX3_isPlace_14 : decode cX3_isPlace 14 = .ok (.iload_n 1, 1) := by decide +kernel
theorem dX3_isPlace_15 : decode cX3_isPlace 15 = .ok (.bipush 8, 2) := by decide +kernel
theorem dX3_isPlace_17 : decode cX3_isPlace 17 = .ok (.if_icmp .ge 7, 3) := by decide +kernel
theorem dX3_isPlace_20 : decode cX3_isPlace 20 = .ok (.iconst 1, 1) := by decide +kernel
theorem dX3_isPlace_21 : decode cX3_isPlace 21 = .ok (.goto 4, 3) := by decide +kernel
theorem dX3_isPlace_24 : decode cX3_isPlace 24 = .ok (.iconst 0, 1) := by decide +kernel
theorem dX3_isPlace_25 : decode cX3_isPlace 25 = .ok (.ireturn, 1) := by decide +kernel
theorem dX3_fits_0 : decode cX3_fits 0 = .ok (.iload_n 1, 1) := by decide +kernel
theorem dX3_fits_1 : decode cX3_fits 1 = .ok (.iload_n 0, 1) := by decide +kernel
theorem dX3_fits_2 : decode cX3_fits 2 = .ok (.invokestatic 94, 3) := by decide +kernel
theorem dX3_fits_5 : decode cX3_fits 5 = .ok (.ifCond .eq 25, 3) := by decide +kernel
theorem dX3_fits_8 : decode cX3_fits 8 = .ok (.iload_n 2, 1) := by decide +kernel
theorem dX3_fits_9 : decode cX3_fits 9 = .ok (.iconst 1, 1) := by decide +kernel
theorem dX3_fits_10 : decode cX3_fits 10 = .ok (.if_icmp .lt 20, 3) := by decide +kernel
theorem dX3_fits_13 : decode cX3_fits 13 = .ok (.iload_n 2, 1) := by decide +kernel
theorem dX3_fits_14 : decode cX3_fits 14 = .ok (.iconst 4, 1) := by decide +kernel
theorem dX3_fits_15 : decode cX3_fits 15 = .ok (.if_icmp .gt 15, 3) := by decide +kernel
theorem dX3_fits_18 : decode cX3_fits 18 = .ok (.iload_n 2, 1) := by decide +kernel
theorem dX3_fits_19 : decode cX3_fits 19 = .ok (.bipush 12, 2) := by decide +kernel
theorem dX3_fits_21 : decode cX3_fits 21 = .ok (.iload_n 1, 1) := by decide +kernel
theorem dX3_fits_22 : decode cX3_fits 22 = .ok (.isub, 1) := by decide +kernel
theorem dX3_fits_23 : decode cX3_fits 23 = .ok (.if_icmp .gt 7, 3) := by decide +kernel
theorem dX3_fits_26 : decode cX3_fits 26 = .ok (.iconst 1, 1) := by decide +kernel
theorem dX3_fits_27 : decode cX3_fits 27 = .ok (.goto 4, 3) := by decide +kernel
theorem dX3_fits_30 : decode cX3_fits 30 = .ok (.iconst 0, 1) := by decide +kernel
theorem dX3_fits_31 : decode cX3_fits 31 = .ok (.ireturn, 1) := by decide +kernel
theorem dX3_isNails_0 : decode cX3_isNails 0 = .ok (.iload_n 0, 1) := by decide +kernel
theorem dX3_isNails_1 : decode cX3_isNails 1 = .ok (.iconst 1, 1) := by decide +kernel
theorem dX3_isNails_2 : decode cX3_isNails 2 = .ok (.if_icmp .lt 12, 3) := by decide +kernel
theorem dX3_isNails_5 : decode cX3_isNails 5 = .ok (.iload_n 0, 1) := by decide +kernel
theorem dX3_isNails_6 : decode cX3_isNails 6 = .ok (.iconst 3, 1) := by decide +kernel
theorem dX3_isNails_7 : decode cX3_isNails 7 = .ok (.if_icmp .gt 7, 3) := by decide +kernel
theorem dX3_isNails_10 : decode cX3_isNails 10 = .ok (.iconst 1, 1) := by decide +kernel
theorem dX3_isNails_11 : decode cX3_isNails 11 = .ok (.goto 4, 3) := by decide +kernel
theorem dX3_isNails_14 : decode cX3_isNails 14 = .ok (.iconst 0, 1) := by decide +kernel
theorem dX3_isNails_15 : decode cX3_isNails 15 = .ok (.ireturn, 1) := by decide +kernel
theorem dX3_isDays_0 : decode cX3_isDays 0 = .ok (.iload_n 0, 1) := by decide +kernel
theorem dX3_isDays_1 : decode cX3_isDays 1 = .ok (.iconst 1, 1) := by decide +kernel
theorem dX3_isDays_2 : decode cX3_isDays 2 = .ok (.if_icmp .lt 13, 3) := by decide +kernel
theorem dX3_isDays_5 : decode cX3_isDays 5 = .ok (.iload_n 0, 1) := by decide +kernel
theorem dX3_isDays_6 : decode cX3_isDays 6 = .ok (.bipush 60, 2) := by decide +kernel
theorem dX3_isDays_8 : decode cX3_isDays 8 = .ok (.if_icmp .gt 7, 3) := by decide +kernel
theorem dX3_isDays_11 : decode cX3_isDays 11 = .ok (.iconst 1, 1) := by decide +kernel
theorem dX3_isDays_12 : decode cX3_isDays 12 = .ok (.goto 4, 3) := by decide +kernel
theorem dX3_isDays_15 : decode cX3_isDays 15 = .ok (.iconst 0, 1) := by decide +kernel
theorem dX3_isDays_16 : decode cX3_isDays 16 = .ok (.ireturn, 1) := by decide +kernel
theorem dX4_init_0 : decode cX4_init 0 = .ok (.aload_n 0, 1) := by decide +kernel
theorem dX4_init_1 : decode cX4_init 1 = .ok (.invokespecial 1, 3) := by decide +kernel
theorem dX4_init_4 : decode cX4_init 4 = .ok (.aload_n 0, 1) := by decide +kernel
theorem dX4_init_5 : decode cX4_init 5 = .ok (.sipush 1200, 3) := by decide +kernel
theorem dX4_init_8 : decode cX4_init 8 = .ok (.newarray .int, 2) := by decide +kernel
theorem dX4_init_10 : decode cX4_init 10 = .ok (.putfield 9, 3) := by decide +kernel
theorem dX4_init_13 : decode cX4_init 13 = .ok (.aload_n 0, 1) := by decide +kernel
theorem dX4_init_14 : decode cX4_init 14 = .ok (.bipush 96, 2) := by decide +kernel
theorem dX4_init_16 : decode cX4_init 16 = .ok (.newarray .int, 2) := by decide +kernel
theorem dX4_init_18 : decode cX4_init 18 = .ok (.putfield 13, 3) := by decide +kernel
theorem dX4_init_21 : decode cX4_init 21 = .ok (.aload_n 0, 1) := by decide +kernel
theorem dX4_init_22 : decode cX4_init 22 = .ok (.bipush 96, 2) := by decide +kernel
theorem dX4_init_24 : decode cX4_init 24 = .ok (.newarray .int, 2) := by decide +kernel
theorem dX4_init_26 : decode cX4_init 26 = .ok (.putfield 16, 3) := by decide +kernel
theorem dX4_init_29 : decode cX4_init 29 = .ok (.aload_n 0, 1) := by decide +kernel
theorem dX4_init_30 : decode cX4_init 30 = .ok (.bipush 28, 2) := by decide +kernel
theorem dX4_init_32 : decode cX4_init 32 = .ok (.newarray .int, 2) := by decide +kernel
theorem dX4_init_34 : decode cX4_init 34 = .ok (.putfield 19, 3) := by decide +kernel
theorem dX4_init_37 : decode cX4_init 37 = .ok (.aload_n 0, 1) := by decide +kernel
theorem dX4_init_38 : decode cX4_init 38 = .ok (.iconst 2, 1) := by decide +kernel
theorem dX4_init_39 : decode cX4_init 39 = .ok (.newarray .int, 2) := by decide +kernel
theorem dX4_init_41 : decode cX4_init 41 = .ok (.putfield 22, 3) := by decide +kernel
theorem dX4_init_44 : decode cX4_init 44 = .ok (.aload_n 0, 1) := by decide +kernel
theorem dX4_init_45 : decode cX4_init 45 = .ok (.sipush 200, 3) := by decide +kernel
theorem dX4_init_48 : decode cX4_init 48 = .ok (.newarray .boolean, 2) := by decide +kernel
theorem dX4_init_50 : decode cX4_init 50 = .ok (.putfield 25, 3) := by decide +kernel
theorem dX4_init_53 : decode cX4_init 53 = .ok (.iconst 0, 1) := by decide +kernel
theorem dX4_init_54 : decode cX4_init 54 = .ok (.istore_n 1, 1) := by decide +kernel
theorem dX4_init_55 : decode cX4_init 55 = .ok (.iload_n 1, 1) := by decide +kernel
theorem dX4_init_56 : decode cX4_init 56 = .ok (.bipush 96, 2) := by decide +kernel
theorem dX4_init_58 : decode cX4_init 58 = .ok (.if_icmp .ge 16, 3) := by decide +kernel
theorem dX4_init_61 : decode cX4_init 61 = .ok (.aload_n 0, 1) := by decide +kernel
theorem dX4_init_62 : decode cX4_init 62 = .ok (.getfield 13, 3) := by decide +kernel
theorem dX4_init_65 : decode cX4_init 65 = .ok (.iload_n 1, 1) := by decide +kernel
theorem dX4_init_66 : decode cX4_init 66 = .ok (.iconst (-1), 1) := by decide +kernel
theorem dX4_init_67 : decode cX4_init 67 = .ok (.iastore, 1) := by decide +kernel
theorem dX4_init_68 : decode cX4_init 68 = .ok (.iinc 1 1, 3) := by decide +kernel
theorem dX4_init_71 : decode cX4_init 71 = .ok (.goto (-16), 3) := by decide +kernel
theorem dX4_init_74 : decode cX4_init 74 = .ok (.return_, 1) := by decide +kernel
theorem dX4_thrown_0 : decode cX4_thrown 0 = .ok (.aload_n 0, 1) := by decide +kernel
theorem dX4_thrown_1 : decode cX4_thrown 1 = .ok (.getfield 29, 3) := by decide +kernel
theorem dX4_thrown_4 : decode cX4_thrown 4 = .ok (.ireturn, 1) := by decide +kernel
theorem dX4_fail_0 : decode cX4_fail 0 = .ok (.aload_n 0, 1) := by decide +kernel
theorem dX4_fail_1 : decode cX4_fail 1 = .ok (.iload_n 1, 1) := by decide +kernel
theorem dX4_fail_2 : decode cX4_fail 2 = .ok (.putfield 29, 3) := by decide +kernel
theorem dX4_fail_5 : decode cX4_fail 5 = .ok (.iconst 0, 1) := by decide +kernel
theorem dX4_fail_6 : decode cX4_fail 6 = .ok (.ireturn, 1) := by decide +kernel
theorem dX4_isIn_0 : decode cX4_isIn 0 = .ok (.iload_n 0, 1) := by decide +kernel
theorem dX4_isIn_1 : decode cX4_isIn 1 = .ok (.iload_n 1, 1) := by decide +kernel
theorem dX4_isIn_2 : decode cX4_isIn 2 = .ok (.if_icmp .lt 12, 3) := by decide +kernel
theorem dX4_isIn_5 : decode cX4_isIn 5 = .ok (.iload_n 0, 1) := by decide +kernel
theorem dX4_isIn_6 : decode cX4_isIn 6 = .ok (.iload_n 2, 1) := by decide +kernel
theorem dX4_isIn_7 : decode cX4_isIn 7 = .ok (.if_icmp .gt 7, 3) := by decide +kernel
theorem dX4_isIn_10 : decode cX4_isIn 10 = .ok (.iconst 1, 1) := by decide +kernel
theorem dX4_isIn_11 : decode cX4_isIn 11 = .ok (.goto 4, 3) := by decide +kernel
theorem dX4_isIn_14 : decode cX4_isIn 14 = .ok (.iconst 0, 1) := by decide +kernel
theorem dX4_isIn_15 : decode cX4_isIn 15 = .ok (.ireturn, 1) := by decide +kernel
theorem dX4_isSlate_0 : decode cX4_isSlate 0 = .ok (.iload_n 1, 1) := by decide +kernel
theorem dX4_isSlate_1 : decode cX4_isSlate 1 = .ok (.iconst 0, 1) := by decide +kernel
theorem dX4_isSlate_2 : decode cX4_isSlate 2 = .ok (.aload_n 0, 1) := by decide +kernel
theorem dX4_isSlate_3 : decode cX4_isSlate 3 = .ok (.getfield 33, 3) := by decide +kernel
theorem dX4_isSlate_6 : decode cX4_isSlate 6 = .ok (.iconst 1, 1) := by decide +kernel
theorem dX4_isSlate_7 : decode cX4_isSlate 7 = .ok (.isub, 1) := by decide +kernel
theorem dX4_isSlate_8 : decode cX4_isSlate 8 = .ok (.invokestatic 36, 3) := by decide +kernel
theorem dX4_isSlate_11 : decode cX4_isSlate 11 = .ok (.ireturn, 1) := by decide +kernel
theorem dX4_isPlace_0 : decode cX4_isPlace 0 = .ok (.iload_n 0, 1) := by decide +kernel
theorem dX4_isPlace_1 : decode cX4_isPlace 1 = .ok (.iconst 0, 1) := by decide +kernel
theorem dX4_isPlace_2 : decode cX4_isPlace 2 = .ok (.bipush 11, 2) := by decide +kernel
theorem dX4_isPlace_4 : decode cX4_isPlace 4 = .ok (.invokestatic 36, 3) := by decide +kernel
theorem dX4_isPlace_7 : decode cX4_isPlace 7 = .ok (.ifCond .eq 17, 3) := by decide +kernel
theorem dX4_isPlace_10 : decode cX4_isPlace 10 = .ok (.iload_n 1, 1) := by decide +kernel
theorem dX4_isPlace_11 : decode cX4_isPlace 11 = .ok (.iconst 0, 1) := by decide +kernel
theorem dX4_isPlace_12 : decode cX4_isPlace 12 = .ok (.bipush 7, 2) := by decide +kernel
theorem dX4_isPlace_14 : decode cX4_isPlace 14 = .ok (.invokestatic 36, 3) := by decide +kernel
theorem dX4_isPlace_17 : decode cX4_isPlace 17 = .ok (.ifCond .eq 7, 3) := by decide +kernel
theorem dX4_isPlace_20 : decode cX4_isPlace 20 = .ok (.iconst 1, 1) := by decide +kernel
theorem dX4_isPlace_21 : decode cX4_isPlace 21 = .ok (.goto 4, 3) := by decide +kernel
theorem dX4_isPlace_24 : decode cX4_isPlace 24 = .ok (.iconst 0, 1) := by decide +kernel
theorem dX4_isPlace_25 : decode cX4_isPlace 25 = .ok (.ireturn, 1) := by decide +kernel
theorem dX4_isSpan_0 : decode cX4_isSpan 0 = .ok (.iload_n 0, 1) := by decide +kernel
theorem dX4_isSpan_1 : decode cX4_isSpan 1 = .ok (.iconst 0, 1) := by decide +kernel
theorem dX4_isSpan_2 : decode cX4_isSpan 2 = .ok (.bipush 7, 2) := by decide +kernel
theorem dX4_isSpan_4 : decode cX4_isSpan 4 = .ok (.invokestatic 36, 3) := by decide +kernel
theorem dX4_isSpan_7 : decode cX4_isSpan 7 = .ok (.ifCond .eq 34, 3) := by decide +kernel
theorem dX4_isSpan_10 : decode cX4_isSpan 10 = .ok (.iload_n 1, 1) := by decide +kernel
theorem dX4_isSpan_11 : decode cX4_isSpan 11 = .ok (.iconst 0, 1) := by decide +kernel
theorem dX4_isSpan_12 : decode cX4_isSpan 12 = .ok (.bipush 11, 2) := by decide +kernel
theorem dX4_isSpan_14 : decode cX4_isSpan 14 = .ok (.invokestatic 36, 3) := by decide +kernel
theorem dX4_isSpan_17 : decode cX4_isSpan 17 = .ok (.ifCond .eq 24, 3) := by decide +kernel
theorem dX4_isSpan_20 : decode cX4_isSpan 20 = .ok (.iload_n 2, 1) := by decide +kernel
theorem dX4_isSpan_21 : decode cX4_isSpan 21 = .ok (.iconst 1, 1) := by decide +kernel
theorem dX4_isSpan_22 : decode cX4_isSpan 22 = .ok (.iconst 4, 1) := by decide +kernel
theorem dX4_isSpan_23 : decode cX4_isSpan 23 = .ok (.invokestatic 36, 3) := by decide +kernel
theorem dX4_isSpan_26 : decode cX4_isSpan 26 = .ok (.ifCond .eq 15, 3) := by decide +kernel
theorem dX4_isSpan_29 : decode cX4_isSpan 29 = .ok (.iload_n 1, 1) := by decide +kernel
theorem dX4_isSpan_30 : decode cX4_isSpan 30 = .ok (.iload_n 2, 1) := by decide +kernel
theorem dX4_isSpan_31 : decode cX4_isSpan 31 = .ok (.iadd, 1) := by decide +kernel
theorem dX4_isSpan_32 : decode cX4_isSpan 32 = .ok (.bipush 12, 2) := by decide +kernel
theorem dX4_isSpan_34 : decode cX4_isSpan 34 = .ok (.if_icmp .gt 7, 3) := by decide +kernel
theorem dX4_isSpan_37 : decode cX4_isSpan 37 = .ok (.iconst 1, 1) := by decide +kernel
theorem dX4_isSpan_38 : decode cX4_isSpan 38 = .ok (.goto 4, 3) := by decide +kernel
theorem dX4_isSpan_41 : decode cX4_isSpan 41 = .ok (.iconst 0, 1) := by decide +kernel
theorem dX4_isSpan_42 : decode cX4_isSpan 42 = .ok (.ireturn, 1) := by decide +kernel
theorem dX4_st_0 : decode cX4_st 0 = .ok (.aload_n 0, 1) := by decide +kernel
theorem dX4_st_1 : decode cX4_st 1 = .ok (.getfield 9, 3) := by decide +kernel
theorem dX4_st_4 : decode cX4_st 4 = .ok (.bipush 6, 2) := by decide +kernel
theorem dX4_st_6 : decode cX4_st 6 = .ok (.iload_n 1, 1) := by decide +kernel
theorem dX4_st_7 : decode cX4_st 7 = .ok (.imul, 1) := by decide +kernel
theorem dX4_st_8 : decode cX4_st 8 = .ok (.iload_n 2, 1) := by decide +kernel
theorem dX4_st_9 : decode cX4_st 9 = .ok (.iadd, 1) := by decide +kernel
theorem dX4_st_10 : decode cX4_st 10 = .ok (.iaload, 1) := by decide +kernel
theorem dX4_st_11 : decode cX4_st 11 = .ok (.ireturn, 1) := by decide +kernel
theorem dX4_put_0 : decode cX4_put 0 = .ok (.aload_n 0, 1) := by decide +kernel
theorem dX4_put_1 : decode cX4_put 1 = .ok (.getfield 9, 3) := by decide +kernel
theorem dX4_put_4 : decode cX4_put 4 = .ok (.bipush 6, 2) := by decide +kernel
theorem dX4_put_6 : decode cX4_put 6 = .ok (.iload_n 1, 1) := by decide +kernel
theorem dX4_put_7 : decode cX4_put 7 = .ok (.imul, 1) := by decide +kernel
theorem dX4_put_8 : decode cX4_put 8 = .ok (.iload_n 2, 1) := by decide +kernel
theorem dX4_put_9 : decode cX4_put 9 = .ok (.iadd, 1) := by decide +kernel
theorem dX4_put_10 : decode cX4_put 10 = .ok (.iload_n 3, 1) := by decide +kernel
theorem dX4_put_11 : decode cX4_put 11 = .ok (.iastore, 1) := by decide +kernel
theorem dX4_put_12 : decode cX4_put 12 = .ok (.return_, 1) := by decide +kernel
theorem dX4_isOn_0 : decode cX4_isOn 0 = .ok (.aload_n 0, 1) := by decide +kernel
theorem dX4_isOn_1 : decode cX4_isOn 1 = .ok (.iload_n 1, 1) := by decide +kernel
theorem dX4_isOn_2 : decode cX4_isOn 2 = .ok (.iconst 5, 1) := by decide +kernel
theorem dX4_isOn_3 : decode cX4_isOn 3 = .ok (.invokevirtual 40, 3) := by decide +kernel
theorem dX4_isOn_6 : decode cX4_isOn 6 = .ok (.iconst 1, 1) := by decide +kernel
theorem dX4_isOn_7 : decode cX4_isOn 7 = .ok (.if_icmp .ne 7, 3) := by decide +kernel
theorem dX4_isOn_10 : decode cX4_isOn 10 = .ok (.iconst 1, 1) := by decide +kernel
theorem dX4_isOn_11 : decode cX4_isOn 11 = .ok (.goto 4, 3) := by decide +kernel
theorem dX4_isOn_14 : decode cX4_isOn 14 = .ok (.iconst 0, 1) := by decide +kernel
theorem dX4_isOn_15 : decode cX4_isOn 15 = .ok (.ireturn, 1) := by decide +kernel
theorem dX4_slateAt_0 : decode cX4_slateAt 0 = .ok (.iload_n 1, 1) := by decide +kernel
theorem dX4_slateAt_1 : decode cX4_slateAt 1 = .ok (.iload_n 2, 1) := by decide +kernel
theorem dX4_slateAt_2 : decode cX4_slateAt 2 = .ok (.invokestatic 44, 3) := by decide +kernel
theorem dX4_slateAt_5 : decode cX4_slateAt 5 = .ok (.ifCond .eq 17, 3) := by decide +kernel
theorem dX4_slateAt_8 : decode cX4_slateAt 8 = .ok (.aload_n 0, 1) := by decide +kernel
theorem dX4_slateAt_9 : decode cX4_slateAt 9 = .ok (.getfield 13, 3) := by decide +kernel
theorem dX4_slateAt_12 : decode cX4_slateAt 12 = .ok (.bipush 12, 2) := by decide +kernel
theorem dX4_slateAt_14 : decode cX4_slateAt 14 = .ok (.iload_n 2, 1) := by decide +kernel
theorem dX4_slateAt_15 : decode cX4_slateAt 15 = .ok (.imul, 1) := by decide +kernel
theorem dX4_slateAt_16 : decode cX4_slateAt 16 = .ok (.iload_n 1, 1) := by decide +kernel
theorem dX4_slateAt_17 : decode cX4_slateAt 17 = .ok (.iadd, 1) := by decide +kernel
theorem dX4_slateAt_18 : decode cX4_slateAt 18 = .ok (.iaload, 1) := by decide +kernel
theorem dX4_slateAt_19 : decode cX4_slateAt 19 = .ok (.goto 4, 3) := by decide +kernel
theorem dX4_slateAt_22 : decode cX4_slateAt 22 = .ok (.iconst (-1), 1) := by decide +kernel
theorem dX4_slateAt_23 : decode cX4_slateAt 23 = .ok (.ireturn, 1) := by decide +kernel
theorem dX4_slatesIn_0 : decode cX4_slatesIn 0 = .ok (.iconst 0, 1) := by decide +kernel
theorem dX4_slatesIn_1 : decode cX4_slatesIn 1 = .ok (.istore 4, 2) := by decide +kernel
theorem dX4_slatesIn_3 : decode cX4_slatesIn 3 = .ok (.iload_n 2, 1) := by decide +kernel
theorem dX4_slatesIn_4 : decode cX4_slatesIn 4 = .ok (.istore 5, 2) := by decide +kernel
theorem dX4_slatesIn_6 : decode cX4_slatesIn 6 = .ok (.iload 5, 2) := by decide +kernel
theorem dX4_slatesIn_8 : decode cX4_slatesIn 8 = .ok (.iload_n 2, 1) := by decide +kernel
theorem dX4_slatesIn_9 : decode cX4_slatesIn 9 = .ok (.iload_n 3, 1) := by decide +kernel
theorem dX4_slatesIn_10 : decode cX4_slatesIn 10 = .ok (.iadd, 1) := by decide +kernel
theorem dX4_slatesIn_11 : decode cX4_slatesIn 11 = .ok (.if_icmp .ge 54, 3) := by decide +kernel
theorem dX4_slatesIn_14 : decode cX4_slatesIn 14 = .ok (.aload_n 0, 1) := by decide +kernel
theorem dX4_slatesIn_15 : decode cX4_slatesIn 15 = .ok (.iload 5, 2) := by decide +kernel
theorem dX4_slatesIn_17 : decode cX4_slatesIn 17 = .ok (.iload_n 1, 1) := by decide +kernel
theorem dX4_slatesIn_18 : decode cX4_slatesIn 18 = .ok (.invokevirtual 48, 3) := by decide +kernel
theorem dX4_slatesIn_21 : decode cX4_slatesIn 21 = .ok (.istore 6, 2) := by decide +kernel
theorem dX4_slatesIn_23 : decode cX4_slatesIn 23 = .ok (.iload 4, 2) := by decide +kernel
theorem dX4_slatesIn_25 : decode cX4_slatesIn 25 = .ok (.iload 6, 2) := by decide +kernel
theorem dX4_slatesIn_27 : decode cX4_slatesIn 27 = .ok (.iconst (-1), 1) := by decide +kernel
theorem dX4_slatesIn_28 : decode cX4_slatesIn 28 = .ok (.if_icmp .eq 27, 3) := by decide +kernel
theorem dX4_slatesIn_31 : decode cX4_slatesIn 31 = .ok (.iload 5, 2) := by decide +kernel
theorem dX4_slatesIn_33 : decode cX4_slatesIn 33 = .ok (.iload_n 2, 1) := by decide +kernel
theorem dX4_slatesIn_34 : decode cX4_slatesIn 34 = .ok (.if_icmp .eq 17, 3) := by decide +kernel
theorem dX4_slatesIn_37 : decode cX4_slatesIn 37 = .ok (.aload_n 0, 1) := by decide +kernel
theorem dX4_slatesIn_38 : decode cX4_slatesIn 38 = .ok (.iload 5, 2) := by decide +kernel
theorem dX4_slatesIn_40 : decode cX4_slatesIn 40 = .ok (.iconst 1, 1) := by decide +kernel
theorem dX4_slatesIn_41 : decode cX4_slatesIn 41 = .ok (.isub, 1) := by decide +kernel
theorem dX4_slatesIn_42 : decode cX4_slatesIn 42 = .ok (.iload_n 1, 1) := by decide +kernel
theorem dX4_slatesIn_43 : decode cX4_slatesIn 43 = .ok (.invokevirtual 48, 3) := by decide +kernel
theorem dX4_slatesIn_46 : decode cX4_slatesIn 46 = .ok (.iload 6, 2) := by decide +kernel
theorem dX4_slatesIn_48 : decode cX4_slatesIn 48 = .ok (.if_icmp .eq 7, 3) := by decide +kernel
theorem dX4_slatesIn_51 : decode cX4_slatesIn 51 = .ok (.iconst 1, 1) := by decide +kernel
theorem dX4_slatesIn_52 : decode cX4_slatesIn 52 = .ok (.goto 4, 3) := by decide +kernel
theorem dX4_slatesIn_55 : decode cX4_slatesIn 55 = .ok (.iconst 0, 1) := by decide +kernel
theorem dX4_slatesIn_56 : decode cX4_slatesIn 56 = .ok (.iadd, 1) := by decide +kernel
theorem dX4_slatesIn_57 : decode cX4_slatesIn 57 = .ok (.istore 4, 2) := by decide +kernel
theorem dX4_slatesIn_59 : decode cX4_slatesIn 59 = .ok (.iinc 5 1, 3) := by decide +kernel
theorem dX4_slatesIn_62 : decode cX4_slatesIn 62 = .ok (.goto (-56), 3) := by decide +kernel
theorem dX4_slatesIn_65 : decode cX4_slatesIn 65 = .ok (.iload 4, 2) := by decide +kernel
theorem dX4_slatesIn_67 : decode cX4_slatesIn 67 = .ok (.ireturn, 1) := by decide +kernel
theorem dX4_upon_0 : decode cX4_upon 0 = .ok (.aload_n 0, 1) := by decide +kernel
theorem dX4_upon_1 : decode cX4_upon 1 = .ok (.aload_n 0, 1) := by decide +kernel
theorem dX4_upon_2 : decode cX4_upon 2 = .ok (.iload_n 1, 1) := by decide +kernel
theorem dX4_upon_3 : decode cX4_upon 3 = .ok (.iconst 0, 1) := by decide +kernel
theorem dX4_upon_4 : decode cX4_upon 4 = .ok (.invokevirtual 40, 3) := by decide +kernel
theorem dX4_upon_7 : decode cX4_upon 7 = .ok (.iconst 1, 1) := by decide +kernel
theorem dX4_upon_8 : decode cX4_upon 8 = .ok (.iadd, 1) := by decide +kernel
theorem dX4_upon_9 : decode cX4_upon 9 = .ok (.aload_n 0, 1) := by decide +kernel
theorem dX4_upon_10 : decode cX4_upon 10 = .ok (.iload_n 1, 1) := by decide +kernel
theorem dX4_upon_11 : decode cX4_upon 11 = .ok (.iconst 1, 1) := by decide +kernel
theorem dX4_upon_12 : decode cX4_upon 12 = .ok (.invokevirtual 40, 3) := by decide +kernel
theorem dX4_upon_15 : decode cX4_upon 15 = .ok (.aload_n 0, 1) := by decide +kernel
theorem dX4_upon_16 : decode cX4_upon 16 = .ok (.iload_n 1, 1) := by decide +kernel
theorem dX4_upon_17 : decode cX4_upon 17 = .ok (.iconst 2, 1) := by decide +kernel
theorem dX4_upon_18 : decode cX4_upon 18 = .ok (.invokevirtual 40, 3) := by decide +kernel
theorem dX4_upon_21 : decode cX4_upon 21 = .ok (.invokevirtual 51, 3) := by decide +kernel
theorem dX4_upon_24 : decode cX4_upon 24 = .ok (.ireturn, 1) := by decide +kernel
theorem dX4_mark_0 : decode cX4_mark 0 = .ok (.aload_n 0, 1) := by decide +kernel
theorem dX4_mark_1 : decode cX4_mark 1 = .ok (.iload_n 1, 1) := by decide +kernel
theorem dX4_mark_2 : decode cX4_mark 2 = .ok (.iconst 1, 1) := by decide +kernel
theorem dX4_mark_3 : decode cX4_mark 3 = .ok (.invokevirtual 40, 3) := by decide +kernel
theorem dX4_mark_6 : decode cX4_mark 6 = .ok (.istore_n 3, 1) := by decide +kernel
theorem dX4_mark_7 : decode cX4_mark 7 = .ok (.iload_n 3, 1) := by decide +kernel
theorem dX4_mark_8 : decode cX4_mark 8 = .ok (.aload_n 0, 1) := by decide +kernel
theorem dX4_mark_9 : decode cX4_mark 9 = .ok (.iload_n 1, 1) := by decide +kernel
theorem dX4_mark_10 : decode cX4_mark 10 = .ok (.iconst 1, 1) := by decide +kernel
theorem dX4_mark_11 : decode cX4_mark 11 = .ok (.invokevirtual 40, 3) := by decide +kernel
theorem dX4_mark_14 : decode cX4_mark 14 = .ok (.aload_n 0, 1) := by decide +kernel
theorem dX4_mark_15 : decode cX4_mark 15 = .ok (.iload_n 1, 1) := by decide +kernel
theorem dX4_mark_16 : decode cX4_mark 16 = .ok (.iconst 2, 1) := by decide +kernel
theorem dX4_mark_17 : decode cX4_mark 17 = .ok (.invokevirtual 40, 3) := by decide +kernel
theorem dX4_mark_20 : decode cX4_mark 20 = .ok (.iadd, 1) := by decide +kernel
theorem dX4_mark_21 : decode cX4_mark 21 = .ok (.if_icmp .ge 26, 3) := by decide +kernel
theorem dX4_mark_24 : decode cX4_mark 24 = .ok (.aload_n 0, 1) := by decide +kernel
theorem dX4_mark_25 : decode cX4_mark 25 = .ok (.getfield 13, 3) := by decide +kernel
theorem dX4_mark_28 : decode cX4_mark 28 = .ok (.bipush 12, 2) := by decide +kernel
theorem dX4_mark_30 : decode cX4_mark 30 = .ok (.aload_n 0, 1) := by decide +kernel
theorem dX4_mark_31 : decode cX4_mark 31 = .ok (.iload_n 1, 1) := by decide +kernel
theorem dX4_mark_32 : decode cX4_mark 32 = .ok (.iconst 0, 1) := by decide +kernel
theorem dX4_mark_33 : decode cX4_mark 33 = .ok (.invokevirtual 40, 3) := by decide +kernel
theorem dX4_mark_36 : decode cX4_mark 36 = .ok (.imul, 1) := by decide +kernel
theorem dX4_mark_37 : decode cX4_mark 37 = .ok (.iload_n 3, 1) := by decide +kernel
theorem dX4_mark_38 : decode cX4_mark 38 = .ok (.iadd, 1) := by decide +kernel
theorem dX4_mark_39 : decode cX4_mark 39 = .ok (.iload_n 2, 1) := by decide +kernel
theorem dX4_mark_40 : decode cX4_mark 40 = .ok (.iastore, 1) := by decide +kernel
theorem dX4_mark_41 : decode cX4_mark 41 = .ok (.iinc 3 1, 3) := by decide +kernel
theorem dX4_mark_44 : decode cX4_mark 44 = .ok (.goto (-37), 3) := by decide +kernel
theorem dX4_mark_47 : decode cX4_mark 47 = .ok (.return_, 1) := by decide +kernel
theorem dX4_onRoof_0 : decode cX4_onRoof 0 = .ok (.iconst 0, 1) := by decide +kernel
theorem dX4_onRoof_1 : decode cX4_onRoof 1 = .ok (.istore_n 1, 1) := by decide +kernel
theorem dX4_onRoof_2 : decode cX4_onRoof 2 = .ok (.iconst 0, 1) := by decide +kernel
theorem dX4_onRoof_3 : decode cX4_onRoof 3 = .ok (.istore_n 2, 1) := by decide +kernel
theorem dX4_onRoof_4 : decode cX4_onRoof 4 = .ok (.iload_n 2, 1) := by decide +kernel
theorem dX4_onRoof_5 : decode cX4_onRoof 5 = .ok (.aload_n 0, 1) := by decide +kernel
theorem dX4_onRoof_6 : decode cX4_onRoof 6 = .ok (.getfield 33, 3) := by decide +kernel
theorem dX4_onRoof_9 : decode cX4_onRoof 9 = .ok (.if_icmp .ge 18, 3) := by decide +kernel
theorem dX4_onRoof_12 : decode cX4_onRoof 12 = .ok (.iload_n 1, 1) := by decide +kernel
theorem dX4_onRoof_13 : decode cX4_onRoof 13 = .ok (.aload_n 0, 1) := by decide +kernel
theorem dX4_onRoof_14 : decode cX4_onRoof 14 = .ok (.iload_n 2, 1) := by decide +kernel
theorem dX4_onRoof_15 : decode cX4_onRoof 15 = .ok (.iconst 5, 1) := by decide +kernel
theorem dX4_onRoof_16 : decode cX4_onRoof 16 = .ok (.invokevirtual 40, 3) := by decide +kernel
theorem dX4_onRoof_19 : decode cX4_onRoof 19 = .ok (.iadd, 1) := by decide +kernel
theorem dX4_onRoof_20 : decode cX4_onRoof 20 = .ok (.istore_n 1, 1) := by decide +kernel
theorem dX4_onRoof_21 : decode cX4_onRoof 21 = .ok (.iinc 2 1, 3) := by decide +kernel
theorem dX4_onRoof_24 : decode cX4_onRoof 24 = .ok (.goto (-20), 3) := by decide +kernel
theorem dX4_onRoof_27 : decode cX4_onRoof 27 = .ok (.iload_n 1, 1) := by decide +kernel
theorem dX4_onRoof_28 : decode cX4_onRoof 28 = .ok (.ireturn, 1) := by decide +kernel
theorem dX4_isFree_0 : decode cX4_isFree 0 = .ok (.aload_n 0, 1) := by decide +kernel
theorem dX4_isFree_1 : decode cX4_isFree 1 = .ok (.iload_n 1, 1) := by decide +kernel
theorem dX4_isFree_2 : decode cX4_isFree 2 = .ok (.iload_n 2, 1) := by decide +kernel
theorem dX4_isFree_3 : decode cX4_isFree 3 = .ok (.iload_n 3, 1) := by decide +kernel
theorem dX4_isFree_4 : decode cX4_isFree 4 = .ok (.invokevirtual 51, 3) := by decide +kernel
theorem dX4_isFree_7 : decode cX4_isFree 7 = .ok (.ifCond .ne 19, 3) := by decide +kernel
theorem dX4_isFree_10 : decode cX4_isFree 10 = .ok (.aload_n 0, 1) := by decide +kernel
theorem dX4_isFree_11 : decode cX4_isFree 11 = .ok (.iload_n 1, 1) := by decide +kernel
theorem dX4_isFree_12 : decode cX4_isFree 12 = .ok (.iconst 1, 1) := by decide +kernel
theorem dX4_isFree_13 : decode cX4_isFree 13 = .ok (.iadd, 1) := by decide +kernel
theorem dX4_isFree_14 : decode cX4_isFree 14 = .ok (.iload_n 2, 1) := by decide +kernel
theorem dX4_isFree_15 : decode cX4_isFree 15 = .ok (.iload_n 3, 1) := by decide +kernel
theorem dX4_isFree_16 : decode cX4_isFree 16 = .ok (.invokevirtual 51, 3) := by decide +kernel
theorem dX4_isFree_19 : decode cX4_isFree 19 = .ok (.ifCond .ne 7, 3) := by decide +kernel
theorem dX4_isFree_22 : decode cX4_isFree 22 = .ok (.iconst 1, 1) := by decide +kernel
theorem dX4_isFree_23 : decode cX4_isFree 23 = .ok (.goto 4, 3) := by decide +kernel
theorem dX4_isFree_26 : decode cX4_isFree 26 = .ok (.iconst 0, 1) := by decide +kernel
theorem dX4_isFree_27 : decode cX4_isFree 27 = .ok (.ireturn, 1) := by decide +kernel
theorem dX4_lay_0 : decode cX4_lay 0 = .ok (.aload_n 0, 1) := by decide +kernel
theorem dX4_lay_1 : decode cX4_lay 1 = .ok (.iconst 0, 1) := by decide +kernel
theorem dX4_lay_2 : decode cX4_lay 2 = .ok (.putfield 29, 3) := by decide +kernel
theorem dX4_lay_5 : decode cX4_lay 5 = .ok (.iload_n 1, 1) := by decide +kernel
theorem dX4_lay_6 : decode cX4_lay 6 = .ok (.iload_n 2, 1) := by decide +kernel
theorem dX4_lay_7 : decode cX4_lay 7 = .ok (.iload_n 3, 1) := by decide +kernel
theorem dX4_lay_8 : decode cX4_lay 8 = .ok (.invokestatic 55, 3) := by decide +kernel
theorem dX4_lay_11 : decode cX4_lay 11 = .ok (.ifCond .eq 13, 3) := by decide +kernel
theorem dX4_lay_14 : decode cX4_lay 14 = .ok (.iload 4, 2) := by decide +kernel
theorem dX4_lay_16 : decode cX4_lay 16 = .ok (.iconst 1, 1) := by decide +kernel
theorem dX4_lay_17 : decode cX4_lay 17 = .ok (.iconst 3, 1) := by decide +kernel
theorem dX4_lay_18 : decode cX4_lay 18 = .ok (.invokestatic 36, 3) := by decide +kernel
theorem dX4_lay_21 : decode cX4_lay 21 = .ok (.ifCond .ne 9, 3) := by decide +kernel
theorem dX4_lay_24 : decode cX4_lay 24 = .ok (.aload_n 0, 1) := by decide +kernel
theorem dX4_lay_25 : decode cX4_lay 25 = .ok (.iconst 1, 1) := by decide +kernel
theorem dX4_lay_26 : decode cX4_lay 26 = .ok (.invokevirtual 58, 3) := by decide +kernel
theorem dX4_lay_29 : decode cX4_lay 29 = .ok (.ireturn, 1) := by decide +kernel
theorem dX4_lay_30 : decode cX4_lay 30 = .ok (.aload_n 0, 1) := by decide +kernel
theorem dX4_lay_31 : decode cX4_lay 31 = .ok (.invokevirtual 62, 3) := by decide +kernel
theorem dX4_lay_34 : decode cX4_lay 34 = .ok (.bipush 60, 2) := by decide +kernel
theorem dX4_lay_36 : decode cX4_lay 36 = .ok (.if_icmp .eq 23, 3) := by decide +kernel
theorem dX4_lay_39 : decode cX4_lay 39 = .ok (.aload_n 0, 1) := by decide +kernel
theorem dX4_lay_40 : decode cX4_lay 40 = .ok (.getfield 33, 3) := by decide +kernel
theorem dX4_lay_43 : decode cX4_lay 43 = .ok (.sipush 200, 3) := by decide +kernel
theorem dX4_lay_46 : decode cX4_lay 46 = .ok (.if_icmp .eq 13, 3) := by decide +kernel
theorem dX4_lay_49 : decode cX4_lay 49 = .ok (.aload_n 0, 1) := by decide +kernel
theorem dX4_lay_50 : decode cX4_lay 50 = .ok (.iload_n 1, 1) := by decide +kernel
theorem dX4_lay_51 : decode cX4_lay 51 = .ok (.iload_n 2, 1) := by decide +kernel
theorem dX4_lay_52 : decode cX4_lay 52 = .ok (.iload_n 3, 1) := by decide +kernel
theorem dX4_lay_53 : decode cX4_lay 53 = .ok (.invokevirtual 66, 3) := by decide +kernel
theorem dX4_lay_56 : decode cX4_lay 56 = .ok (.ifCond .ne 9, 3) := by decide +kernel
theorem dX4_lay_59 : decode cX4_lay 59 = .ok (.aload_n 0, 1) := by decide +kernel
theorem dX4_lay_60 : decode cX4_lay 60 = .ok (.iconst 2, 1) := by decide +kernel
theorem dX4_lay_61 : decode cX4_lay 61 = .ok (.invokevirtual 58, 3) := by decide +kernel
theorem dX4_lay_64 : decode cX4_lay 64 = .ok (.ireturn, 1) := by decide +kernel
theorem dX4_lay_65 : decode cX4_lay 65 = .ok (.bipush 6, 2) := by decide +kernel
theorem dX4_lay_67 : decode cX4_lay 67 = .ok (.newarray .int, 2) := by decide +kernel
theorem dX4_lay_69 : decode cX4_lay 69 = .ok (.dup, 1) := by decide +kernel
theorem dX4_lay_70 : decode cX4_lay 70 = .ok (.iconst 0, 1) := by decide +kernel
theorem dX4_lay_71 : decode cX4_lay 71 = .ok (.iload_n 1, 1) := by decide +kernel
theorem dX4_lay_72 : decode cX4_lay 72 = .ok (.iastore, 1) := by decide +kernel
theorem dX4_lay_73 : decode cX4_lay 73 = .ok (.dup, 1) := by decide +kernel
theorem dX4_lay_74 : decode cX4_lay 74 = .ok (.iconst 1, 1) := by decide +kernel
theorem dX4_lay_75 : decode cX4_lay 75 = .ok (.iload_n 2, 1) := by decide +kernel
theorem dX4_lay_76 : decode cX4_lay 76 = .ok (.iastore, 1) := by decide +kernel
theorem dX4_lay_77 : decode cX4_lay 77 = .ok (.dup, 1) := by decide +kernel
theorem dX4_lay_78 : decode cX4_lay 78 = .ok (.iconst 2, 1) := by decide +kernel
theorem dX4_lay_79 : decode cX4_lay 79 = .ok (.iload_n 3, 1) := by decide +kernel
theorem dX4_lay_80 : decode cX4_lay 80 = .ok (.iastore, 1) := by decide +kernel
theorem dX4_lay_81 : decode cX4_lay 81 = .ok (.dup, 1) := by decide +kernel
theorem dX4_lay_82 : decode cX4_lay 82 = .ok (.iconst 3, 1) := by decide +kernel
theorem dX4_lay_83 : decode cX4_lay 83 = .ok (.iload 4, 2) := by decide +kernel
theorem dX4_lay_85 : decode cX4_lay 85 = .ok (.iastore, 1) := by decide +kernel
theorem dX4_lay_86 : decode cX4_lay 86 = .ok (.dup, 1) := by decide +kernel
theorem dX4_lay_87 : decode cX4_lay 87 = .ok (.iconst 4, 1) := by decide +kernel
theorem dX4_lay_88 : decode cX4_lay 88 = .ok (.iconst 0, 1) := by decide +kernel
theorem dX4_lay_89 : decode cX4_lay 89 = .ok (.iastore, 1) := by decide +kernel
theorem dX4_lay_90 : decode cX4_lay 90 = .ok (.dup, 1) := by decide +kernel
theorem dX4_lay_91 : decode cX4_lay 91 = .ok (.iconst 5, 1) := by decide +kernel
theorem dX4_lay_92 : decode cX4_lay 92 = .ok (.iconst 1, 1) := by decide +kernel
theorem dX4_lay_93 : decode cX4_lay 93 = .ok (.iastore, 1) := by decide +kernel
theorem dX4_lay_94 : decode cX4_lay 94 = .ok (.astore 5, 2) := by decide +kernel
theorem dX4_lay_96 : decode cX4_lay 96 = .ok (.aload 5, 2) := by decide +kernel
theorem dX4_lay_98 : decode cX4_lay 98 = .ok (.iconst 0, 1) := by decide +kernel
theorem dX4_lay_99 : decode cX4_lay 99 = .ok (.aload_n 0, 1) := by decide +kernel
theorem dX4_lay_100 : decode cX4_lay 100 = .ok (.getfield 9, 3) := by decide +kernel
theorem dX4_lay_103 : decode cX4_lay 103 = .ok (.bipush 6, 2) := by decide +kernel
theorem dX4_lay_105 : decode cX4_lay 105 = .ok (.aload_n 0, 1) := by decide +kernel
theorem dX4_lay_106 : decode cX4_lay 106 = .ok (.getfield 33, 3) := by decide +kernel
theorem dX4_lay_109 : decode cX4_lay 109 = .ok (.imul, 1) := by decide +kernel
theorem dX4_lay_110 : decode cX4_lay 110 = .ok (.bipush 6, 2) := by decide +kernel
theorem dX4_lay_112 : decode cX4_lay 112 = .ok (.invokestatic 69, 3) := by decide +kernel
theorem dX4_lay_115 : decode cX4_lay 115 = .ok (.aload_n 0, 1) := by decide +kernel
theorem dX4_lay_116 : decode cX4_lay 116 = .ok (.aload_n 0, 1) := by decide +kernel
theorem dX4_lay_117 : decode cX4_lay 117 = .ok (.getfield 33, 3) := by decide +kernel
theorem dX4_lay_120 : decode cX4_lay 120 = .ok (.aload_n 0, 1) := by decide +kernel
theorem dX4_lay_121 : decode cX4_lay 121 = .ok (.getfield 33, 3) := by decide +kernel
theorem dX4_lay_124 : decode cX4_lay 124 = .ok (.invokevirtual 75, 3) := by decide +kernel
theorem dX4_lay_127 : decode cX4_lay 127 = .ok (.aload_n 0, 1) := by decide +kernel
theorem dX4_lay_128 : decode cX4_lay 128 = .ok (.dup, 1) := by decide +kernel
theorem dX4_lay_129 : decode cX4_lay 129 = .ok (.getfield 33, 3) := by decide +kernel
theorem dX4_lay_132 : decode cX4_lay 132 = .ok (.iconst 1, 1) := by decide +kernel
theorem dX4_lay_133 : decode cX4_lay 133 = .ok (.iadd, 1) := by decide +kernel
theorem dX4_lay_134 : decode cX4_lay 134 = .ok (.putfield 33, 3) := by decide +kernel
theorem dX4_lay_137 : decode cX4_lay 137 = .ok (.aload_n 0, 1) := by decide +kernel
theorem dX4_lay_138 : decode cX4_lay 138 = .ok (.getfield 33, 3) := by decide +kernel
theorem dX4_lay_141 : decode cX4_lay 141 = .ok (.iconst 1, 1) := by decide +kernel
theorem dX4_lay_142 : decode cX4_lay 142 = .ok (.isub, 1) := by decide +kernel
theorem dX4_lay_143 : decode cX4_lay 143 = .ok (.ireturn, 1) := by decide +kernel
theorem dX4_off_0 : decode cX4_off 0 = .ok (.aload_n 0, 1) := by decide +kernel
theorem dX4_off_1 : decode cX4_off 1 = .ok (.iload_n 1, 1) := by decide +kernel
theorem dX4_off_2 : decode cX4_off 2 = .ok (.iconst (-1), 1) := by decide +kernel
theorem dX4_off_3 : decode cX4_off 3 = .ok (.invokevirtual 75, 3) := by decide +kernel
theorem dX4_off_6 : decode cX4_off 6 = .ok (.aload_n 0, 1) := by decide +kernel
theorem dX4_off_7 : decode cX4_off 7 = .ok (.iload_n 1, 1) := by decide +kernel
theorem dX4_off_8 : decode cX4_off 8 = .ok (.iconst 5, 1) := by decide +kernel
theorem dX4_off_9 : decode cX4_off 9 = .ok (.iconst 0, 1) := by decide +kernel
theorem dX4_off_10 : decode cX4_off 10 = .ok (.invokevirtual 79, 3) := by decide +kernel
theorem dX4_off_13 : decode cX4_off 13 = .ok (.return_, 1) := by decide +kernel
theorem dX4_take_0 : decode cX4_take 0 = .ok (.aload_n 0, 1) := by decide +kernel
theorem dX4_take_1 : decode cX4_take 1 = .ok (.iconst 0, 1) := by decide +kernel
theorem dX4_take_2 : decode cX4_take 2 = .ok (.putfield 29, 3) := by decide +kernel
theorem dX4_take_5 : decode cX4_take 5 = .ok (.aload_n 0, 1) := by decide +kernel
theorem dX4_take_6 : decode cX4_take 6 = .ok (.iload_n 1, 1) := by decide +kernel
theorem dX4_take_7 : decode cX4_take 7 = .ok (.invokevirtual 83, 3) := by decide +kernel
theorem dX4_take_10 : decode cX4_take 10 = .ok (.ifCond .ne 9, 3) := by decide +kernel
theorem dX4_take_13 : decode cX4_take 13 = .ok (.aload_n 0, 1) := by decide +kernel
theorem dX4_take_14 : decode cX4_take 14 = .ok (.iconst 1, 1) := by decide +kernel
theorem dX4_take_15 : decode cX4_take 15 = .ok (.invokevirtual 58, 3) := by decide +kernel
theorem dX4_take_18 : decode cX4_take 18 = .ok (.ireturn, 1) := by decide +kernel
theorem dX4_take_19 : decode cX4_take 19 = .ok (.aload_n 0, 1) := by decide +kernel
theorem dX4_take_20 : decode cX4_take 20 = .ok (.iload_n 1, 1) := by decide +kernel
theorem dX4_take_21 : decode cX4_take 21 = .ok (.invokevirtual 87, 3) := by decide +kernel
theorem dX4_take_24 : decode cX4_take 24 = .ok (.ifCond .eq 11, 3) := by decide +kernel
theorem dX4_take_27 : decode cX4_take 27 = .ok (.aload_n 0, 1) := by decide +kernel
theorem dX4_take_28 : decode cX4_take 28 = .ok (.iload_n 1, 1) := by decide +kernel
theorem dX4_take_29 : decode cX4_take 29 = .ok (.invokevirtual 90, 3) := by decide +kernel
theorem dX4_take_32 : decode cX4_take 32 = .ok (.ifCond .le 9, 3) := by decide +kernel
theorem dX4_take_35 : decode cX4_take 35 = .ok (.aload_n 0, 1) := by decide +kernel
theorem dX4_take_36 : decode cX4_take 36 = .ok (.iconst 2, 1) := by decide +kernel
theorem dX4_take_37 : decode cX4_take 37 = .ok (.invokevirtual 58, 3) := by decide +kernel
theorem dX4_take_40 : decode cX4_take 40 = .ok (.ireturn, 1) := by decide +kernel
theorem dX4_take_41 : decode cX4_take 41 = .ok (.aload_n 0, 1) := by decide +kernel
theorem dX4_take_42 : decode cX4_take 42 = .ok (.iload_n 1, 1) := by decide +kernel
theorem dX4_take_43 : decode cX4_take 43 = .ok (.invokevirtual 93, 3) := by decide +kernel
theorem dX4_take_46 : decode cX4_take 46 = .ok (.aload_n 0, 1) := by decide +kernel
theorem dX4_take_47 : decode cX4_take 47 = .ok (.iload_n 1, 1) := by decide +kernel
theorem dX4_take_48 : decode cX4_take 48 = .ok (.iconst 3, 1) := by decide +kernel
theorem dX4_take_49 : decode cX4_take 49 = .ok (.invokevirtual 40, 3) := by decide +kernel
theorem dX4_take_52 : decode cX4_take 52 = .ok (.ireturn, 1) := by decide +kernel
theorem dX4_nail_0 : decode cX4_nail 0 = .ok (.aload_n 0, 1) := by decide +kernel
theorem dX4_nail_1 : decode cX4_nail 1 = .ok (.iconst 0, 1) := by decide +kernel
theorem dX4_nail_2 : decode cX4_nail 2 = .ok (.putfield 29, 3) := by decide +kernel
theorem dX4_nail_5 : decode cX4_nail 5 = .ok (.aload_n 0, 1) := by decide +kernel
theorem dX4_nail_6 : decode cX4_nail 6 = .ok (.iload_n 1, 1) := by decide +kernel
theorem dX4_nail_7 : decode cX4_nail 7 = .ok (.invokevirtual 83, 3) := by decide +kernel
theorem dX4_nail_10 : decode cX4_nail 10 = .ok (.ifCond .ne 9, 3) := by decide +kernel
theorem dX4_nail_13 : decode cX4_nail 13 = .ok (.aload_n 0, 1) := by decide +kernel
theorem dX4_nail_14 : decode cX4_nail 14 = .ok (.iconst 1, 1) := by decide +kernel
theorem dX4_nail_15 : decode cX4_nail 15 = .ok (.invokevirtual 58, 3) := by decide +kernel
theorem dX4_nail_18 : decode cX4_nail 18 = .ok (.ireturn, 1) := by decide +kernel
theorem dX4_nail_19 : decode cX4_nail 19 = .ok (.iload_n 2, 1) := by decide +kernel
theorem dX4_nail_20 : decode cX4_nail 20 = .ok (.iconst 1, 1) := by decide +kernel
theorem dX4_nail_21 : decode cX4_nail 21 = .ok (.iconst 3, 1) := by decide +kernel
theorem dX4_nail_22 : decode cX4_nail 22 = .ok (.invokestatic 36, 3) := by decide +kernel
theorem dX4_nail_25 : decode cX4_nail 25 = .ok (.ifCond .ne 9, 3) := by decide +kernel
theorem dX4_nail_28 : decode cX4_nail 28 = .ok (.aload_n 0, 1) := by decide +kernel
theorem dX4_nail_29 : decode cX4_nail 29 = .ok (.iconst 2, 1) := by decide +kernel
theorem dX4_nail_30 : decode cX4_nail 30 = .ok (.invokevirtual 58, 3) := by decide +kernel
theorem dX4_nail_33 : decode cX4_nail 33 = .ok (.ireturn, 1) := by decide +kernel
theorem dX4_nail_34 : decode cX4_nail 34 = .ok (.aload_n 0, 1) := by decide +kernel
theorem dX4_nail_35 : decode cX4_nail 35 = .ok (.iload_n 1, 1) := by decide +kernel
theorem dX4_nail_36 : decode cX4_nail 36 = .ok (.invokevirtual 87, 3) := by decide +kernel
theorem dX4_nail_39 : decode cX4_nail 39 = .ok (.ifCond .eq 11, 3) := by decide +kernel
theorem dX4_nail_42 : decode cX4_nail 42 = .ok (.aload_n 0, 1) := by decide +kernel
theorem dX4_nail_43 : decode cX4_nail 43 = .ok (.iload_n 1, 1) := by decide +kernel
theorem dX4_nail_44 : decode cX4_nail 44 = .ok (.invokevirtual 90, 3) := by decide +kernel
theorem dX4_nail_47 : decode cX4_nail 47 = .ok (.ifCond .le 9, 3) := by decide +kernel
theorem dX4_nail_50 : decode cX4_nail 50 = .ok (.aload_n 0, 1) := by decide +kernel
theorem dX4_nail_51 : decode cX4_nail 51 = .ok (.iconst 3, 1) := by decide +kernel
theorem dX4_nail_52 : decode cX4_nail 52 = .ok (.invokevirtual 58, 3) := by decide +kernel
theorem dX4_nail_55 : decode cX4_nail 55 = .ok (.ireturn, 1) := by decide +kernel
theorem dX4_nail_56 : decode cX4_nail 56 = .ok (.aload_n 0, 1) := by decide +kernel
theorem dX4_nail_57 : decode cX4_nail 57 = .ok (.iload_n 1, 1) := by decide +kernel
theorem dX4_nail_58 : decode cX4_nail 58 = .ok (.iconst 3, 1) := by decide +kernel
theorem dX4_nail_59 : decode cX4_nail 59 = .ok (.invokevirtual 40, 3) := by decide +kernel
theorem dX4_nail_62 : decode cX4_nail 62 = .ok (.istore_n 3, 1) := by decide +kernel
theorem dX4_nail_63 : decode cX4_nail 63 = .ok (.aload_n 0, 1) := by decide +kernel
theorem dX4_nail_64 : decode cX4_nail 64 = .ok (.iload_n 1, 1) := by decide +kernel
theorem dX4_nail_65 : decode cX4_nail 65 = .ok (.iconst 3, 1) := by decide +kernel
theorem dX4_nail_66 : decode cX4_nail 66 = .ok (.iload_n 2, 1) := by decide +kernel
theorem dX4_nail_67 : decode cX4_nail 67 = .ok (.invokevirtual 79, 3) := by decide +kernel
theorem dX4_nail_70 : decode cX4_nail 70 = .ok (.iload_n 3, 1) := by decide +kernel
theorem dX4_nail_71 : decode cX4_nail 71 = .ok (.ireturn, 1) := by decide +kernel
theorem dX4_board_0 : decode cX4_board 0 = .ok (.aload_n 0, 1) := by decide +kernel
theorem dX4_board_1 : decode cX4_board 1 = .ok (.iconst 0, 1) := by decide +kernel
theorem dX4_board_2 : decode cX4_board 2 = .ok (.putfield 29, 3) := by decide +kernel
theorem dX4_board_5 : decode cX4_board 5 = .ok (.iload_n 1, 1) := by decide +kernel
theorem dX4_board_6 : decode cX4_board 6 = .ok (.iload_n 2, 1) := by decide +kernel
theorem dX4_board_7 : decode cX4_board 7 = .ok (.invokestatic 44, 3) := by decide +kernel
theorem dX4_board_10 : decode cX4_board 10 = .ok (.ifCond .ne 9, 3) := by decide +kernel
theorem dX4_board_13 : decode cX4_board 13 = .ok (.aload_n 0, 1) := by decide +kernel
theorem dX4_board_14 : decode cX4_board 14 = .ok (.iconst 1, 1) := by decide +kernel
theorem dX4_board_15 : decode cX4_board 15 = .ok (.invokevirtual 58, 3) := by decide +kernel
theorem dX4_board_18 : decode cX4_board 18 = .ok (.ireturn, 1) := by decide +kernel
theorem dX4_board_19 : decode cX4_board 19 = .ok (.aload_n 0, 1) := by decide +kernel
theorem dX4_board_20 : decode cX4_board 20 = .ok (.iload_n 1, 1) := by decide +kernel
theorem dX4_board_21 : decode cX4_board 21 = .ok (.iload_n 2, 1) := by decide +kernel
theorem dX4_board_22 : decode cX4_board 22 = .ok (.invokevirtual 48, 3) := by decide +kernel
theorem dX4_board_25 : decode cX4_board 25 = .ok (.iconst (-1), 1) := by decide +kernel
theorem dX4_board_26 : decode cX4_board 26 = .ok (.if_icmp .eq 9, 3) := by decide +kernel
theorem dX4_board_29 : decode cX4_board 29 = .ok (.aload_n 0, 1) := by decide +kernel
theorem dX4_board_30 : decode cX4_board 30 = .ok (.iconst 2, 1) := by decide +kernel
theorem dX4_board_31 : decode cX4_board 31 = .ok (.invokevirtual 58, 3) := by decide +kernel
theorem dX4_board_34 : decode cX4_board 34 = .ok (.ireturn, 1) := by decide +kernel
theorem dX4_board_35 : decode cX4_board 35 = .ok (.aload_n 0, 1) := by decide +kernel
theorem dX4_board_36 : decode cX4_board 36 = .ok (.getfield 16, 3) := by decide +kernel
theorem dX4_board_39 : decode cX4_board 39 = .ok (.bipush 12, 2) := by decide +kernel
theorem dX4_board_41 : decode cX4_board 41 = .ok (.iload_n 2, 1) := by decide +kernel
theorem dX4_board_42 : decode cX4_board 42 = .ok (.imul, 1) := by decide +kernel
theorem dX4_board_43 : decode cX4_board 43 = .ok (.iload_n 1, 1) := by decide +kernel
theorem dX4_board_44 : decode cX4_board 44 = .ok (.iadd, 1) := by decide +kernel
theorem dX4_board_45 : decode cX4_board 45 = .ok (.iaload, 1) := by decide +kernel
theorem dX4_board_46 : decode cX4_board 46 = .ok (.istore_n 3, 1) := by decide +kernel
theorem dX4_board_47 : decode cX4_board 47 = .ok (.aload_n 0, 1) := by decide +kernel
theorem dX4_board_48 : decode cX4_board 48 = .ok (.getfield 16, 3) := by decide +kernel
theorem dX4_board_51 : decode cX4_board 51 = .ok (.bipush 12, 2) := by decide +kernel
theorem dX4_board_53 : decode cX4_board 53 = .ok (.iload_n 2, 1) := by decide +kernel
theorem dX4_board_54 : decode cX4_board 54 = .ok (.imul, 1) := by decide +kernel
theorem dX4_board_55 : decode cX4_board 55 = .ok (.iload_n 1, 1) := by decide +kernel
theorem dX4_board_56 : decode cX4_board 56 = .ok (.iadd, 1) := by decide +kernel
theorem dX4_board_57 : decode cX4_board 57 = .ok (.iconst 0, 1) := by decide +kernel
theorem dX4_board_58 : decode cX4_board 58 = .ok (.iastore, 1) := by decide +kernel
theorem dX4_board_59 : decode cX4_board 59 = .ok (.iload_n 3, 1) := by decide +kernel
theorem dX4_board_60 : decode cX4_board 60 = .ok (.ireturn, 1) := by decide +kernel
theorem dX4_dayTold_0 : decode cX4_dayTold 0 = .ok (.bipush 100, 2) := by decide +kernel
theorem dX4_dayTold_2 : decode cX4_dayTold 2 = .ok (.aload_n 0, 1) := by decide +kernel
theorem dX4_dayTold_3 : decode cX4_dayTold 3 = .ok (.getfield 19, 3) := by decide +kernel
theorem dX4_dayTold_6 : decode cX4_dayTold 6 = .ok (.iconst 4, 1) := by decide +kernel
theorem dX4_dayTold_7 : decode cX4_dayTold 7 = .ok (.iload_n 1, 1) := by decide +kernel
theorem dX4_dayTold_8 : decode cX4_dayTold 8 = .ok (.imul, 1) := by decide +kernel
theorem dX4_dayTold_9 : decode cX4_dayTold 9 = .ok (.iconst 0, 1) := by decide +kernel
theorem dX4_dayTold_10 : decode cX4_dayTold 10 = .ok (.iadd, 1) := by decide +kernel
theorem dX4_dayTold_11 : decode cX4_dayTold 11 = .ok (.iaload, 1) := by decide +kernel
theorem dX4_dayTold_12 : decode cX4_dayTold 12 = .ok (.imul, 1) := by decide +kernel
theorem dX4_dayTold_13 : decode cX4_dayTold 13 = .ok (.bipush 10, 2) := by decide +kernel
theorem dX4_dayTold_15 : decode cX4_dayTold 15 = .ok (.aload_n 0, 1) := by decide +kernel
theorem dX4_dayTold_16 : decode cX4_dayTold 16 = .ok (.getfield 19, 3) := by decide +kernel
theorem dX4_dayTold_19 : decode cX4_dayTold 19 = .ok (.iconst 4, 1) := by decide +kernel
theorem dX4_dayTold_20 : decode cX4_dayTold 20 = .ok (.iload_n 1, 1) := by decide +kernel
theorem dX4_dayTold_21 : decode cX4_dayTold 21 = .ok (.imul, 1) := by decide +kernel
theorem dX4_dayTold_22 : decode cX4_dayTold 22 = .ok (.iconst 2, 1) := by decide +kernel
theorem dX4_dayTold_23 : decode cX4_dayTold 23 = .ok (.iadd, 1) := by decide +kernel
theorem dX4_dayTold_24 : decode cX4_dayTold 24 = .ok (.iaload, 1) := by decide +kernel
theorem dX4_dayTold_25 : decode cX4_dayTold 25 = .ok (.imul, 1) := by decide +kernel
theorem dX4_dayTold_26 : decode cX4_dayTold 26 = .ok (.iadd, 1) := by decide +kernel
theorem dX4_dayTold_27 : decode cX4_dayTold 27 = .ok (.aload_n 0, 1) := by decide +kernel
theorem dX4_dayTold_28 : decode cX4_dayTold 28 = .ok (.getfield 19, 3) := by decide +kernel
theorem dX4_dayTold_31 : decode cX4_dayTold 31 = .ok (.iconst 4, 1) := by decide +kernel
theorem dX4_dayTold_32 : decode cX4_dayTold 32 = .ok (.iload_n 1, 1) := by decide +kernel
theorem dX4_dayTold_33 : decode cX4_dayTold 33 = .ok (.imul, 1) := by decide +kernel
theorem dX4_dayTold_34 : decode cX4_dayTold 34 = .ok (.iconst 3, 1) := by decide +kernel
theorem dX4_dayTold_35 : decode cX4_dayTold 35 = .ok (.iadd, 1) := by decide +kernel
theorem dX4_dayTold_36 : decode cX4_dayTold 36 = .ok (.iaload, 1) := by decide +kernel
theorem dX4_dayTold_37 : decode cX4_dayTold 37 = .ok (.iadd, 1) := by decide +kernel
theorem dX4_dayTold_38 : decode cX4_dayTold 38 = .ok (.ireturn, 1) := by decide +kernel
theorem dX4_setDay_0 : decode cX4_setDay 0 = .ok (.aload_n 0, 1) := by decide +kernel
theorem dX4_setDay_1 : decode cX4_setDay 1 = .ok (.iconst 0, 1) := by decide +kernel
theorem dX4_setDay_2 : decode cX4_setDay 2 = .ok (.putfield 29, 3) := by decide +kernel
theorem dX4_setDay_5 : decode cX4_setDay 5 = .ok (.iload_n 1, 1) := by decide +kernel
theorem dX4_setDay_6 : decode cX4_setDay 6 = .ok (.iconst 0, 1) := by decide +kernel
theorem dX4_setDay_7 : decode cX4_setDay 7 = .ok (.bipush 6, 2) := by decide +kernel
theorem dX4_setDay_9 : decode cX4_setDay 9 = .ok (.invokestatic 36, 3) := by decide +kernel
theorem dX4_setDay_12 : decode cX4_setDay 12 = .ok (.ifCond .ne 9, 3) := by decide +kernel
theorem dX4_setDay_15 : decode cX4_setDay 15 = .ok (.aload_n 0, 1) := by decide +kernel
theorem dX4_setDay_16 : decode cX4_setDay 16 = .ok (.iconst 1, 1) := by decide +kernel
theorem dX4_setDay_17 : decode cX4_setDay 17 = .ok (.invokevirtual 58, 3) := by decide +kernel
theorem dX4_setDay_20 : decode cX4_setDay 20 = .ok (.ireturn, 1) := by decide +kernel
theorem dX4_setDay_21 : decode cX4_setDay 21 = .ok (.iload_n 2, 1) := by decide +kernel
theorem dX4_setDay_22 : decode cX4_setDay 22 = .ok (.iconst 0, 1) := by decide +kernel
theorem dX4_setDay_23 : decode cX4_setDay 23 = .ok (.bipush 20, 2) := by decide +kernel
theorem dX4_setDay_25 : decode cX4_setDay 25 = .ok (.invokestatic 36, 3) := by decide +kernel
theorem dX4_setDay_28 : decode cX4_setDay 28 = .ok (.ifCond .eq 25, 3) := by decide +kernel
theorem dX4_setDay_31 : decode cX4_setDay 31 = .ok (.iload 4, 2) := by decide +kernel
theorem dX4_setDay_33 : decode cX4_setDay 33 = .ok (.iconst 0, 1) := by decide +kernel
theorem dX4_setDay_34 : decode cX4_setDay 34 = .ok (.bipush 9, 2) := by decide +kernel
theorem dX4_setDay_36 : decode cX4_setDay 36 = .ok (.invokestatic 36, 3) := by decide +kernel
theorem dX4_setDay_39 : decode cX4_setDay 39 = .ok (.ifCond .eq 14, 3) := by decide +kernel
theorem dX4_setDay_42 : decode cX4_setDay 42 = .ok (.iload 5, 2) := by decide +kernel
theorem dX4_setDay_44 : decode cX4_setDay 44 = .ok (.iconst 0, 1) := by decide +kernel
theorem dX4_setDay_45 : decode cX4_setDay 45 = .ok (.bipush 9, 2) := by decide +kernel
theorem dX4_setDay_47 : decode cX4_setDay 47 = .ok (.invokestatic 36, 3) := by decide +kernel
theorem dX4_setDay_50 : decode cX4_setDay 50 = .ok (.ifCond .ne 9, 3) := by decide +kernel
theorem dX4_setDay_53 : decode cX4_setDay 53 = .ok (.aload_n 0, 1) := by decide +kernel
theorem dX4_setDay_54 : decode cX4_setDay 54 = .ok (.iconst 2, 1) := by decide +kernel
theorem dX4_setDay_55 : decode cX4_setDay 55 = .ok (.invokevirtual 58, 3) := by decide +kernel
theorem dX4_setDay_58 : decode cX4_setDay 58 = .ok (.ireturn, 1) := by decide +kernel
theorem dX4_setDay_59 : decode cX4_setDay 59 = .ok (.aload_n 0, 1) := by decide +kernel
theorem dX4_setDay_60 : decode cX4_setDay 60 = .ok (.iload_n 1, 1) := by decide +kernel
theorem dX4_setDay_61 : decode cX4_setDay 61 = .ok (.invokevirtual 97, 3) := by decide +kernel
theorem dX4_setDay_64 : decode cX4_setDay 64 = .ok (.istore 6, 2) := by decide +kernel
theorem dX4_setDay_66 : decode cX4_setDay 66 = .ok (.iconst 4, 1) := by decide +kernel
theorem dX4_setDay_67 : decode cX4_setDay 67 = .ok (.newarray .int, 2) := by decide +kernel
theorem dX4_setDay_69 : decode cX4_setDay 69 = .ok (.dup, 1) := by decide +kernel
theorem dX4_setDay_70 : decode cX4_setDay 70 = .ok (.iconst 0, 1) := by decide +kernel
theorem dX4_setDay_71 : decode cX4_setDay 71 = .ok (.iload_n 2, 1) := by decide +kernel
theorem dX4_setDay_72 : decode cX4_setDay 72 = .ok (.iastore, 1) := by decide +kernel
theorem dX4_setDay_73 : decode cX4_setDay 73 = .ok (.dup, 1) := by decide +kernel
theorem dX4_setDay_74 : decode cX4_setDay 74 = .ok (.iconst 1, 1) := by decide +kernel
theorem dX4_setDay_75 : decode cX4_setDay 75 = .ok (.iload_n 3, 1) := by decide +kernel
theorem dX4_setDay_76 : decode cX4_setDay 76 = .ok (.ifCond .eq 7, 3) := by decide +kernel
theorem dX4_setDay_79 : decode cX4_setDay 79 = .ok (.iconst 1, 1) := by decide +kernel
theorem dX4_setDay_80 : decode cX4_setDay 80 = .ok (.goto 4, 3) := by decide +kernel
theorem dX4_setDay_83 : decode cX4_setDay 83 = .ok (.iconst 0, 1) := by decide +kernel
theorem dX4_setDay_84 : decode cX4_setDay 84 = .ok (.iastore, 1) := by decide +kernel
theorem dX4_setDay_85 : decode cX4_setDay 85 = .ok (.dup, 1) := by decide +kernel
theorem dX4_setDay_86 : decode cX4_setDay 86 = .ok (.iconst 2, 1) := by decide +kernel
theorem dX4_setDay_87 : decode cX4_setDay 87 = .ok (.iload 4, 2) := by decide +kernel
theorem dX4_setDay_89 : decode cX4_setDay 89 = .ok (.iastore, 1) := by decide +kernel
theorem dX4_setDay_90 : decode cX4_setDay 90 = .ok (.dup, 1) := by decide +kernel
theorem dX4_setDay_91 : decode cX4_setDay 91 = .ok (.iconst 3, 1) := by decide +kernel
theorem dX4_setDay_92 : decode cX4_setDay 92 = .ok (.iload 5, 2) := by decide +kernel
theorem dX4_setDay_94 : decode cX4_setDay 94 = .ok (.iastore, 1) := by decide +kernel
theorem dX4_setDay_95 : decode cX4_setDay 95 = .ok (.astore 7, 2) := by decide +kernel
theorem dX4_setDay_97 : decode cX4_setDay 97 = .ok (.aload 7, 2) := by decide +kernel
theorem dX4_setDay_99 : decode cX4_setDay 99 = .ok (.iconst 0, 1) := by decide +kernel
theorem dX4_setDay_100 : decode cX4_setDay 100 = .ok (.aload_n 0, 1) := by decide +kernel
theorem dX4_setDay_101 : decode cX4_setDay 101 = .ok (.getfield 19, 3) := by decide +kernel
theorem dX4_setDay_104 : decode cX4_setDay 104 = .ok (.iconst 4, 1) := by decide +kernel
theorem dX4_setDay_105 : decode cX4_setDay 105 = .ok (.iload_n 1, 1) := by decide +kernel
theorem dX4_setDay_106 : decode cX4_setDay 106 = .ok (.imul, 1) := by decide +kernel
theorem dX4_setDay_107 : decode cX4_setDay 107 = .ok (.iconst 4, 1) := by decide +kernel
theorem dX4_setDay_108 : decode cX4_setDay 108 = .ok (.invokestatic 69, 3) := by decide +kernel
theorem dX4_setDay_111 : decode cX4_setDay 111 = .ok (.iload 6, 2) := by decide +kernel
theorem dX4_setDay_113 : decode cX4_setDay 113 = .ok (.ireturn, 1) := by decide +kernel
theorem dX4_hold_0 : decode cX4_hold 0 = .ok (.iconst 0, 1) := by decide +kernel
theorem dX4_hold_1 : decode cX4_hold 1 = .ok (.istore_n 2, 1) := by decide +kernel
theorem dX4_hold_2 : decode cX4_hold 2 = .ok (.aload_n 0, 1) := by decide +kernel
theorem dX4_hold_3 : decode cX4_hold 3 = .ok (.iload_n 1, 1) := by decide +kernel
theorem dX4_hold_4 : decode cX4_hold 4 = .ok (.iconst 1, 1) := by decide +kernel
theorem dX4_hold_5 : decode cX4_hold 5 = .ok (.invokevirtual 40, 3) := by decide +kernel
theorem dX4_hold_8 : decode cX4_hold 8 = .ok (.istore_n 3, 1) := by decide +kernel
theorem dX4_hold_9 : decode cX4_hold 9 = .ok (.iload_n 3, 1) := by decide +kernel
theorem dX4_hold_10 : decode cX4_hold 10 = .ok (.aload_n 0, 1) := by decide +kernel
theorem dX4_hold_11 : decode cX4_hold 11 = .ok (.iload_n 1, 1) := by decide +kernel
theorem dX4_hold_12 : decode cX4_hold 12 = .ok (.iconst 1, 1) := by decide +kernel
theorem dX4_hold_13 : decode cX4_hold 13 = .ok (.invokevirtual 40, 3) := by decide +kernel
theorem dX4_hold_16 : decode cX4_hold 16 = .ok (.aload_n 0, 1) := by decide +kernel
theorem dX4_hold_17 : decode cX4_hold 17 = .ok (.iload_n 1, 1) := by decide +kernel
theorem dX4_hold_18 : decode cX4_hold 18 = .ok (.iconst 2, 1) := by decide +kernel
theorem dX4_hold_19 : decode cX4_hold 19 = .ok (.invokevirtual 40, 3) := by decide +kernel
theorem dX4_hold_22 : decode cX4_hold 22 = .ok (.iadd, 1) := by decide +kernel
theorem dX4_hold_23 : decode cX4_hold 23 = .ok (.if_icmp .ge 37, 3) := by decide +kernel
theorem dX4_hold_26 : decode cX4_hold 26 = .ok (.iload_n 2, 1) := by decide +kernel
theorem dX4_hold_27 : decode cX4_hold 27 = .ok (.aload_n 0, 1) := by decide +kernel
theorem dX4_hold_28 : decode cX4_hold 28 = .ok (.getfield 16, 3) := by decide +kernel
theorem dX4_hold_31 : decode cX4_hold 31 = .ok (.bipush 12, 2) := by decide +kernel
theorem dX4_hold_33 : decode cX4_hold 33 = .ok (.aload_n 0, 1) := by decide +kernel
theorem dX4_hold_34 : decode cX4_hold 34 = .ok (.iload_n 1, 1) := by decide +kernel
theorem dX4_hold_35 : decode cX4_hold 35 = .ok (.iconst 0, 1) := by decide +kernel
theorem dX4_hold_36 : decode cX4_hold 36 = .ok (.invokevirtual 40, 3) := by decide +kernel
theorem dX4_hold_39 : decode cX4_hold 39 = .ok (.imul, 1) := by decide +kernel
theorem dX4_hold_40 : decode cX4_hold 40 = .ok (.iload_n 3, 1) := by decide +kernel
theorem dX4_hold_41 : decode cX4_hold 41 = .ok (.iadd, 1) := by decide +kernel
theorem dX4_hold_42 : decode cX4_hold 42 = .ok (.iaload, 1) := by decide +kernel
theorem dX4_hold_43 : decode cX4_hold 43 = .ok (.iconst 5, 1) := by decide +kernel
theorem dX4_hold_44 : decode cX4_hold 44 = .ok (.if_icmp .lt 7, 3) := by decide +kernel
theorem dX4_hold_47 : decode cX4_hold 47 = .ok (.iconst 1, 1) := by decide +kernel
theorem dX4_hold_48 : decode cX4_hold 48 = .ok (.goto 4, 3) := by decide +kernel
theorem dX4_hold_51 : decode cX4_hold 51 = .ok (.iconst 0, 1) := by decide +kernel
theorem dX4_hold_52 : decode cX4_hold 52 = .ok (.ior, 1) := by decide +kernel
theorem dX4_hold_53 : decode cX4_hold 53 = .ok (.istore_n 2, 1) := by decide +kernel
theorem dX4_hold_54 : decode cX4_hold 54 = .ok (.iinc 3 1, 3) := by decide +kernel
theorem dX4_hold_57 : decode cX4_hold 57 = .ok (.goto (-48), 3) := by decide +kernel
theorem dX4_hold_60 : decode cX4_hold 60 = .ok (.iload_n 2, 1) := by decide +kernel
theorem dX4_hold_61 : decode cX4_hold 61 = .ok (.ifCond .eq 7, 3) := by decide +kernel
theorem dX4_hold_64 : decode cX4_hold 64 = .ok (.iconst 2, 1) := by decide +kernel
theorem dX4_hold_65 : decode cX4_hold 65 = .ok (.goto 4, 3) := by decide +kernel
theorem dX4_hold_68 : decode cX4_hold 68 = .ok (.iconst 3, 1) := by decide +kernel
theorem dX4_hold_69 : decode cX4_hold 69 = .ok (.aload_n 0, 1) := by decide +kernel
theorem dX4_hold_70 : decode cX4_hold 70 = .ok (.iload_n 1, 1) := by decide +kernel
theorem dX4_hold_71 : decode cX4_hold 71 = .ok (.iconst 3, 1) := by decide +kernel
theorem dX4_hold_72 : decode cX4_hold 72 = .ok (.invokevirtual 40, 3) := by decide +kernel
theorem dX4_hold_75 : decode cX4_hold 75 = .ok (.imul, 1) := by decide +kernel
theorem dX4_hold_76 : decode cX4_hold 76 = .ok (.iconst 2, 1) := by decide +kernel
theorem dX4_hold_77 : decode cX4_hold 77 = .ok (.aload_n 0, 1) := by decide +kernel
theorem dX4_hold_78 : decode cX4_hold 78 = .ok (.iload_n 1, 1) := by decide +kernel
theorem dX4_hold_79 : decode cX4_hold 79 = .ok (.invokevirtual 90, 3) := by decide +kernel
theorem dX4_hold_82 : decode cX4_hold 82 = .ok (.imul, 1) := by decide +kernel
theorem dX4_hold_83 : decode cX4_hold 83 = .ok (.iadd, 1) := by decide +kernel
theorem dX4_hold_84 : decode cX4_hold 84 = .ok (.istore_n 3, 1) := by decide +kernel
theorem dX4_hold_85 : decode cX4_hold 85 = .ok (.aload_n 0, 1) := by decide +kernel
theorem dX4_hold_86 : decode cX4_hold 86 = .ok (.iload_n 1, 1) := by decide +kernel
theorem dX4_hold_87 : decode cX4_hold 87 = .ok (.iconst 4, 1) := by decide +kernel
theorem dX4_hold_88 : decode cX4_hold 88 = .ok (.invokevirtual 40, 3) := by decide +kernel
theorem dX4_hold_91 : decode cX4_hold 91 = .ok (.iconst 1, 1) := by decide +kernel
theorem dX4_hold_92 : decode cX4_hold 92 = .ok (.if_icmp .ne 9, 3) := by decide +kernel
theorem dX4_hold_95 : decode cX4_hold 95 = .ok (.iload_n 3, 1) := by decide +kernel
theorem dX4_hold_96 : decode cX4_hold 96 = .ok (.iconst 2, 1) := by decide +kernel
theorem dX4_hold_97 : decode cX4_hold 97 = .ok (.idiv, 1) := by decide +kernel
theorem dX4_hold_98 : decode cX4_hold 98 = .ok (.goto 4, 3) := by decide +kernel
theorem dX4_hold_101 : decode cX4_hold 101 = .ok (.iload_n 3, 1) := by decide +kernel
theorem dX4_hold_102 : decode cX4_hold 102 = .ok (.ireturn, 1) := by decide +kernel
theorem dX4_slateTold_0 : decode cX4_slateTold 0 = .ok (.iload_n 2, 1) := by decide +kernel
theorem dX4_slateTold_1 : decode cX4_slateTold 1 = .ok (.bipush 6, 2) := by decide +kernel
theorem dX4_slateTold_3 : decode cX4_slateTold 3 = .ok (.if_icmp .ge 10, 3) := by decide +kernel
theorem dX4_slateTold_6 : decode cX4_slateTold 6 = .ok (.aload_n 0, 1) := by decide +kernel
theorem dX4_slateTold_7 : decode cX4_slateTold 7 = .ok (.iload_n 1, 1) := by decide +kernel
theorem dX4_slateTold_8 : decode cX4_slateTold 8 = .ok (.iload_n 2, 1) := by decide +kernel
theorem dX4_slateTold_9 : decode cX4_slateTold 9 = .ok (.invokevirtual 40, 3) := by decide +kernel
theorem dX4_slateTold_12 : decode cX4_slateTold 12 = .ok (.ireturn, 1) := by decide +kernel
theorem dX4_slateTold_13 : decode cX4_slateTold 13 = .ok (.aload_n 0, 1) := by decide +kernel
theorem dX4_slateTold_14 : decode cX4_slateTold 14 = .ok (.iload_n 1, 1) := by decide +kernel
theorem dX4_slateTold_15 : decode cX4_slateTold 15 = .ok (.invokevirtual 87, 3) := by decide +kernel
theorem dX4_slateTold_18 : decode cX4_slateTold 18 = .ok (.ifCond .ne 7, 3) := by decide +kernel
theorem dX4_slateTold_21 : decode cX4_slateTold 21 = .ok (.iconst 0, 1) := by decide +kernel
theorem dX4_slateTold_22 : decode cX4_slateTold 22 = .ok (.goto 22, 3) := by decide +kernel
theorem dX4_slateTold_25 : decode cX4_slateTold 25 = .ok (.iload_n 2, 1) := by decide +kernel
theorem dX4_slateTold_26 : decode cX4_slateTold 26 = .ok (.bipush 6, 2) := by decide +kernel
theorem dX4_slateTold_28 : decode cX4_slateTold 28 = .ok (.if_icmp .ne 11, 3) := by decide +kernel
theorem dX4_slateTold_31 : decode cX4_slateTold 31 = .ok (.aload_n 0, 1) := by decide +kernel
theorem dX4_slateTold_32 : decode cX4_slateTold 32 = .ok (.iload_n 1, 1) := by decide +kernel
theorem dX4_slateTold_33 : decode cX4_slateTold 33 = .ok (.invokevirtual 100, 3) := by decide +kernel
theorem dX4_slateTold_36 : decode cX4_slateTold 36 = .ok (.goto 8, 3) := by decide +kernel
theorem dX4_slateTold_39 : decode cX4_slateTold 39 = .ok (.aload_n 0, 1) := by decide +kernel
theorem dX4_slateTold_40 : decode cX4_slateTold 40 = .ok (.iload_n 1, 1) := by decide +kernel
theorem dX4_slateTold_41 : decode cX4_slateTold 41 = .ok (.invokevirtual 90, 3) := by decide +kernel
theorem dX4_slateTold_44 : decode cX4_slateTold 44 = .ok (.ireturn, 1) := by decide +kernel
theorem dX4_slate_0 : decode cX4_slate 0 = .ok (.aload_n 0, 1) := by decide +kernel
theorem dX4_slate_1 : decode cX4_slate 1 = .ok (.iconst 0, 1) := by decide +kernel
theorem dX4_slate_2 : decode cX4_slate 2 = .ok (.putfield 29, 3) := by decide +kernel
theorem dX4_slate_5 : decode cX4_slate 5 = .ok (.aload_n 0, 1) := by decide +kernel
theorem dX4_slate_6 : decode cX4_slate 6 = .ok (.iload_n 1, 1) := by decide +kernel
theorem dX4_slate_7 : decode cX4_slate 7 = .ok (.invokevirtual 83, 3) := by decide +kernel
theorem dX4_slate_10 : decode cX4_slate 10 = .ok (.ifCond .eq 22, 3) := by decide +kernel
theorem dX4_slate_13 : decode cX4_slate 13 = .ok (.iload_n 2, 1) := by decide +kernel
theorem dX4_slate_14 : decode cX4_slate 14 = .ok (.iconst 0, 1) := by decide +kernel
theorem dX4_slate_15 : decode cX4_slate 15 = .ok (.bipush 7, 2) := by decide +kernel
theorem dX4_slate_17 : decode cX4_slate 17 = .ok (.invokestatic 36, 3) := by decide +kernel
theorem dX4_slate_20 : decode cX4_slate 20 = .ok (.ifCond .eq 12, 3) := by decide +kernel
theorem dX4_slate_23 : decode cX4_slate 23 = .ok (.aload_n 0, 1) := by decide +kernel
theorem dX4_slate_24 : decode cX4_slate 24 = .ok (.iload_n 1, 1) := by decide +kernel
theorem dX4_slate_25 : decode cX4_slate 25 = .ok (.iload_n 2, 1) := by decide +kernel
theorem dX4_slate_26 : decode cX4_slate 26 = .ok (.invokevirtual 103, 3) := by decide +kernel
theorem dX4_slate_29 : decode cX4_slate 29 = .ok (.goto 8, 3) := by decide +kernel
theorem dX4_slate_32 : decode cX4_slate 32 = .ok (.aload_n 0, 1) := by decide +kernel
theorem dX4_slate_33 : decode cX4_slate 33 = .ok (.iconst 1, 1) := by decide +kernel
theorem dX4_slate_34 : decode cX4_slate 34 = .ok (.invokevirtual 58, 3) := by decide +kernel
theorem dX4_slate_37 : decode cX4_slate 37 = .ok (.ireturn, 1) := by decide +kernel
theorem dX4_isWhole_0 : decode cX4_isWhole 0 = .ok (.aload_n 0, 1) := by decide +kernel
theorem dX4_isWhole_1 : decode cX4_isWhole 1 = .ok (.iload_n 1, 1) := by decide +kernel
theorem dX4_isWhole_2 : decode cX4_isWhole 2 = .ok (.iload_n 2, 1) := by decide +kernel
theorem dX4_isWhole_3 : decode cX4_isWhole 3 = .ok (.invokevirtual 48, 3) := by decide +kernel
theorem dX4_isWhole_6 : decode cX4_isWhole 6 = .ok (.iconst (-1), 1) := by decide +kernel
theorem dX4_isWhole_7 : decode cX4_isWhole 7 = .ok (.if_icmp .eq 21, 3) := by decide +kernel
theorem dX4_isWhole_10 : decode cX4_isWhole 10 = .ok (.aload_n 0, 1) := by decide +kernel
theorem dX4_isWhole_11 : decode cX4_isWhole 11 = .ok (.aload_n 0, 1) := by decide +kernel
theorem dX4_isWhole_12 : decode cX4_isWhole 12 = .ok (.iload_n 1, 1) := by decide +kernel
theorem dX4_isWhole_13 : decode cX4_isWhole 13 = .ok (.iload_n 2, 1) := by decide +kernel
theorem dX4_isWhole_14 : decode cX4_isWhole 14 = .ok (.invokevirtual 48, 3) := by decide +kernel
theorem dX4_isWhole_17 : decode cX4_isWhole 17 = .ok (.iconst 4, 1) := by decide +kernel
theorem dX4_isWhole_18 : decode cX4_isWhole 18 = .ok (.invokevirtual 40, 3) := by decide +kernel
theorem dX4_isWhole_21 : decode cX4_isWhole 21 = .ok (.ifCond .ne 7, 3) := by decide +kernel
theorem dX4_isWhole_24 : decode cX4_isWhole 24 = .ok (.iconst 1, 1) := by decide +kernel
theorem dX4_isWhole_25 : decode cX4_isWhole 25 = .ok (.goto 4, 3) := by decide +kernel
theorem dX4_isWhole_28 : decode cX4_isWhole 28 = .ok (.iconst 0, 1) := by decide +kernel
theorem dX4_isWhole_29 : decode cX4_isWhole 29 = .ok (.ireturn, 1) := by decide +kernel
theorem dX4_isCovered_0 : decode cX4_isCovered 0 = .ok (.aload_n 0, 1) := by decide +kernel
theorem dX4_isCovered_1 : decode cX4_isCovered 1 = .ok (.iload_n 1, 1) := by decide +kernel
theorem dX4_isCovered_2 : decode cX4_isCovered 2 = .ok (.iload_n 2, 1) := by decide +kernel
theorem dX4_isCovered_3 : decode cX4_isCovered 3 = .ok (.invokevirtual 106, 3) := by decide +kernel
theorem dX4_isCovered_6 : decode cX4_isCovered 6 = .ok (.ifCond .ne 14, 3) := by decide +kernel
theorem dX4_isCovered_9 : decode cX4_isCovered 9 = .ok (.aload_n 0, 1) := by decide +kernel
theorem dX4_isCovered_10 : decode cX4_isCovered 10 = .ok (.iload_n 1, 1) := by decide +kernel
theorem dX4_isCovered_11 : decode cX4_isCovered 11 = .ok (.iload_n 2, 1) := by decide +kernel
theorem dX4_isCovered_12 : decode cX4_isCovered 12 = .ok (.iconst 1, 1) := by decide +kernel
theorem dX4_isCovered_13 : decode cX4_isCovered 13 = .ok (.iadd, 1) := by decide +kernel
theorem dX4_isCovered_14 : decode cX4_isCovered 14 = .ok (.invokevirtual 106, 3) := by decide +kernel
theorem dX4_isCovered_17 : decode cX4_isCovered 17 = .ok (.ifCond .eq 7, 3) := by decide +kernel
theorem dX4_isCovered_20 : decode cX4_isCovered 20 = .ok (.iconst 1, 1) := by decide +kernel
theorem dX4_isCovered_21 : decode cX4_isCovered 21 = .ok (.goto 4, 3) := by decide +kernel
theorem dX4_isCovered_24 : decode cX4_isCovered 24 = .ok (.iconst 0, 1) := by decide +kernel
theorem dX4_isCovered_25 : decode cX4_isCovered 25 = .ok (.ireturn, 1) := by decide +kernel
theorem dX4_placeTold_0 : decode cX4_placeTold 0 = .ok (.iload_n 3, 1) := by decide +kernel
theorem dX4_placeTold_1 : decode cX4_placeTold 1 = .ok (.ifCond .ne 12, 3) := by decide +kernel
theorem dX4_placeTold_4 : decode cX4_placeTold 4 = .ok (.aload_n 0, 1) := by decide +kernel
theorem dX4_placeTold_5 : decode cX4_placeTold 5 = .ok (.iload_n 1, 1) := by decide +kernel
theorem dX4_placeTold_6 : decode cX4_placeTold 6 = .ok (.iload_n 2, 1) := by decide +kernel
theorem dX4_placeTold_7 : decode cX4_placeTold 7 = .ok (.invokevirtual 48, 3) := by decide +kernel
theorem dX4_placeTold_10 : decode cX4_placeTold 10 = .ok (.goto 36, 3) := by decide +kernel
theorem dX4_placeTold_13 : decode cX4_placeTold 13 = .ok (.iload_n 3, 1) := by decide +kernel
theorem dX4_placeTold_14 : decode cX4_placeTold 14 = .ok (.iconst 2, 1) := by decide +kernel
theorem dX4_placeTold_15 : decode cX4_placeTold 15 = .ok (.if_icmp .ne 17, 3) := by decide +kernel
theorem dX4_placeTold_18 : decode cX4_placeTold 18 = .ok (.aload_n 0, 1) := by decide +kernel
theorem dX4_placeTold_19 : decode cX4_placeTold 19 = .ok (.getfield 16, 3) := by decide +kernel
theorem dX4_placeTold_22 : decode cX4_placeTold 22 = .ok (.bipush 12, 2) := by decide +kernel
theorem dX4_placeTold_24 : decode cX4_placeTold 24 = .ok (.iload_n 2, 1) := by decide +kernel
theorem dX4_placeTold_25 : decode cX4_placeTold 25 = .ok (.imul, 1) := by decide +kernel
theorem dX4_placeTold_26 : decode cX4_placeTold 26 = .ok (.iload_n 1, 1) := by decide +kernel
theorem dX4_placeTold_27 : decode cX4_placeTold 27 = .ok (.iadd, 1) := by decide +kernel
theorem dX4_placeTold_28 : decode cX4_placeTold 28 = .ok (.iaload, 1) := by decide +kernel
theorem dX4_placeTold_29 : decode cX4_placeTold 29 = .ok (.goto 17, 3) := by decide +kernel
theorem dX4_placeTold_32 : decode cX4_placeTold 32 = .ok (.aload_n 0, 1) := by decide +kernel
theorem dX4_placeTold_33 : decode cX4_placeTold 33 = .ok (.iload_n 1, 1) := by decide +kernel
theorem dX4_placeTold_34 : decode cX4_placeTold 34 = .ok (.iload_n 2, 1) := by decide +kernel
theorem dX4_placeTold_35 : decode cX4_placeTold 35 = .ok (.invokevirtual 109, 3) := by decide +kernel
theorem dX4_placeTold_38 : decode cX4_placeTold 38 = .ok (.ifCond .eq 7, 3) := by decide +kernel
theorem dX4_placeTold_41 : decode cX4_placeTold 41 = .ok (.iconst 1, 1) := by decide +kernel
theorem dX4_placeTold_42 : decode cX4_placeTold 42 = .ok (.goto 4, 3) := by decide +kernel
theorem dX4_placeTold_45 : decode cX4_placeTold 45 = .ok (.iconst 0, 1) := by decide +kernel
theorem dX4_placeTold_46 : decode cX4_placeTold 46 = .ok (.ireturn, 1) := by decide +kernel
theorem dX4_place_0 : decode cX4_place 0 = .ok (.aload_n 0, 1) := by decide +kernel
theorem dX4_place_1 : decode cX4_place 1 = .ok (.iconst 0, 1) := by decide +kernel
theorem dX4_place_2 : decode cX4_place 2 = .ok (.putfield 29, 3) := by decide +kernel
theorem dX4_place_5 : decode cX4_place 5 = .ok (.iload_n 1, 1) := by decide +kernel
theorem dX4_place_6 : decode cX4_place 6 = .ok (.iload_n 2, 1) := by decide +kernel
theorem dX4_place_7 : decode cX4_place 7 = .ok (.invokestatic 44, 3) := by decide +kernel
theorem dX4_place_10 : decode cX4_place 10 = .ok (.ifCond .eq 22, 3) := by decide +kernel
theorem dX4_place_13 : decode cX4_place 13 = .ok (.iload_n 3, 1) := by decide +kernel
theorem dX4_place_14 : decode cX4_place 14 = .ok (.iconst 0, 1) := by decide +kernel
theorem dX4_place_15 : decode cX4_place 15 = .ok (.iconst 2, 1) := by decide +kernel
theorem dX4_place_16 : decode cX4_place 16 = .ok (.invokestatic 36, 3) := by decide +kernel
theorem dX4_place_19 : decode cX4_place 19 = .ok (.ifCond .eq 13, 3) := by decide +kernel
theorem dX4_place_22 : decode cX4_place 22 = .ok (.aload_n 0, 1) := by decide +kernel
theorem dX4_place_23 : decode cX4_place 23 = .ok (.iload_n 1, 1) := by decide +kernel
theorem dX4_place_24 : decode cX4_place 24 = .ok (.iload_n 2, 1) := by decide +kernel
theorem dX4_place_25 : decode cX4_place 25 = .ok (.iload_n 3, 1) := by decide +kernel
theorem dX4_place_26 : decode cX4_place 26 = .ok (.invokevirtual 112, 3) := by decide +kernel
theorem dX4_place_29 : decode cX4_place 29 = .ok (.goto 8, 3) := by decide +kernel
theorem dX4_place_32 : decode cX4_place 32 = .ok (.aload_n 0, 1) := by decide +kernel
theorem dX4_place_33 : decode cX4_place 33 = .ok (.iconst 1, 1) := by decide +kernel
theorem dX4_place_34 : decode cX4_place 34 = .ok (.invokevirtual 58, 3) := by decide +kernel
theorem dX4_place_37 : decode cX4_place 37 = .ok (.ireturn, 1) := by decide +kernel
theorem dX4_covered_0 : decode cX4_covered 0 = .ok (.iconst 0, 1) := by decide +kernel
theorem dX4_covered_1 : decode cX4_covered 1 = .ok (.istore_n 1, 1) := by decide +kernel
theorem dX4_covered_2 : decode cX4_covered 2 = .ok (.iconst 0, 1) := by decide +kernel
theorem dX4_covered_3 : decode cX4_covered 3 = .ok (.istore_n 2, 1) := by decide +kernel
theorem dX4_covered_4 : decode cX4_covered 4 = .ok (.iload_n 2, 1) := by decide +kernel
theorem dX4_covered_5 : decode cX4_covered 5 = .ok (.bipush 96, 2) := by decide +kernel
theorem dX4_covered_7 : decode cX4_covered 7 = .ok (.if_icmp .ge 32, 3) := by decide +kernel
theorem dX4_covered_10 : decode cX4_covered 10 = .ok (.iload_n 1, 1) := by decide +kernel
theorem dX4_covered_11 : decode cX4_covered 11 = .ok (.aload_n 0, 1) := by decide +kernel
theorem dX4_covered_12 : decode cX4_covered 12 = .ok (.iload_n 2, 1) := by decide +kernel
theorem dX4_covered_13 : decode cX4_covered 13 = .ok (.bipush 12, 2) := by decide +kernel
theorem dX4_covered_15 : decode cX4_covered 15 = .ok (.irem, 1) := by decide +kernel
theorem dX4_covered_16 : decode cX4_covered 16 = .ok (.iload_n 2, 1) := by decide +kernel
theorem dX4_covered_17 : decode cX4_covered 17 = .ok (.bipush 12, 2) := by decide +kernel
theorem dX4_covered_19 : decode cX4_covered 19 = .ok (.idiv, 1) := by decide +kernel
theorem dX4_covered_20 : decode cX4_covered 20 = .ok (.invokevirtual 109, 3) := by decide +kernel
theorem dX4_covered_23 : decode cX4_covered 23 = .ok (.ifCond .eq 7, 3) := by decide +kernel
theorem dX4_covered_26 : decode cX4_covered 26 = .ok (.iconst 1, 1) := by decide +kernel
theorem dX4_covered_27 : decode cX4_covered 27 = .ok (.goto 4, 3) := by decide +kernel
theorem dX4_covered_30 : decode cX4_covered 30 = .ok (.iconst 0, 1) := by decide +kernel
theorem dX4_covered_31 : decode cX4_covered 31 = .ok (.iadd, 1) := by decide +kernel
theorem dX4_covered_32 : decode cX4_covered 32 = .ok (.istore_n 1, 1) := by decide +kernel
theorem dX4_covered_33 : decode cX4_covered 33 = .ok (.iinc 2 1, 3) := by decide +kernel
theorem dX4_covered_36 : decode cX4_covered 36 = .ok (.goto (-32), 3) := by decide +kernel
theorem dX4_covered_39 : decode cX4_covered 39 = .ok (.iload_n 1, 1) := by decide +kernel
theorem dX4_covered_40 : decode cX4_covered 40 = .ok (.ireturn, 1) := by decide +kernel
theorem dX4_cracked_0 : decode cX4_cracked 0 = .ok (.iconst 0, 1) := by decide +kernel
theorem dX4_cracked_1 : decode cX4_cracked 1 = .ok (.istore_n 1, 1) := by decide +kernel
theorem dX4_cracked_2 : decode cX4_cracked 2 = .ok (.iconst 0, 1) := by decide +kernel
theorem dX4_cracked_3 : decode cX4_cracked 3 = .ok (.istore_n 2, 1) := by decide +kernel
theorem dX4_cracked_4 : decode cX4_cracked 4 = .ok (.iload_n 2, 1) := by decide +kernel
theorem dX4_cracked_5 : decode cX4_cracked 5 = .ok (.aload_n 0, 1) := by decide +kernel
theorem dX4_cracked_6 : decode cX4_cracked 6 = .ok (.getfield 33, 3) := by decide +kernel
theorem dX4_cracked_9 : decode cX4_cracked 9 = .ok (.if_icmp .ge 30, 3) := by decide +kernel
theorem dX4_cracked_12 : decode cX4_cracked 12 = .ok (.iload_n 1, 1) := by decide +kernel
theorem dX4_cracked_13 : decode cX4_cracked 13 = .ok (.aload_n 0, 1) := by decide +kernel
theorem dX4_cracked_14 : decode cX4_cracked 14 = .ok (.iload_n 2, 1) := by decide +kernel
theorem dX4_cracked_15 : decode cX4_cracked 15 = .ok (.invokevirtual 87, 3) := by decide +kernel
theorem dX4_cracked_18 : decode cX4_cracked 18 = .ok (.ifCond .eq 12, 3) := by decide +kernel
theorem dX4_cracked_21 : decode cX4_cracked 21 = .ok (.aload_n 0, 1) := by decide +kernel
theorem dX4_cracked_22 : decode cX4_cracked 22 = .ok (.iload_n 2, 1) := by decide +kernel
theorem dX4_cracked_23 : decode cX4_cracked 23 = .ok (.iconst 4, 1) := by decide +kernel
theorem dX4_cracked_24 : decode cX4_cracked 24 = .ok (.invokevirtual 40, 3) := by decide +kernel
theorem dX4_cracked_27 : decode cX4_cracked 27 = .ok (.goto 4, 3) := by decide +kernel
theorem dX4_cracked_30 : decode cX4_cracked 30 = .ok (.iconst 0, 1) := by decide +kernel
theorem dX4_cracked_31 : decode cX4_cracked 31 = .ok (.iadd, 1) := by decide +kernel
theorem dX4_cracked_32 : decode cX4_cracked 32 = .ok (.istore_n 1, 1) := by decide +kernel
theorem dX4_cracked_33 : decode cX4_cracked 33 = .ok (.iinc 2 1, 3) := by decide +kernel
theorem dX4_cracked_36 : decode cX4_cracked 36 = .ok (.goto (-32), 3) := by decide +kernel
theorem dX4_cracked_39 : decode cX4_cracked 39 = .ok (.iload_n 1, 1) := by decide +kernel
theorem dX4_cracked_40 : decode cX4_cracked 40 = .ok (.ireturn, 1) := by decide +kernel
theorem dX4_allRot_0 : decode cX4_allRot 0 = .ok (.iconst 0, 1) := by decide +kernel
theorem dX4_allRot_1 : decode cX4_allRot 1 = .ok (.istore_n 1, 1) := by decide +kernel
theorem dX4_allRot_2 : decode cX4_allRot 2 = .ok (.aload_n 0, 1) := by decide +kernel
theorem dX4_allRot_3 : decode cX4_allRot 3 = .ok (.getfield 16, 3) := by decide +kernel
theorem dX4_allRot_6 : decode cX4_allRot 6 = .ok (.astore_n 2, 1) := by decide +kernel
theorem dX4_allRot_7 : decode cX4_allRot 7 = .ok (.aload_n 2, 1) := by decide +kernel
theorem dX4_allRot_8 : decode cX4_allRot 8 = .ok (.arraylength, 1) := by decide +kernel
theorem dX4_allRot_9 : decode cX4_allRot 9 = .ok (.istore_n 3, 1) := by decide +kernel
theorem dX4_allRot_10 : decode cX4_allRot 10 = .ok (.iconst 0, 1) := by decide +kernel
theorem dX4_allRot_11 : decode cX4_allRot 11 = .ok (.istore 4, 2) := by decide +kernel
theorem dX4_allRot_13 : decode cX4_allRot 13 = .ok (.iload 4, 2) := by decide +kernel
theorem dX4_allRot_15 : decode cX4_allRot 15 = .ok (.iload_n 3, 1) := by decide +kernel
theorem dX4_allRot_16 : decode cX4_allRot 16 = .ok (.if_icmp .ge 20, 3) := by decide +kernel
theorem dX4_allRot_19 : decode cX4_allRot 19 = .ok (.aload_n 2, 1) := by decide +kernel
theorem dX4_allRot_20 : decode cX4_allRot 20 = .ok (.iload 4, 2) := by decide +kernel
theorem dX4_allRot_22 : decode cX4_allRot 22 = .ok (.iaload, 1) := by decide +kernel
theorem dX4_allRot_23 : decode cX4_allRot 23 = .ok (.istore 5, 2) := by decide +kernel
theorem dX4_allRot_25 : decode cX4_allRot 25 = .ok (.iload_n 1, 1) := by decide +kernel
theorem dX4_allRot_26 : decode cX4_allRot 26 = .ok (.iload 5, 2) := by decide +kernel
theorem dX4_allRot_28 : decode cX4_allRot 28 = .ok (.iadd, 1) := by decide +kernel
theorem dX4_allRot_29 : decode cX4_allRot 29 = .ok (.istore_n 1, 1) := by decide +kernel
theorem dX4_allRot_30 : decode cX4_allRot 30 = .ok (.iinc 4 1, 3) := by decide +kernel
theorem dX4_allRot_33 : decode cX4_allRot 33 = .ok (.goto (-20), 3) := by decide +kernel
theorem dX4_allRot_36 : decode cX4_allRot 36 = .ok (.iload_n 1, 1) := by decide +kernel
theorem dX4_allRot_37 : decode cX4_allRot 37 = .ok (.ireturn, 1) := by decide +kernel
theorem dX4_counted_0 : decode cX4_counted 0 = .ok (.iload_n 1, 1) := by decide +kernel
theorem dX4_counted_1 : decode cX4_counted 1 = .ok (.tableswitch 73 0 5 #[39, 46, 51, 56, 61, 66], 39) := by decide +kernel
theorem dX4_counted_40 : decode cX4_counted 40 = .ok (.aload_n 0, 1) := by decide +kernel
theorem dX4_counted_41 : decode cX4_counted 41 = .ok (.getfield 22, 3) := by decide +kernel
theorem dX4_counted_44 : decode cX4_counted 44 = .ok (.iconst 0, 1) := by decide +kernel
theorem dX4_counted_45 : decode cX4_counted 45 = .ok (.iaload, 1) := by decide +kernel
theorem dX4_counted_46 : decode cX4_counted 46 = .ok (.ireturn, 1) := by decide +kernel
theorem dX4_counted_47 : decode cX4_counted 47 = .ok (.aload_n 0, 1) := by decide +kernel
theorem dX4_counted_48 : decode cX4_counted 48 = .ok (.getfield 33, 3) := by decide +kernel
theorem dX4_counted_51 : decode cX4_counted 51 = .ok (.ireturn, 1) := by decide +kernel
theorem dX4_counted_52 : decode cX4_counted 52 = .ok (.aload_n 0, 1) := by decide +kernel
theorem dX4_counted_53 : decode cX4_counted 53 = .ok (.invokevirtual 62, 3) := by decide +kernel
theorem dX4_counted_56 : decode cX4_counted 56 = .ok (.ireturn, 1) := by decide +kernel
theorem dX4_counted_57 : decode cX4_counted 57 = .ok (.aload_n 0, 1) := by decide +kernel
theorem dX4_counted_58 : decode cX4_counted 58 = .ok (.invokevirtual 115, 3) := by decide +kernel
theorem dX4_counted_61 : decode cX4_counted 61 = .ok (.ireturn, 1) := by decide +kernel
theorem dX4_counted_62 : decode cX4_counted 62 = .ok (.aload_n 0, 1) := by decide +kernel
theorem dX4_counted_63 : decode cX4_counted 63 = .ok (.invokevirtual 118, 3) := by decide +kernel
theorem dX4_counted_66 : decode cX4_counted 66 = .ok (.ireturn, 1) := by decide +kernel
theorem dX4_counted_67 : decode cX4_counted 67 = .ok (.aload_n 0, 1) := by decide +kernel
theorem dX4_counted_68 : decode cX4_counted 68 = .ok (.getfield 22, 3) := by decide +kernel
theorem dX4_counted_71 : decode cX4_counted 71 = .ok (.iconst 1, 1) := by decide +kernel
theorem dX4_counted_72 : decode cX4_counted 72 = .ok (.iaload, 1) := by decide +kernel
theorem dX4_counted_73 : decode cX4_counted 73 = .ok (.ireturn, 1) := by decide +kernel
theorem dX4_counted_74 : decode cX4_counted 74 = .ok (.aload_n 0, 1) := by decide +kernel
theorem dX4_counted_75 : decode cX4_counted 75 = .ok (.invokevirtual 121, 3) := by decide +kernel
theorem dX4_counted_78 : decode cX4_counted 78 = .ok (.ireturn, 1) := by decide +kernel
theorem dX4_count_0 : decode cX4_count 0 = .ok (.aload_n 0, 1) := by decide +kernel
theorem dX4_count_1 : decode cX4_count 1 = .ok (.iconst 0, 1) := by decide +kernel
theorem dX4_count_2 : decode cX4_count 2 = .ok (.putfield 29, 3) := by decide +kernel
theorem dX4_count_5 : decode cX4_count 5 = .ok (.iload_n 1, 1) := by decide +kernel
theorem dX4_count_6 : decode cX4_count 6 = .ok (.iconst 0, 1) := by decide +kernel
theorem dX4_count_7 : decode cX4_count 7 = .ok (.bipush 6, 2) := by decide +kernel
theorem dX4_count_9 : decode cX4_count 9 = .ok (.invokestatic 36, 3) := by decide +kernel
theorem dX4_count_12 : decode cX4_count 12 = .ok (.ifCond .eq 11, 3) := by decide +kernel
theorem dX4_count_15 : decode cX4_count 15 = .ok (.aload_n 0, 1) := by decide +kernel
theorem dX4_count_16 : decode cX4_count 16 = .ok (.iload_n 1, 1) := by decide +kernel
theorem dX4_count_17 : decode cX4_count 17 = .ok (.invokevirtual 124, 3) := by decide +kernel
theorem dX4_count_20 : decode cX4_count 20 = .ok (.goto 8, 3) := by decide +kernel
theorem dX4_count_23 : decode cX4_count 23 = .ok (.aload_n 0, 1) := by decide +kernel
theorem dX4_count_24 : decode cX4_count 24 = .ok (.iconst 1, 1) := by decide +kernel
theorem dX4_count_25 : decode cX4_count 25 = .ok (.invokevirtual 58, 3) := by decide +kernel
theorem dX4_count_28 : decode cX4_count 28 = .ok (.ireturn, 1) := by decide +kernel
theorem dX4_liftOf_0 : decode cX4_liftOf 0 = .ok (.iload_n 3, 1) := by decide +kernel
theorem dX4_liftOf_1 : decode cX4_liftOf 1 = .ok (.ifCond .eq 19, 3) := by decide +kernel
theorem dX4_liftOf_4 : decode cX4_liftOf 4 = .ok (.aload_n 0, 1) := by decide +kernel
theorem dX4_liftOf_5 : decode cX4_liftOf 5 = .ok (.iload_n 1, 1) := by decide +kernel
theorem dX4_liftOf_6 : decode cX4_liftOf 6 = .ok (.iconst 1, 1) := by decide +kernel
theorem dX4_liftOf_7 : decode cX4_liftOf 7 = .ok (.invokevirtual 40, 3) := by decide +kernel
theorem dX4_liftOf_10 : decode cX4_liftOf 10 = .ok (.aload_n 0, 1) := by decide +kernel
theorem dX4_liftOf_11 : decode cX4_liftOf 11 = .ok (.iload_n 1, 1) := by decide +kernel
theorem dX4_liftOf_12 : decode cX4_liftOf 12 = .ok (.iconst 2, 1) := by decide +kernel
theorem dX4_liftOf_13 : decode cX4_liftOf 13 = .ok (.invokevirtual 40, 3) := by decide +kernel
theorem dX4_liftOf_16 : decode cX4_liftOf 16 = .ok (.iadd, 1) := by decide +kernel
theorem dX4_liftOf_17 : decode cX4_liftOf 17 = .ok (.goto 11, 3) := by decide +kernel
theorem dX4_liftOf_20 : decode cX4_liftOf 20 = .ok (.aload_n 0, 1) := by decide +kernel
theorem dX4_liftOf_21 : decode cX4_liftOf 21 = .ok (.iload_n 1, 1) := by decide +kernel
theorem dX4_liftOf_22 : decode cX4_liftOf 22 = .ok (.iconst 1, 1) := by decide +kernel
theorem dX4_liftOf_23 : decode cX4_liftOf 23 = .ok (.invokevirtual 40, 3) := by decide +kernel
theorem dX4_liftOf_26 : decode cX4_liftOf 26 = .ok (.iconst 1, 1) := by decide +kernel
theorem dX4_liftOf_27 : decode cX4_liftOf 27 = .ok (.isub, 1) := by decide +kernel
theorem dX4_liftOf_28 : decode cX4_liftOf 28 = .ok (.istore 4, 2) := by decide +kernel
theorem dX4_liftOf_30 : decode cX4_liftOf 30 = .ok (.iload_n 2, 1) := by decide +kernel
theorem dX4_liftOf_31 : decode cX4_liftOf 31 = .ok (.aload_n 0, 1) := by decide +kernel
theorem dX4_liftOf_32 : decode cX4_liftOf 32 = .ok (.iload_n 1, 1) := by decide +kernel
theorem dX4_liftOf_33 : decode cX4_liftOf 33 = .ok (.iconst 0, 1) := by decide +kernel
theorem dX4_liftOf_34 : decode cX4_liftOf 34 = .ok (.invokevirtual 40, 3) := by decide +kernel
theorem dX4_liftOf_37 : decode cX4_liftOf 37 = .ok (.iadd, 1) := by decide +kernel
theorem dX4_liftOf_38 : decode cX4_liftOf 38 = .ok (.aload_n 0, 1) := by decide +kernel
theorem dX4_liftOf_39 : decode cX4_liftOf 39 = .ok (.iload 4, 2) := by decide +kernel
theorem dX4_liftOf_41 : decode cX4_liftOf 41 = .ok (.aload_n 0, 1) := by decide +kernel
theorem dX4_liftOf_42 : decode cX4_liftOf 42 = .ok (.iload_n 1, 1) := by decide +kernel
theorem dX4_liftOf_43 : decode cX4_liftOf 43 = .ok (.iconst 0, 1) := by decide +kernel
theorem dX4_liftOf_44 : decode cX4_liftOf 44 = .ok (.invokevirtual 40, 3) := by decide +kernel
theorem dX4_liftOf_47 : decode cX4_liftOf 47 = .ok (.invokevirtual 48, 3) := by decide +kernel
theorem dX4_liftOf_50 : decode cX4_liftOf 50 = .ok (.iconst (-1), 1) := by decide +kernel
theorem dX4_liftOf_51 : decode cX4_liftOf 51 = .ok (.if_icmp .ne 7, 3) := by decide +kernel
theorem dX4_liftOf_54 : decode cX4_liftOf 54 = .ok (.iconst 0, 1) := by decide +kernel
theorem dX4_liftOf_55 : decode cX4_liftOf 55 = .ok (.goto 4, 3) := by decide +kernel
theorem dX4_liftOf_58 : decode cX4_liftOf 58 = .ok (.iconst 2, 1) := by decide +kernel
theorem dX4_liftOf_59 : decode cX4_liftOf 59 = .ok (.isub, 1) := by decide +kernel
theorem dX4_liftOf_60 : decode cX4_liftOf 60 = .ok (.ireturn, 1) := by decide +kernel
theorem dX4_lift_0 : decode cX4_lift 0 = .ok (.aload_n 0, 1) := by decide +kernel
theorem dX4_lift_1 : decode cX4_lift 1 = .ok (.iconst 0, 1) := by decide +kernel
theorem dX4_lift_2 : decode cX4_lift 2 = .ok (.putfield 29, 3) := by decide +kernel
theorem dX4_lift_5 : decode cX4_lift 5 = .ok (.aload_n 0, 1) := by decide +kernel
theorem dX4_lift_6 : decode cX4_lift 6 = .ok (.iload_n 1, 1) := by decide +kernel
theorem dX4_lift_7 : decode cX4_lift 7 = .ok (.invokevirtual 83, 3) := by decide +kernel
theorem dX4_lift_10 : decode cX4_lift 10 = .ok (.ifCond .ne 9, 3) := by decide +kernel
theorem dX4_lift_13 : decode cX4_lift 13 = .ok (.aload_n 0, 1) := by decide +kernel
theorem dX4_lift_14 : decode cX4_lift 14 = .ok (.iconst 1, 1) := by decide +kernel
theorem dX4_lift_15 : decode cX4_lift 15 = .ok (.invokevirtual 58, 3) := by decide +kernel
theorem dX4_lift_18 : decode cX4_lift 18 = .ok (.ireturn, 1) := by decide +kernel
theorem dX4_lift_19 : decode cX4_lift 19 = .ok (.iload_n 2, 1) := by decide +kernel
theorem dX4_lift_20 : decode cX4_lift 20 = .ok (.iconst 0, 1) := by decide +kernel
theorem dX4_lift_21 : decode cX4_lift 21 = .ok (.bipush 20, 2) := by decide +kernel
theorem dX4_lift_23 : decode cX4_lift 23 = .ok (.invokestatic 36, 3) := by decide +kernel
theorem dX4_lift_26 : decode cX4_lift 26 = .ok (.ifCond .ne 9, 3) := by decide +kernel
theorem dX4_lift_29 : decode cX4_lift 29 = .ok (.aload_n 0, 1) := by decide +kernel
theorem dX4_lift_30 : decode cX4_lift 30 = .ok (.iconst 2, 1) := by decide +kernel
theorem dX4_lift_31 : decode cX4_lift 31 = .ok (.invokevirtual 58, 3) := by decide +kernel
theorem dX4_lift_34 : decode cX4_lift 34 = .ok (.ireturn, 1) := by decide +kernel
theorem dX4_lift_35 : decode cX4_lift 35 = .ok (.aload_n 0, 1) := by decide +kernel
theorem dX4_lift_36 : decode cX4_lift 36 = .ok (.iload_n 1, 1) := by decide +kernel
theorem dX4_lift_37 : decode cX4_lift 37 = .ok (.invokevirtual 87, 3) := by decide +kernel
theorem dX4_lift_40 : decode cX4_lift 40 = .ok (.ifCond .eq 13, 3) := by decide +kernel
theorem dX4_lift_43 : decode cX4_lift 43 = .ok (.aload_n 0, 1) := by decide +kernel
theorem dX4_lift_44 : decode cX4_lift 44 = .ok (.iload_n 1, 1) := by decide +kernel
theorem dX4_lift_45 : decode cX4_lift 45 = .ok (.iload_n 2, 1) := by decide +kernel
theorem dX4_lift_46 : decode cX4_lift 46 = .ok (.iload_n 3, 1) := by decide +kernel
theorem dX4_lift_47 : decode cX4_lift 47 = .ok (.invokevirtual 127, 3) := by decide +kernel
theorem dX4_lift_50 : decode cX4_lift 50 = .ok (.goto 8, 3) := by decide +kernel
theorem dX4_lift_53 : decode cX4_lift 53 = .ok (.aload_n 0, 1) := by decide +kernel
theorem dX4_lift_54 : decode cX4_lift 54 = .ok (.iconst 3, 1) := by decide +kernel
theorem dX4_lift_55 : decode cX4_lift 55 = .ok (.invokevirtual 58, 3) := by decide +kernel
theorem dX4_lift_58 : decode cX4_lift 58 = .ok (.ireturn, 1) := by decide +kernel
theorem dX4_round_0 : decode cX4_round 0 = .ok (.iconst 0, 1) := by decide +kernel
theorem dX4_round_1 : decode cX4_round 1 = .ok (.istore_n 3, 1) := by decide +kernel
theorem dX4_round_2 : decode cX4_round 2 = .ok (.iconst 0, 1) := by decide +kernel
theorem dX4_round_3 : decode cX4_round 3 = .ok (.istore 4, 2) := by decide +kernel
theorem dX4_round_5 : decode cX4_round 5 = .ok (.iload 4, 2) := by decide +kernel
theorem dX4_round_7 : decode cX4_round 7 = .ok (.aload_n 0, 1) := by decide +kernel
theorem dX4_round_8 : decode cX4_round 8 = .ok (.getfield 33, 3) := by decide +kernel
theorem dX4_round_11 : decode cX4_round 11 = .ok (.if_icmp .ge 47, 3) := by decide +kernel
theorem dX4_round_14 : decode cX4_round 14 = .ok (.aload_n 0, 1) := by decide +kernel
theorem dX4_round_15 : decode cX4_round 15 = .ok (.getfield 25, 3) := by decide +kernel
theorem dX4_round_18 : decode cX4_round 18 = .ok (.iload 4, 2) := by decide +kernel
theorem dX4_round_20 : decode cX4_round 20 = .ok (.aload_n 0, 1) := by decide +kernel
theorem dX4_round_21 : decode cX4_round 21 = .ok (.iload 4, 2) := by decide +kernel
theorem dX4_round_23 : decode cX4_round 23 = .ok (.invokevirtual 87, 3) := by decide +kernel
theorem dX4_round_26 : decode cX4_round 26 = .ok (.ifCond .eq 24, 3) := by decide +kernel
theorem dX4_round_29 : decode cX4_round 29 = .ok (.aload_n 0, 1) := by decide +kernel
theorem dX4_round_30 : decode cX4_round 30 = .ok (.iload 4, 2) := by decide +kernel
theorem dX4_round_32 : decode cX4_round 32 = .ok (.iload_n 1, 1) := by decide +kernel
theorem dX4_round_33 : decode cX4_round 33 = .ok (.iload_n 2, 1) := by decide +kernel
theorem dX4_round_34 : decode cX4_round 34 = .ok (.invokevirtual 127, 3) := by decide +kernel
theorem dX4_round_37 : decode cX4_round 37 = .ok (.aload_n 0, 1) := by decide +kernel
theorem dX4_round_38 : decode cX4_round 38 = .ok (.iload 4, 2) := by decide +kernel
theorem dX4_round_40 : decode cX4_round 40 = .ok (.invokevirtual 100, 3) := by decide +kernel
theorem dX4_round_43 : decode cX4_round 43 = .ok (.if_icmp .le 7, 3) := by decide +kernel
theorem dX4_round_46 : decode cX4_round 46 = .ok (.iconst 1, 1) := by decide +kernel
theorem dX4_round_47 : decode cX4_round 47 = .ok (.goto 4, 3) := by decide +kernel
theorem dX4_round_50 : decode cX4_round 50 = .ok (.iconst 0, 1) := by decide +kernel
theorem dX4_round_51 : decode cX4_round 51 = .ok (.bastore, 1) := by decide +kernel
theorem dX4_round_52 : decode cX4_round 52 = .ok (.iinc 4 1, 3) := by decide +kernel
theorem dX4_round_55 : decode cX4_round 55 = .ok (.goto (-50), 3) := by decide +kernel
theorem dX4_round_58 : decode cX4_round 58 = .ok (.iconst 0, 1) := by decide +kernel
theorem dX4_round_59 : decode cX4_round 59 = .ok (.istore 4, 2) := by decide +kernel
theorem dX4_round_61 : decode cX4_round 61 = .ok (.iload 4, 2) := by decide +kernel
theorem dX4_round_63 : decode cX4_round 63 = .ok (.aload_n 0, 1) := by decide +kernel
theorem dX4_round_64 : decode cX4_round 64 = .ok (.getfield 33, 3) := by decide +kernel
theorem dX4_round_67 : decode cX4_round 67 = .ok (.if_icmp .ge 31, 3) := by decide +kernel
theorem dX4_round_70 : decode cX4_round 70 = .ok (.aload_n 0, 1) := by decide +kernel
theorem dX4_round_71 : decode cX4_round 71 = .ok (.getfield 25, 3) := by decide +kernel
theorem dX4_round_74 : decode cX4_round 74 = .ok (.iload 4, 2) := by decide +kernel
theorem dX4_round_76 : decode cX4_round 76 = .ok (.baload, 1) := by decide +kernel
theorem dX4_round_77 : decode cX4_round 77 = .ok (.ifCond .ne 6, 3) := by decide +kernel
theorem dX4_round_80 : decode cX4_round 80 = .ok (.goto 12, 3) := by decide +kernel
theorem dX4_round_83 : decode cX4_round 83 = .ok (.aload_n 0, 1) := by decide +kernel
theorem dX4_round_84 : decode cX4_round 84 = .ok (.iload 4, 2) := by decide +kernel
theorem dX4_round_86 : decode cX4_round 86 = .ok (.invokevirtual 93, 3) := by decide +kernel
theorem dX4_round_89 : decode cX4_round 89 = .ok (.iinc 3 1, 3) := by decide +kernel
theorem dX4_round_92 : decode cX4_round 92 = .ok (.iinc 4 1, 3) := by decide +kernel
theorem dX4_round_95 : decode cX4_round 95 = .ok (.goto (-34), 3) := by decide +kernel
theorem dX4_round_98 : decode cX4_round 98 = .ok (.aload_n 0, 1) := by decide +kernel
theorem dX4_round_99 : decode cX4_round 99 = .ok (.getfield 22, 3) := by decide +kernel
theorem dX4_round_102 : decode cX4_round 102 = .ok (.iconst 1, 1) := by decide +kernel
theorem dX4_round_103 : decode cX4_round 103 = .ok (.dup2, 1) := by decide +kernel
theorem dX4_round_104 : decode cX4_round 104 = .ok (.iaload, 1) := by decide +kernel
theorem dX4_round_105 : decode cX4_round 105 = .ok (.iload_n 3, 1) := by decide +kernel
theorem dX4_round_106 : decode cX4_round 106 = .ok (.iadd, 1) := by decide +kernel
theorem dX4_round_107 : decode cX4_round 107 = .ok (.iastore, 1) := by decide +kernel
theorem dX4_round_108 : decode cX4_round 108 = .ok (.iload_n 3, 1) := by decide +kernel
theorem dX4_round_109 : decode cX4_round 109 = .ok (.ireturn, 1) := by decide +kernel
theorem dX4_blow_0 : decode cX4_blow 0 = .ok (.iload_n 1, 1) := by decide +kernel
theorem dX4_blow_1 : decode cX4_blow 1 = .ok (.ifCond .ne 5, 3) := by decide +kernel
theorem dX4_blow_4 : decode cX4_blow 4 = .ok (.iconst 0, 1) := by decide +kernel
theorem dX4_blow_5 : decode cX4_blow 5 = .ok (.ireturn, 1) := by decide +kernel
theorem dX4_blow_6 : decode cX4_blow 6 = .ok (.iconst 1, 1) := by decide +kernel
theorem dX4_blow_7 : decode cX4_blow 7 = .ok (.istore_n 3, 1) := by decide +kernel
theorem dX4_blow_8 : decode cX4_blow 8 = .ok (.aload_n 0, 1) := by decide +kernel
theorem dX4_blow_9 : decode cX4_blow 9 = .ok (.iload_n 1, 1) := by decide +kernel
theorem dX4_blow_10 : decode cX4_blow 10 = .ok (.iload_n 2, 1) := by decide +kernel
theorem dX4_blow_11 : decode cX4_blow 11 = .ok (.invokevirtual 131, 3) := by decide +kernel
theorem dX4_blow_14 : decode cX4_blow 14 = .ok (.ifCond .le 9, 3) := by decide +kernel
theorem dX4_blow_17 : decode cX4_blow 17 = .ok (.iinc 3 1, 3) := by decide +kernel
theorem dX4_blow_20 : decode cX4_blow 20 = .ok (.goto (-12), 3) := by decide +kernel
theorem dX4_blow_23 : decode cX4_blow 23 = .ok (.iload_n 3, 1) := by decide +kernel
theorem dX4_blow_24 : decode cX4_blow 24 = .ok (.ireturn, 1) := by decide +kernel
theorem dX4_kept_0 : decode cX4_kept 0 = .ok (.iconst 4, 1) := by decide +kernel
theorem dX4_kept_1 : decode cX4_kept 1 = .ok (.anewarray 135, 3) := by decide +kernel
theorem dX4_kept_4 : decode cX4_kept 4 = .ok (.dup, 1) := by decide +kernel
theorem dX4_kept_5 : decode cX4_kept 5 = .ok (.iconst 0, 1) := by decide +kernel
theorem dX4_kept_6 : decode cX4_kept 6 = .ok (.aload_n 0, 1) := by decide +kernel
theorem dX4_kept_7 : decode cX4_kept 7 = .ok (.getfield 9, 3) := by decide +kernel
theorem dX4_kept_10 : decode cX4_kept 10 = .ok (.invokevirtual 136, 3) := by decide +kernel
theorem dX4_kept_13 : decode cX4_kept 13 = .ok (.checkcast 135, 3) := by decide +kernel
theorem dX4_kept_16 : decode cX4_kept 16 = .ok (.aastore, 1) := by decide +kernel
theorem dX4_kept_17 : decode cX4_kept 17 = .ok (.dup, 1) := by decide +kernel
theorem dX4_kept_18 : decode cX4_kept 18 = .ok (.iconst 1, 1) := by decide +kernel
theorem dX4_kept_19 : decode cX4_kept 19 = .ok (.aload_n 0, 1) := by decide +kernel
theorem dX4_kept_20 : decode cX4_kept 20 = .ok (.getfield 13, 3) := by decide +kernel
theorem dX4_kept_23 : decode cX4_kept 23 = .ok (.invokevirtual 136, 3) := by decide +kernel
theorem dX4_kept_26 : decode cX4_kept 26 = .ok (.checkcast 135, 3) := by decide +kernel
theorem dX4_kept_29 : decode cX4_kept 29 = .ok (.aastore, 1) := by decide +kernel
theorem dX4_kept_30 : decode cX4_kept 30 = .ok (.dup, 1) := by decide +kernel
theorem dX4_kept_31 : decode cX4_kept 31 = .ok (.iconst 2, 1) := by decide +kernel
theorem dX4_kept_32 : decode cX4_kept 32 = .ok (.aload_n 0, 1) := by decide +kernel
theorem dX4_kept_33 : decode cX4_kept 33 = .ok (.getfield 16, 3) := by decide +kernel
theorem dX4_kept_36 : decode cX4_kept 36 = .ok (.invokevirtual 136, 3) := by decide +kernel
theorem dX4_kept_39 : decode cX4_kept 39 = .ok (.checkcast 135, 3) := by decide +kernel
theorem dX4_kept_42 : decode cX4_kept 42 = .ok (.aastore, 1) := by decide +kernel
theorem dX4_kept_43 : decode cX4_kept 43 = .ok (.dup, 1) := by decide +kernel
theorem dX4_kept_44 : decode cX4_kept 44 = .ok (.iconst 3, 1) := by decide +kernel
theorem dX4_kept_45 : decode cX4_kept 45 = .ok (.aload_n 0, 1) := by decide +kernel
theorem dX4_kept_46 : decode cX4_kept 46 = .ok (.getfield 22, 3) := by decide +kernel
theorem dX4_kept_49 : decode cX4_kept 49 = .ok (.invokevirtual 136, 3) := by decide +kernel
theorem dX4_kept_52 : decode cX4_kept 52 = .ok (.checkcast 135, 3) := by decide +kernel
theorem dX4_kept_55 : decode cX4_kept 55 = .ok (.aastore, 1) := by decide +kernel
theorem dX4_kept_56 : decode cX4_kept 56 = .ok (.areturn, 1) := by decide +kernel
theorem dX4_bringBack_0 : decode cX4_bringBack 0 = .ok (.iconst 4, 1) := by decide +kernel
theorem dX4_bringBack_1 : decode cX4_bringBack 1 = .ok (.anewarray 135, 3) := by decide +kernel
theorem dX4_bringBack_4 : decode cX4_bringBack 4 = .ok (.dup, 1) := by decide +kernel
theorem dX4_bringBack_5 : decode cX4_bringBack 5 = .ok (.iconst 0, 1) := by decide +kernel
theorem dX4_bringBack_6 : decode cX4_bringBack 6 = .ok (.aload_n 0, 1) := by decide +kernel
theorem dX4_bringBack_7 : decode cX4_bringBack 7 = .ok (.getfield 9, 3) := by decide +kernel
theorem dX4_bringBack_10 : decode cX4_bringBack 10 = .ok (.aastore, 1) := by decide +kernel
theorem dX4_bringBack_11 : decode cX4_bringBack 11 = .ok (.dup, 1) := by decide +kernel
theorem dX4_bringBack_12 : decode cX4_bringBack 12 = .ok (.iconst 1, 1) := by decide +kernel
theorem dX4_bringBack_13 : decode cX4_bringBack 13 = .ok (.aload_n 0, 1) := by decide +kernel
theorem dX4_bringBack_14 : decode cX4_bringBack 14 = .ok (.getfield 13, 3) := by decide +kernel
theorem dX4_bringBack_17 : decode cX4_bringBack 17 = .ok (.aastore, 1) := by decide +kernel
theorem dX4_bringBack_18 : decode cX4_bringBack 18 = .ok (.dup, 1) := by decide +kernel
theorem dX4_bringBack_19 : decode cX4_bringBack 19 = .ok (.iconst 2, 1) := by decide +kernel
theorem dX4_bringBack_20 : decode cX4_bringBack 20 = .ok (.aload_n 0, 1) := by decide +kernel
theorem dX4_bringBack_21 : decode cX4_bringBack 21 = .ok (.getfield 16, 3) := by decide +kernel
theorem dX4_bringBack_24 : decode cX4_bringBack 24 = .ok (.aastore, 1) := by decide +kernel
theorem dX4_bringBack_25 : decode cX4_bringBack 25 = .ok (.dup, 1) := by decide +kernel
theorem dX4_bringBack_26 : decode cX4_bringBack 26 = .ok (.iconst 3, 1) := by decide +kernel
theorem dX4_bringBack_27 : decode cX4_bringBack 27 = .ok (.aload_n 0, 1) := by decide +kernel
theorem dX4_bringBack_28 : decode cX4_bringBack 28 = .ok (.getfield 22, 3) := by decide +kernel
theorem dX4_bringBack_31 : decode cX4_bringBack 31 = .ok (.aastore, 1) := by decide +kernel
theorem dX4_bringBack_32 : decode cX4_bringBack 32 = .ok (.astore_n 2, 1) := by decide +kernel
theorem dX4_bringBack_33 : decode cX4_bringBack 33 = .ok (.iconst 0, 1) := by decide +kernel
theorem dX4_bringBack_34 : decode cX4_bringBack 34 = .ok (.istore_n 3, 1) := by decide +kernel
theorem dX4_bringBack_35 : decode cX4_bringBack 35 = .ok (.iload_n 3, 1) := by decide +kernel
theorem dX4_bringBack_36 : decode cX4_bringBack 36 = .ok (.aload_n 2, 1) := by decide +kernel
theorem dX4_bringBack_37 : decode cX4_bringBack 37 = .ok (.arraylength, 1) := by decide +kernel
theorem dX4_bringBack_38 : decode cX4_bringBack 38 = .ok (.if_icmp .ge 24, 3) := by decide +kernel
theorem dX4_bringBack_41 : decode cX4_bringBack 41 = .ok (.aload_n 1, 1) := by decide +kernel
theorem dX4_bringBack_42 : decode cX4_bringBack 42 = .ok (.iload_n 3, 1) := by decide +kernel
theorem dX4_bringBack_43 : decode cX4_bringBack 43 = .ok (.aaload, 1) := by decide +kernel
theorem dX4_bringBack_44 : decode cX4_bringBack 44 = .ok (.iconst 0, 1) := by decide +kernel
theorem dX4_bringBack_45 : decode cX4_bringBack 45 = .ok (.aload_n 2, 1) := by decide +kernel
theorem dX4_bringBack_46 : decode cX4_bringBack 46 = .ok (.iload_n 3, 1) := by decide +kernel
theorem dX4_bringBack_47 : decode cX4_bringBack 47 = .ok (.aaload, 1) := by decide +kernel
theorem dX4_bringBack_48 : decode cX4_bringBack 48 = .ok (.iconst 0, 1) := by decide +kernel
theorem dX4_bringBack_49 : decode cX4_bringBack 49 = .ok (.aload_n 2, 1) := by decide +kernel
theorem dX4_bringBack_50 : decode cX4_bringBack 50 = .ok (.iload_n 3, 1) := by decide +kernel
theorem dX4_bringBack_51 : decode cX4_bringBack 51 = .ok (.aaload, 1) := by decide +kernel
theorem dX4_bringBack_52 : decode cX4_bringBack 52 = .ok (.arraylength, 1) := by decide +kernel
theorem dX4_bringBack_53 : decode cX4_bringBack 53 = .ok (.invokestatic 69, 3) := by decide +kernel
theorem dX4_bringBack_56 : decode cX4_bringBack 56 = .ok (.iinc 3 1, 3) := by decide +kernel
theorem dX4_bringBack_59 : decode cX4_bringBack 59 = .ok (.goto (-24), 3) := by decide +kernel
theorem dX4_bringBack_62 : decode cX4_bringBack 62 = .ok (.return_, 1) := by decide +kernel
theorem dX4_would_0 : decode cX4_would 0 = .ok (.aload_n 0, 1) := by decide +kernel
theorem dX4_would_1 : decode cX4_would 1 = .ok (.invokevirtual 140, 3) := by decide +kernel
theorem dX4_would_4 : decode cX4_would 4 = .ok (.astore 4, 2) := by decide +kernel
theorem dX4_would_6 : decode cX4_would 6 = .ok (.aload_n 0, 1) := by decide +kernel
theorem dX4_would_7 : decode cX4_would 7 = .ok (.getfield 22, 3) := by decide +kernel
theorem dX4_would_10 : decode cX4_would 10 = .ok (.iconst 1, 1) := by decide +kernel
theorem dX4_would_11 : decode cX4_would 11 = .ok (.iaload, 1) := by decide +kernel
theorem dX4_would_12 : decode cX4_would 12 = .ok (.istore 5, 2) := by decide +kernel
theorem dX4_would_14 : decode cX4_would 14 = .ok (.aload_n 0, 1) := by decide +kernel
theorem dX4_would_15 : decode cX4_would 15 = .ok (.iload_n 1, 1) := by decide +kernel
theorem dX4_would_16 : decode cX4_would 16 = .ok (.iload_n 2, 1) := by decide +kernel
theorem dX4_would_17 : decode cX4_would 17 = .ok (.invokevirtual 144, 3) := by decide +kernel
theorem dX4_would_20 : decode cX4_would 20 = .ok (.istore 6, 2) := by decide +kernel
theorem dX4_would_22 : decode cX4_would 22 = .ok (.iload_n 3, 1) := by decide +kernel
theorem dX4_would_23 : decode cX4_would 23 = .ok (.ifCond .ne 15, 3) := by decide +kernel
theorem dX4_would_26 : decode cX4_would 26 = .ok (.aload_n 0, 1) := by decide +kernel
theorem dX4_would_27 : decode cX4_would 27 = .ok (.getfield 22, 3) := by decide +kernel
theorem dX4_would_30 : decode cX4_would 30 = .ok (.iconst 1, 1) := by decide +kernel
theorem dX4_would_31 : decode cX4_would 31 = .ok (.iaload, 1) := by decide +kernel
theorem dX4_would_32 : decode cX4_would 32 = .ok (.iload 5, 2) := by decide +kernel
theorem dX4_would_34 : decode cX4_would 34 = .ok (.isub, 1) := by decide +kernel
theorem dX4_would_35 : decode cX4_would 35 = .ok (.goto 17, 3) := by decide +kernel
theorem dX4_would_38 : decode cX4_would 38 = .ok (.iload_n 3, 1) := by decide +kernel
theorem dX4_would_39 : decode cX4_would 39 = .ok (.iconst 1, 1) := by decide +kernel
theorem dX4_would_40 : decode cX4_would 40 = .ok (.if_icmp .ne 8, 3) := by decide +kernel
theorem dX4_would_43 : decode cX4_would 43 = .ok (.iload 6, 2) := by decide +kernel
theorem dX4_would_45 : decode cX4_would 45 = .ok (.goto 7, 3) := by decide +kernel
theorem dX4_would_48 : decode cX4_would 48 = .ok (.aload_n 0, 1) := by decide +kernel
theorem dX4_would_49 : decode cX4_would 49 = .ok (.invokevirtual 118, 3) := by decide +kernel
theorem dX4_would_52 : decode cX4_would 52 = .ok (.istore 7, 2) := by decide +kernel
theorem dX4_would_54 : decode cX4_would 54 = .ok (.aload_n 0, 1) := by decide +kernel
theorem dX4_would_55 : decode cX4_would 55 = .ok (.aload 4, 2) := by decide +kernel
theorem dX4_would_57 : decode cX4_would 57 = .ok (.invokevirtual 147, 3) := by decide +kernel
theorem dX4_would_60 : decode cX4_would 60 = .ok (.iload 7, 2) := by decide +kernel
theorem dX4_would_62 : decode cX4_would 62 = .ok (.ireturn, 1) := by decide +kernel
theorem dX4_storm_0 : decode cX4_storm 0 = .ok (.aload_n 0, 1) := by decide +kernel
theorem dX4_storm_1 : decode cX4_storm 1 = .ok (.iconst 0, 1) := by decide +kernel
theorem dX4_storm_2 : decode cX4_storm 2 = .ok (.putfield 29, 3) := by decide +kernel
theorem dX4_storm_5 : decode cX4_storm 5 = .ok (.iload_n 1, 1) := by decide +kernel
theorem dX4_storm_6 : decode cX4_storm 6 = .ok (.iconst 0, 1) := by decide +kernel
theorem dX4_storm_7 : decode cX4_storm 7 = .ok (.bipush 20, 2) := by decide +kernel
theorem dX4_storm_9 : decode cX4_storm 9 = .ok (.invokestatic 36, 3) := by decide +kernel
theorem dX4_storm_12 : decode cX4_storm 12 = .ok (.ifCond .ne 9, 3) := by decide +kernel
theorem dX4_storm_15 : decode cX4_storm 15 = .ok (.aload_n 0, 1) := by decide +kernel
theorem dX4_storm_16 : decode cX4_storm 16 = .ok (.iconst 1, 1) := by decide +kernel
theorem dX4_storm_17 : decode cX4_storm 17 = .ok (.invokevirtual 58, 3) := by decide +kernel
theorem dX4_storm_20 : decode cX4_storm 20 = .ok (.ireturn, 1) := by decide +kernel
theorem dX4_storm_21 : decode cX4_storm 21 = .ok (.iload_n 3, 1) := by decide +kernel
theorem dX4_storm_22 : decode cX4_storm 22 = .ok (.iconst 0, 1) := by decide +kernel
theorem dX4_storm_23 : decode cX4_storm 23 = .ok (.iconst 2, 1) := by decide +kernel
theorem dX4_storm_24 : decode cX4_storm 24 = .ok (.invokestatic 36, 3) := by decide +kernel
theorem dX4_storm_27 : decode cX4_storm 27 = .ok (.ifCond .eq 13, 3) := by decide +kernel
theorem dX4_storm_30 : decode cX4_storm 30 = .ok (.aload_n 0, 1) := by decide +kernel
theorem dX4_storm_31 : decode cX4_storm 31 = .ok (.iload_n 1, 1) := by decide +kernel
theorem dX4_storm_32 : decode cX4_storm 32 = .ok (.iload_n 2, 1) := by decide +kernel
theorem dX4_storm_33 : decode cX4_storm 33 = .ok (.iload_n 3, 1) := by decide +kernel
theorem dX4_storm_34 : decode cX4_storm 34 = .ok (.invokevirtual 151, 3) := by decide +kernel
theorem dX4_storm_37 : decode cX4_storm 37 = .ok (.goto 8, 3) := by decide +kernel
theorem dX4_storm_40 : decode cX4_storm 40 = .ok (.aload_n 0, 1) := by decide +kernel
theorem dX4_storm_41 : decode cX4_storm 41 = .ok (.iconst 2, 1) := by decide +kernel
theorem dX4_storm_42 : decode cX4_storm 42 = .ok (.invokevirtual 58, 3) := by decide +kernel
theorem dX4_storm_45 : decode cX4_storm 45 = .ok (.ireturn, 1) := by decide +kernel
theorem dX4_bears_0 : decode cX4_bears 0 = .ok (.aload_n 0, 1) := by decide +kernel
theorem dX4_bears_1 : decode cX4_bears 1 = .ok (.iconst 0, 1) := by decide +kernel
theorem dX4_bears_2 : decode cX4_bears 2 = .ok (.putfield 29, 3) := by decide +kernel
theorem dX4_bears_5 : decode cX4_bears 5 = .ok (.iconst 0, 1) := by decide +kernel
theorem dX4_bears_6 : decode cX4_bears 6 = .ok (.istore_n 2, 1) := by decide +kernel
theorem dX4_bears_7 : decode cX4_bears 7 = .ok (.iload_n 2, 1) := by decide +kernel
theorem dX4_bears_8 : decode cX4_bears 8 = .ok (.bipush 20, 2) := by decide +kernel
theorem dX4_bears_10 : decode cX4_bears 10 = .ok (.if_icmp .ge 21, 3) := by decide +kernel
theorem dX4_bears_13 : decode cX4_bears 13 = .ok (.aload_n 0, 1) := by decide +kernel
theorem dX4_bears_14 : decode cX4_bears 14 = .ok (.iload_n 2, 1) := by decide +kernel
theorem dX4_bears_15 : decode cX4_bears 15 = .ok (.iconst 1, 1) := by decide +kernel
theorem dX4_bears_16 : decode cX4_bears 16 = .ok (.iadd, 1) := by decide +kernel
theorem dX4_bears_17 : decode cX4_bears 17 = .ok (.iload_n 1, 1) := by decide +kernel
theorem dX4_bears_18 : decode cX4_bears 18 = .ok (.iconst 0, 1) := by decide +kernel
theorem dX4_bears_19 : decode cX4_bears 19 = .ok (.invokevirtual 151, 3) := by decide +kernel
theorem dX4_bears_22 : decode cX4_bears 22 = .ok (.ifCond .ne 9, 3) := by decide +kernel
theorem dX4_bears_25 : decode cX4_bears 25 = .ok (.iinc 2 1, 3) := by decide +kernel
theorem dX4_bears_28 : decode cX4_bears 28 = .ok (.goto (-21), 3) := by decide +kernel
theorem dX4_bears_31 : decode cX4_bears 31 = .ok (.iload_n 2, 1) := by decide +kernel
theorem dX4_bears_32 : decode cX4_bears 32 = .ok (.ireturn, 1) := by decide +kernel
theorem dX4_comesIn_0 : decode cX4_comesIn 0 = .ok (.iconst 0, 1) := by decide +kernel
theorem dX4_comesIn_1 : decode cX4_comesIn 1 = .ok (.istore 4, 2) := by decide +kernel
theorem dX4_comesIn_3 : decode cX4_comesIn 3 = .ok (.bipush 7, 2) := by decide +kernel
theorem dX4_comesIn_5 : decode cX4_comesIn 5 = .ok (.istore 5, 2) := by decide +kernel
theorem dX4_comesIn_7 : decode cX4_comesIn 7 = .ok (.iload 5, 2) := by decide +kernel
theorem dX4_comesIn_9 : decode cX4_comesIn 9 = .ok (.iload_n 3, 1) := by decide +kernel
theorem dX4_comesIn_10 : decode cX4_comesIn 10 = .ok (.if_icmp .lt 31, 3) := by decide +kernel
theorem dX4_comesIn_13 : decode cX4_comesIn 13 = .ok (.aload_n 0, 1) := by decide +kernel
theorem dX4_comesIn_14 : decode cX4_comesIn 14 = .ok (.iload_n 2, 1) := by decide +kernel
theorem dX4_comesIn_15 : decode cX4_comesIn 15 = .ok (.iload 5, 2) := by decide +kernel
theorem dX4_comesIn_17 : decode cX4_comesIn 17 = .ok (.invokevirtual 109, 3) := by decide +kernel
theorem dX4_comesIn_20 : decode cX4_comesIn 20 = .ok (.ifCond .eq 7, 3) := by decide +kernel
theorem dX4_comesIn_23 : decode cX4_comesIn 23 = .ok (.iconst 0, 1) := by decide +kernel
theorem dX4_comesIn_24 : decode cX4_comesIn 24 = .ok (.goto 9, 3) := by decide +kernel
theorem dX4_comesIn_27 : decode cX4_comesIn 27 = .ok (.iload_n 1, 1) := by decide +kernel
theorem dX4_comesIn_28 : decode cX4_comesIn 28 = .ok (.iload 4, 2) := by decide +kernel
theorem dX4_comesIn_30 : decode cX4_comesIn 30 = .ok (.iconst 2, 1) := by decide +kernel
theorem dX4_comesIn_31 : decode cX4_comesIn 31 = .ok (.idiv, 1) := by decide +kernel
theorem dX4_comesIn_32 : decode cX4_comesIn 32 = .ok (.iadd, 1) := by decide +kernel
theorem dX4_comesIn_33 : decode cX4_comesIn 33 = .ok (.istore 4, 2) := by decide +kernel
theorem dX4_comesIn_35 : decode cX4_comesIn 35 = .ok (.iinc 5 (-1), 3) := by decide +kernel
theorem dX4_comesIn_38 : decode cX4_comesIn 38 = .ok (.goto (-31), 3) := by decide +kernel
theorem dX4_comesIn_41 : decode cX4_comesIn 41 = .ok (.iload 4, 2) := by decide +kernel
theorem dX4_comesIn_43 : decode cX4_comesIn 43 = .ok (.ireturn, 1) := by decide +kernel
theorem dX4_comes_0 : decode cX4_comes 0 = .ok (.aload_n 0, 1) := by decide +kernel
theorem dX4_comes_1 : decode cX4_comes 1 = .ok (.iconst 0, 1) := by decide +kernel
theorem dX4_comes_2 : decode cX4_comes 2 = .ok (.putfield 29, 3) := by decide +kernel
theorem dX4_comes_5 : decode cX4_comes 5 = .ok (.iload_n 1, 1) := by decide +kernel
theorem dX4_comes_6 : decode cX4_comes 6 = .ok (.iconst 0, 1) := by decide +kernel
theorem dX4_comes_7 : decode cX4_comes 7 = .ok (.bipush 9, 2) := by decide +kernel
theorem dX4_comes_9 : decode cX4_comes 9 = .ok (.invokestatic 36, 3) := by decide +kernel
theorem dX4_comes_12 : decode cX4_comes 12 = .ok (.ifCond .ne 9, 3) := by decide +kernel
theorem dX4_comes_15 : decode cX4_comes 15 = .ok (.aload_n 0, 1) := by decide +kernel
theorem dX4_comes_16 : decode cX4_comes 16 = .ok (.iconst 1, 1) := by decide +kernel
theorem dX4_comes_17 : decode cX4_comes 17 = .ok (.invokevirtual 58, 3) := by decide +kernel
theorem dX4_comes_20 : decode cX4_comes 20 = .ok (.ireturn, 1) := by decide +kernel
theorem dX4_comes_21 : decode cX4_comes 21 = .ok (.iload_n 2, 1) := by decide +kernel
theorem dX4_comes_22 : decode cX4_comes 22 = .ok (.iload_n 3, 1) := by decide +kernel
theorem dX4_comes_23 : decode cX4_comes 23 = .ok (.invokestatic 44, 3) := by decide +kernel
theorem dX4_comes_26 : decode cX4_comes 26 = .ok (.ifCond .eq 13, 3) := by decide +kernel
theorem dX4_comes_29 : decode cX4_comes 29 = .ok (.aload_n 0, 1) := by decide +kernel
theorem dX4_comes_30 : decode cX4_comes 30 = .ok (.iload_n 1, 1) := by decide +kernel
theorem dX4_comes_31 : decode cX4_comes 31 = .ok (.iload_n 2, 1) := by decide +kernel
theorem dX4_comes_32 : decode cX4_comes 32 = .ok (.iload_n 3, 1) := by decide +kernel
theorem dX4_comes_33 : decode cX4_comes 33 = .ok (.invokevirtual 155, 3) := by decide +kernel
theorem dX4_comes_36 : decode cX4_comes 36 = .ok (.goto 8, 3) := by decide +kernel
theorem dX4_comes_39 : decode cX4_comes 39 = .ok (.aload_n 0, 1) := by decide +kernel
theorem dX4_comes_40 : decode cX4_comes 40 = .ok (.iconst 2, 1) := by decide +kernel
theorem dX4_comes_41 : decode cX4_comes 41 = .ok (.invokevirtual 58, 3) := by decide +kernel
theorem dX4_comes_44 : decode cX4_comes 44 = .ok (.ireturn, 1) := by decide +kernel
theorem dX4_allIn_0 : decode cX4_allIn 0 = .ok (.iconst 0, 1) := by decide +kernel
theorem dX4_allIn_1 : decode cX4_allIn 1 = .ok (.istore_n 2, 1) := by decide +kernel
theorem dX4_allIn_2 : decode cX4_allIn 2 = .ok (.iconst 0, 1) := by decide +kernel
theorem dX4_allIn_3 : decode cX4_allIn 3 = .ok (.istore_n 3, 1) := by decide +kernel
theorem dX4_allIn_4 : decode cX4_allIn 4 = .ok (.iload_n 3, 1) := by decide +kernel
theorem dX4_allIn_5 : decode cX4_allIn 5 = .ok (.bipush 96, 2) := by decide +kernel
theorem dX4_allIn_7 : decode cX4_allIn 7 = .ok (.if_icmp .ge 25, 3) := by decide +kernel
theorem dX4_allIn_10 : decode cX4_allIn 10 = .ok (.iload_n 2, 1) := by decide +kernel
theorem dX4_allIn_11 : decode cX4_allIn 11 = .ok (.aload_n 0, 1) := by decide +kernel
theorem dX4_allIn_12 : decode cX4_allIn 12 = .ok (.iload_n 1, 1) := by decide +kernel
theorem dX4_allIn_13 : decode cX4_allIn 13 = .ok (.iload_n 3, 1) := by decide +kernel
theorem dX4_allIn_14 : decode cX4_allIn 14 = .ok (.bipush 12, 2) := by decide +kernel
theorem dX4_allIn_16 : decode cX4_allIn 16 = .ok (.irem, 1) := by decide +kernel
theorem dX4_allIn_17 : decode cX4_allIn 17 = .ok (.iload_n 3, 1) := by decide +kernel
theorem dX4_allIn_18 : decode cX4_allIn 18 = .ok (.bipush 12, 2) := by decide +kernel
theorem dX4_allIn_20 : decode cX4_allIn 20 = .ok (.idiv, 1) := by decide +kernel
theorem dX4_allIn_21 : decode cX4_allIn 21 = .ok (.invokevirtual 155, 3) := by decide +kernel
theorem dX4_allIn_24 : decode cX4_allIn 24 = .ok (.iadd, 1) := by decide +kernel
theorem dX4_allIn_25 : decode cX4_allIn 25 = .ok (.istore_n 2, 1) := by decide +kernel
theorem dX4_allIn_26 : decode cX4_allIn 26 = .ok (.iinc 3 1, 3) := by decide +kernel
theorem dX4_allIn_29 : decode cX4_allIn 29 = .ok (.goto (-25), 3) := by decide +kernel
theorem dX4_allIn_32 : decode cX4_allIn 32 = .ok (.iload_n 2, 1) := by decide +kernel
theorem dX4_allIn_33 : decode cX4_allIn 33 = .ok (.ireturn, 1) := by decide +kernel
theorem dX4_leaks_0 : decode cX4_leaks 0 = .ok (.aload_n 0, 1) := by decide +kernel
theorem dX4_leaks_1 : decode cX4_leaks 1 = .ok (.iconst 0, 1) := by decide +kernel
theorem dX4_leaks_2 : decode cX4_leaks 2 = .ok (.putfield 29, 3) := by decide +kernel
theorem dX4_leaks_5 : decode cX4_leaks 5 = .ok (.iload_n 1, 1) := by decide +kernel
theorem dX4_leaks_6 : decode cX4_leaks 6 = .ok (.iconst 0, 1) := by decide +kernel
theorem dX4_leaks_7 : decode cX4_leaks 7 = .ok (.bipush 9, 2) := by decide +kernel
theorem dX4_leaks_9 : decode cX4_leaks 9 = .ok (.invokestatic 36, 3) := by decide +kernel
theorem dX4_leaks_12 : decode cX4_leaks 12 = .ok (.ifCond .eq 11, 3) := by decide +kernel
theorem dX4_leaks_15 : decode cX4_leaks 15 = .ok (.aload_n 0, 1) := by decide +kernel
theorem dX4_leaks_16 : decode cX4_leaks 16 = .ok (.iload_n 1, 1) := by decide +kernel
theorem dX4_leaks_17 : decode cX4_leaks 17 = .ok (.invokevirtual 158, 3) := by decide +kernel
theorem dX4_leaks_20 : decode cX4_leaks 20 = .ok (.goto 8, 3) := by decide +kernel
theorem dX4_leaks_23 : decode cX4_leaks 23 = .ok (.aload_n 0, 1) := by decide +kernel
theorem dX4_leaks_24 : decode cX4_leaks 24 = .ok (.iconst 1, 1) := by decide +kernel
theorem dX4_leaks_25 : decode cX4_leaks 25 = .ok (.invokevirtual 58, 3) := by decide +kernel
theorem dX4_leaks_28 : decode cX4_leaks 28 = .ok (.ireturn, 1) := by decide +kernel
theorem dX4_needs_0 : decode cX4_needs 0 = .ok (.aload_n 0, 1) := by decide +kernel
theorem dX4_needs_1 : decode cX4_needs 1 = .ok (.iconst 0, 1) := by decide +kernel
theorem dX4_needs_2 : decode cX4_needs 2 = .ok (.putfield 29, 3) := by decide +kernel
theorem dX4_needs_5 : decode cX4_needs 5 = .ok (.iload_n 1, 1) := by decide +kernel
theorem dX4_needs_6 : decode cX4_needs 6 = .ok (.iload_n 2, 1) := by decide +kernel
theorem dX4_needs_7 : decode cX4_needs 7 = .ok (.iload_n 3, 1) := by decide +kernel
theorem dX4_needs_8 : decode cX4_needs 8 = .ok (.invokestatic 55, 3) := by decide +kernel
theorem dX4_needs_11 : decode cX4_needs 11 = .ok (.ifCond .ne 9, 3) := by decide +kernel
theorem dX4_needs_14 : decode cX4_needs 14 = .ok (.aload_n 0, 1) := by decide +kernel
theorem dX4_needs_15 : decode cX4_needs 15 = .ok (.iconst 1, 1) := by decide +kernel
theorem dX4_needs_16 : decode cX4_needs 16 = .ok (.invokevirtual 58, 3) := by decide +kernel
theorem dX4_needs_19 : decode cX4_needs 19 = .ok (.ireturn, 1) := by decide +kernel
theorem dX4_needs_20 : decode cX4_needs 20 = .ok (.iconst 0, 1) := by decide +kernel
theorem dX4_needs_21 : decode cX4_needs 21 = .ok (.istore 4, 2) := by decide +kernel
theorem dX4_needs_23 : decode cX4_needs 23 = .ok (.iconst 0, 1) := by decide +kernel
theorem dX4_needs_24 : decode cX4_needs 24 = .ok (.istore 5, 2) := by decide +kernel
theorem dX4_needs_26 : decode cX4_needs 26 = .ok (.iload 5, 2) := by decide +kernel
theorem dX4_needs_28 : decode cX4_needs 28 = .ok (.aload_n 0, 1) := by decide +kernel
theorem dX4_needs_29 : decode cX4_needs 29 = .ok (.getfield 33, 3) := by decide +kernel
theorem dX4_needs_32 : decode cX4_needs 32 = .ok (.if_icmp .ge 17, 3) := by decide +kernel
theorem dX4_needs_35 : decode cX4_needs 35 = .ok (.aload_n 0, 1) := by decide +kernel
theorem dX4_needs_36 : decode cX4_needs 36 = .ok (.getfield 25, 3) := by decide +kernel
theorem dX4_needs_39 : decode cX4_needs 39 = .ok (.iload 5, 2) := by decide +kernel
theorem dX4_needs_41 : decode cX4_needs 41 = .ok (.iconst 0, 1) := by decide +kernel
theorem dX4_needs_42 : decode cX4_needs 42 = .ok (.bastore, 1) := by decide +kernel
theorem dX4_needs_43 : decode cX4_needs 43 = .ok (.iinc 5 1, 3) := by decide +kernel
theorem dX4_needs_46 : decode cX4_needs 46 = .ok (.goto (-20), 3) := by decide +kernel
theorem dX4_needs_49 : decode cX4_needs 49 = .ok (.iload_n 1, 1) := by decide +kernel
theorem dX4_needs_50 : decode cX4_needs 50 = .ok (.istore 5, 2) := by decide +kernel
theorem dX4_needs_52 : decode cX4_needs 52 = .ok (.iload 5, 2) := by decide +kernel
theorem dX4_needs_54 : decode cX4_needs 54 = .ok (.bipush 8, 2) := by decide +kernel
theorem dX4_needs_56 : decode cX4_needs 56 = .ok (.if_icmp .ge 205, 3) := by decide +kernel
theorem dX4_needs_59 : decode cX4_needs 59 = .ok (.iconst 0, 1) := by decide +kernel
theorem dX4_needs_60 : decode cX4_needs 60 = .ok (.istore 6, 2) := by decide +kernel
theorem dX4_needs_62 : decode cX4_needs 62 = .ok (.iload 6, 2) := by decide +kernel
theorem dX4_needs_64 : decode cX4_needs 64 = .ok (.aload_n 0, 1) := by decide +kernel
theorem dX4_needs_65 : decode cX4_needs 65 = .ok (.getfield 33, 3) := by decide +kernel
theorem dX4_needs_68 : decode cX4_needs 68 = .ok (.if_icmp .ge 187, 3) := by decide +kernel
theorem dX4_needs_71 : decode cX4_needs 71 = .ok (.aload_n 0, 1) := by decide +kernel
theorem dX4_needs_72 : decode cX4_needs 72 = .ok (.iload 6, 2) := by decide +kernel
theorem dX4_needs_74 : decode cX4_needs 74 = .ok (.invokevirtual 87, 3) := by decide +kernel
theorem dX4_needs_77 : decode cX4_needs 77 = .ok (.ifCond .eq 172, 3) := by decide +kernel
theorem dX4_needs_80 : decode cX4_needs 80 = .ok (.aload_n 0, 1) := by decide +kernel
theorem dX4_needs_81 : decode cX4_needs 81 = .ok (.iload 6, 2) := by decide +kernel
theorem dX4_needs_83 : decode cX4_needs 83 = .ok (.iconst 0, 1) := by decide +kernel
theorem dX4_needs_84 : decode cX4_needs 84 = .ok (.invokevirtual 40, 3) := by decide +kernel
theorem dX4_needs_87 : decode cX4_needs 87 = .ok (.iload 5, 2) := by decide +kernel
theorem dX4_needs_89 : decode cX4_needs 89 = .ok (.if_icmp .eq 6, 3) := by decide +kernel
theorem dX4_needs_92 : decode cX4_needs 92 = .ok (.goto 157, 3) := by decide +kernel
theorem dX4_needs_95 : decode cX4_needs 95 = .ok (.iload 5, 2) := by decide +kernel
theorem dX4_needs_97 : decode cX4_needs 97 = .ok (.iload_n 1, 1) := by decide +kernel
theorem dX4_needs_98 : decode cX4_needs 98 = .ok (.iconst 1, 1) := by decide +kernel
theorem dX4_needs_99 : decode cX4_needs 99 = .ok (.iadd, 1) := by decide +kernel
theorem dX4_needs_100 : decode cX4_needs 100 = .ok (.if_icmp .gt 39, 3) := by decide +kernel
theorem dX4_needs_103 : decode cX4_needs 103 = .ok (.aload_n 0, 1) := by decide +kernel
theorem dX4_needs_104 : decode cX4_needs 104 = .ok (.iload 6, 2) := by decide +kernel
theorem dX4_needs_106 : decode cX4_needs 106 = .ok (.iconst 1, 1) := by decide +kernel
theorem dX4_needs_107 : decode cX4_needs 107 = .ok (.invokevirtual 40, 3) := by decide +kernel
theorem dX4_needs_110 : decode cX4_needs 110 = .ok (.iload_n 2, 1) := by decide +kernel
theorem dX4_needs_111 : decode cX4_needs 111 = .ok (.iload_n 3, 1) := by decide +kernel
theorem dX4_needs_112 : decode cX4_needs 112 = .ok (.iadd, 1) := by decide +kernel
theorem dX4_needs_113 : decode cX4_needs 113 = .ok (.if_icmp .ge 26, 3) := by decide +kernel
theorem dX4_needs_116 : decode cX4_needs 116 = .ok (.aload_n 0, 1) := by decide +kernel
theorem dX4_needs_117 : decode cX4_needs 117 = .ok (.iload 6, 2) := by decide +kernel
theorem dX4_needs_119 : decode cX4_needs 119 = .ok (.iconst 1, 1) := by decide +kernel
theorem dX4_needs_120 : decode cX4_needs 120 = .ok (.invokevirtual 40, 3) := by decide +kernel
theorem dX4_needs_123 : decode cX4_needs 123 = .ok (.aload_n 0, 1) := by decide +kernel
theorem dX4_needs_124 : decode cX4_needs 124 = .ok (.iload 6, 2) := by decide +kernel
theorem dX4_needs_126 : decode cX4_needs 126 = .ok (.iconst 2, 1) := by decide +kernel
theorem dX4_needs_127 : decode cX4_needs 127 = .ok (.invokevirtual 40, 3) := by decide +kernel
theorem dX4_needs_130 : decode cX4_needs 130 = .ok (.iadd, 1) := by decide +kernel
theorem dX4_needs_131 : decode cX4_needs 131 = .ok (.iload_n 2, 1) := by decide +kernel
theorem dX4_needs_132 : decode cX4_needs 132 = .ok (.if_icmp .le 7, 3) := by decide +kernel
theorem dX4_needs_135 : decode cX4_needs 135 = .ok (.iconst 1, 1) := by decide +kernel
theorem dX4_needs_136 : decode cX4_needs 136 = .ok (.goto 4, 3) := by decide +kernel
theorem dX4_needs_139 : decode cX4_needs 139 = .ok (.iconst 0, 1) := by decide +kernel
theorem dX4_needs_140 : decode cX4_needs 140 = .ok (.istore 7, 2) := by decide +kernel
theorem dX4_needs_142 : decode cX4_needs 142 = .ok (.aload_n 0, 1) := by decide +kernel
theorem dX4_needs_143 : decode cX4_needs 143 = .ok (.iload 6, 2) := by decide +kernel
theorem dX4_needs_145 : decode cX4_needs 145 = .ok (.iconst 1, 1) := by decide +kernel
theorem dX4_needs_146 : decode cX4_needs 146 = .ok (.invokevirtual 40, 3) := by decide +kernel
theorem dX4_needs_149 : decode cX4_needs 149 = .ok (.istore 8, 2) := by decide +kernel
theorem dX4_needs_151 : decode cX4_needs 151 = .ok (.iload 8, 2) := by decide +kernel
theorem dX4_needs_153 : decode cX4_needs 153 = .ok (.aload_n 0, 1) := by decide +kernel
theorem dX4_needs_154 : decode cX4_needs 154 = .ok (.iload 6, 2) := by decide +kernel
theorem dX4_needs_156 : decode cX4_needs 156 = .ok (.iconst 1, 1) := by decide +kernel
theorem dX4_needs_157 : decode cX4_needs 157 = .ok (.invokevirtual 40, 3) := by decide +kernel
theorem dX4_needs_160 : decode cX4_needs 160 = .ok (.aload_n 0, 1) := by decide +kernel
theorem dX4_needs_161 : decode cX4_needs 161 = .ok (.iload 6, 2) := by decide +kernel
theorem dX4_needs_163 : decode cX4_needs 163 = .ok (.iconst 2, 1) := by decide +kernel
theorem dX4_needs_164 : decode cX4_needs 164 = .ok (.invokevirtual 40, 3) := by decide +kernel
theorem dX4_needs_167 : decode cX4_needs 167 = .ok (.iadd, 1) := by decide +kernel
theorem dX4_needs_168 : decode cX4_needs 168 = .ok (.if_icmp .ge 57, 3) := by decide +kernel
theorem dX4_needs_171 : decode cX4_needs 171 = .ok (.iload 5, 2) := by decide +kernel
theorem dX4_needs_173 : decode cX4_needs 173 = .ok (.iload_n 1, 1) := by decide +kernel
theorem dX4_needs_174 : decode cX4_needs 174 = .ok (.if_icmp .le 51, 3) := by decide +kernel
theorem dX4_needs_177 : decode cX4_needs 177 = .ok (.iload 7, 2) := by decide +kernel
theorem dX4_needs_179 : decode cX4_needs 179 = .ok (.aload_n 0, 1) := by decide +kernel
theorem dX4_needs_180 : decode cX4_needs 180 = .ok (.iload 8, 2) := by decide +kernel
theorem dX4_needs_182 : decode cX4_needs 182 = .ok (.iload 5, 2) := by decide +kernel
theorem dX4_needs_184 : decode cX4_needs 184 = .ok (.iconst 1, 1) := by decide +kernel
theorem dX4_needs_185 : decode cX4_needs 185 = .ok (.isub, 1) := by decide +kernel
theorem dX4_needs_186 : decode cX4_needs 186 = .ok (.invokevirtual 48, 3) := by decide +kernel
theorem dX4_needs_189 : decode cX4_needs 189 = .ok (.iconst (-1), 1) := by decide +kernel
theorem dX4_needs_190 : decode cX4_needs 190 = .ok (.if_icmp .eq 25, 3) := by decide +kernel
theorem dX4_needs_193 : decode cX4_needs 193 = .ok (.aload_n 0, 1) := by decide +kernel
theorem dX4_needs_194 : decode cX4_needs 194 = .ok (.getfield 25, 3) := by decide +kernel
theorem dX4_needs_197 : decode cX4_needs 197 = .ok (.aload_n 0, 1) := by decide +kernel
theorem dX4_needs_198 : decode cX4_needs 198 = .ok (.iload 8, 2) := by decide +kernel
theorem dX4_needs_200 : decode cX4_needs 200 = .ok (.iload 5, 2) := by decide +kernel
theorem dX4_needs_202 : decode cX4_needs 202 = .ok (.iconst 1, 1) := by decide +kernel
theorem dX4_needs_203 : decode cX4_needs 203 = .ok (.isub, 1) := by decide +kernel
theorem dX4_needs_204 : decode cX4_needs 204 = .ok (.invokevirtual 48, 3) := by decide +kernel
theorem dX4_needs_207 : decode cX4_needs 207 = .ok (.baload, 1) := by decide +kernel
theorem dX4_needs_208 : decode cX4_needs 208 = .ok (.ifCond .eq 7, 3) := by decide +kernel
theorem dX4_needs_211 : decode cX4_needs 211 = .ok (.iconst 1, 1) := by decide +kernel
theorem dX4_needs_212 : decode cX4_needs 212 = .ok (.goto 4, 3) := by decide +kernel
theorem dX4_needs_215 : decode cX4_needs 215 = .ok (.iconst 0, 1) := by decide +kernel
theorem dX4_needs_216 : decode cX4_needs 216 = .ok (.ior, 1) := by decide +kernel
theorem dX4_needs_217 : decode cX4_needs 217 = .ok (.istore 7, 2) := by decide +kernel
theorem dX4_needs_219 : decode cX4_needs 219 = .ok (.iinc 8 1, 3) := by decide +kernel
theorem dX4_needs_222 : decode cX4_needs 222 = .ok (.goto (-71), 3) := by decide +kernel
theorem dX4_needs_225 : decode cX4_needs 225 = .ok (.aload_n 0, 1) := by decide +kernel
theorem dX4_needs_226 : decode cX4_needs 226 = .ok (.getfield 25, 3) := by decide +kernel
theorem dX4_needs_229 : decode cX4_needs 229 = .ok (.iload 6, 2) := by decide +kernel
theorem dX4_needs_231 : decode cX4_needs 231 = .ok (.iload 7, 2) := by decide +kernel
theorem dX4_needs_233 : decode cX4_needs 233 = .ok (.bastore, 1) := by decide +kernel
theorem dX4_needs_234 : decode cX4_needs 234 = .ok (.iload 4, 2) := by decide +kernel
theorem dX4_needs_236 : decode cX4_needs 236 = .ok (.iload 7, 2) := by decide +kernel
theorem dX4_needs_238 : decode cX4_needs 238 = .ok (.ifCond .eq 7, 3) := by decide +kernel
theorem dX4_needs_241 : decode cX4_needs 241 = .ok (.iconst 1, 1) := by decide +kernel
theorem dX4_needs_242 : decode cX4_needs 242 = .ok (.goto 4, 3) := by decide +kernel
theorem dX4_needs_245 : decode cX4_needs 245 = .ok (.iconst 0, 1) := by decide +kernel
theorem dX4_needs_246 : decode cX4_needs 246 = .ok (.iadd, 1) := by decide +kernel
theorem dX4_needs_247 : decode cX4_needs 247 = .ok (.istore 4, 2) := by decide +kernel
theorem dX4_needs_249 : decode cX4_needs 249 = .ok (.iinc 6 1, 3) := by decide +kernel
theorem dX4_needs_252 : decode cX4_needs 252 = .ok (.goto (-190), 3) := by decide +kernel
theorem dX4_needs_255 : decode cX4_needs 255 = .ok (.iinc 5 1, 3) := by decide +kernel
theorem dX4_needs_258 : decode cX4_needs 258 = .ok (.goto (-206), 3) := by decide +kernel
theorem dX4_needs_261 : decode cX4_needs 261 = .ok (.iload 4, 2) := by decide +kernel
theorem dX4_needs_263 : decode cX4_needs 263 = .ok (.ireturn, 1) := by decide +kernel
theorem dX4_best_0 : decode cX4_best 0 = .ok (.aload_n 0, 1) := by decide +kernel
theorem dX4_best_1 : decode cX4_best 1 = .ok (.iconst 0, 1) := by decide +kernel
theorem dX4_best_2 : decode cX4_best 2 = .ok (.putfield 29, 3) := by decide +kernel
theorem dX4_best_5 : decode cX4_best 5 = .ok (.iconst (-1), 1) := by decide +kernel
theorem dX4_best_6 : decode cX4_best 6 = .ok (.istore_n 1, 1) := by decide +kernel
theorem dX4_best_7 : decode cX4_best 7 = .ok (.aload_n 0, 1) := by decide +kernel
theorem dX4_best_8 : decode cX4_best 8 = .ok (.bipush 9, 2) := by decide +kernel
theorem dX4_best_10 : decode cX4_best 10 = .ok (.invokevirtual 158, 3) := by decide +kernel
theorem dX4_best_13 : decode cX4_best 13 = .ok (.istore_n 2, 1) := by decide +kernel
theorem dX4_best_14 : decode cX4_best 14 = .ok (.iconst 0, 1) := by decide +kernel
theorem dX4_best_15 : decode cX4_best 15 = .ok (.istore_n 3, 1) := by decide +kernel
theorem dX4_best_16 : decode cX4_best 16 = .ok (.iload_n 3, 1) := by decide +kernel
theorem dX4_best_17 : decode cX4_best 17 = .ok (.bipush 8, 2) := by decide +kernel
theorem dX4_best_19 : decode cX4_best 19 = .ok (.if_icmp .ge 70, 3) := by decide +kernel
theorem dX4_best_22 : decode cX4_best 22 = .ok (.iconst 0, 1) := by decide +kernel
theorem dX4_best_23 : decode cX4_best 23 = .ok (.istore 4, 2) := by decide +kernel
theorem dX4_best_25 : decode cX4_best 25 = .ok (.iload 4, 2) := by decide +kernel
theorem dX4_best_27 : decode cX4_best 27 = .ok (.iconst 4, 1) := by decide +kernel
theorem dX4_best_28 : decode cX4_best 28 = .ok (.iadd, 1) := by decide +kernel
theorem dX4_best_29 : decode cX4_best 29 = .ok (.bipush 12, 2) := by decide +kernel
theorem dX4_best_31 : decode cX4_best 31 = .ok (.if_icmp .gt 52, 3) := by decide +kernel
theorem dX4_best_34 : decode cX4_best 34 = .ok (.aload_n 0, 1) := by decide +kernel
theorem dX4_best_35 : decode cX4_best 35 = .ok (.iload_n 3, 1) := by decide +kernel
theorem dX4_best_36 : decode cX4_best 36 = .ok (.iload 4, 2) := by decide +kernel
theorem dX4_best_38 : decode cX4_best 38 = .ok (.iconst 4, 1) := by decide +kernel
theorem dX4_best_39 : decode cX4_best 39 = .ok (.invokevirtual 66, 3) := by decide +kernel
theorem dX4_best_42 : decode cX4_best 42 = .ok (.ifCond .ne 6, 3) := by decide +kernel
theorem dX4_best_45 : decode cX4_best 45 = .ok (.goto 32, 3) := by decide +kernel
theorem dX4_best_48 : decode cX4_best 48 = .ok (.aload_n 0, 1) := by decide +kernel
theorem dX4_best_49 : decode cX4_best 49 = .ok (.iload_n 3, 1) := by decide +kernel
theorem dX4_best_50 : decode cX4_best 50 = .ok (.iload 4, 2) := by decide +kernel
theorem dX4_best_52 : decode cX4_best 52 = .ok (.invokevirtual 161, 3) := by decide +kernel
theorem dX4_best_55 : decode cX4_best 55 = .ok (.istore 5, 2) := by decide +kernel
theorem dX4_best_57 : decode cX4_best 57 = .ok (.iload 5, 2) := by decide +kernel
theorem dX4_best_59 : decode cX4_best 59 = .ok (.iload_n 2, 1) := by decide +kernel
theorem dX4_best_60 : decode cX4_best 60 = .ok (.if_icmp .lt 6, 3) := by decide +kernel
theorem dX4_best_63 : decode cX4_best 63 = .ok (.goto 14, 3) := by decide +kernel
theorem dX4_best_66 : decode cX4_best 66 = .ok (.bipush 100, 2) := by decide +kernel
theorem dX4_best_68 : decode cX4_best 68 = .ok (.iload_n 3, 1) := by decide +kernel
theorem dX4_best_69 : decode cX4_best 69 = .ok (.imul, 1) := by decide +kernel
theorem dX4_best_70 : decode cX4_best 70 = .ok (.iload 4, 2) := by decide +kernel
theorem dX4_best_72 : decode cX4_best 72 = .ok (.iadd, 1) := by decide +kernel
theorem dX4_best_73 : decode cX4_best 73 = .ok (.istore_n 1, 1) := by decide +kernel
theorem dX4_best_74 : decode cX4_best 74 = .ok (.iload 5, 2) := by decide +kernel
theorem dX4_best_76 : decode cX4_best 76 = .ok (.istore_n 2, 1) := by decide +kernel
theorem dX4_best_77 : decode cX4_best 77 = .ok (.iinc 4 1, 3) := by decide +kernel
theorem dX4_best_80 : decode cX4_best 80 = .ok (.goto (-55), 3) := by decide +kernel
theorem dX4_best_83 : decode cX4_best 83 = .ok (.iinc 3 1, 3) := by decide +kernel
theorem dX4_best_86 : decode cX4_best 86 = .ok (.goto (-70), 3) := by decide +kernel
theorem dX4_best_89 : decode cX4_best 89 = .ok (.iload_n 1, 1) := by decide +kernel
theorem dX4_best_90 : decode cX4_best 90 = .ok (.ireturn, 1) := by decide +kernel
theorem dX4_with_0 : decode cX4_with 0 = .ok (.iconst 0, 1) := by decide +kernel
theorem dX4_with_1 : decode cX4_with 1 = .ok (.istore_n 3, 1) := by decide +kernel
theorem dX4_with_2 : decode cX4_with 2 = .ok (.iconst 0, 1) := by decide +kernel
theorem dX4_with_3 : decode cX4_with 3 = .ok (.istore 4, 2) := by decide +kernel
theorem dX4_with_5 : decode cX4_with 5 = .ok (.iload 4, 2) := by decide +kernel
theorem dX4_with_7 : decode cX4_with 7 = .ok (.bipush 12, 2) := by decide +kernel
theorem dX4_with_9 : decode cX4_with 9 = .ok (.if_icmp .ge 94, 3) := by decide +kernel
theorem dX4_with_12 : decode cX4_with 12 = .ok (.iconst 0, 1) := by decide +kernel
theorem dX4_with_13 : decode cX4_with 13 = .ok (.istore 5, 2) := by decide +kernel
theorem dX4_with_15 : decode cX4_with 15 = .ok (.bipush 7, 2) := by decide +kernel
theorem dX4_with_17 : decode cX4_with 17 = .ok (.istore 6, 2) := by decide +kernel
theorem dX4_with_19 : decode cX4_with 19 = .ok (.iload 6, 2) := by decide +kernel
theorem dX4_with_21 : decode cX4_with 21 = .ok (.ifCond .lt 76, 3) := by decide +kernel
theorem dX4_with_24 : decode cX4_with 24 = .ok (.iload 6, 2) := by decide +kernel
theorem dX4_with_26 : decode cX4_with 26 = .ok (.iload_n 1, 1) := by decide +kernel
theorem dX4_with_27 : decode cX4_with 27 = .ok (.if_icmp .eq 11, 3) := by decide +kernel
theorem dX4_with_30 : decode cX4_with 30 = .ok (.iload 6, 2) := by decide +kernel
theorem dX4_with_32 : decode cX4_with 32 = .ok (.iconst 1, 1) := by decide +kernel
theorem dX4_with_33 : decode cX4_with 33 = .ok (.iadd, 1) := by decide +kernel
theorem dX4_with_34 : decode cX4_with 34 = .ok (.iload_n 1, 1) := by decide +kernel
theorem dX4_with_35 : decode cX4_with 35 = .ok (.if_icmp .ne 19, 3) := by decide +kernel
theorem dX4_with_38 : decode cX4_with 38 = .ok (.iload 4, 2) := by decide +kernel
theorem dX4_with_40 : decode cX4_with 40 = .ok (.iload_n 2, 1) := by decide +kernel
theorem dX4_with_41 : decode cX4_with 41 = .ok (.iload_n 2, 1) := by decide +kernel
theorem dX4_with_42 : decode cX4_with 42 = .ok (.iconst 3, 1) := by decide +kernel
theorem dX4_with_43 : decode cX4_with 43 = .ok (.iadd, 1) := by decide +kernel
theorem dX4_with_44 : decode cX4_with 44 = .ok (.invokestatic 36, 3) := by decide +kernel
theorem dX4_with_47 : decode cX4_with 47 = .ok (.ifCond .eq 7, 3) := by decide +kernel
theorem dX4_with_50 : decode cX4_with 50 = .ok (.iconst 1, 1) := by decide +kernel
theorem dX4_with_51 : decode cX4_with 51 = .ok (.goto 4, 3) := by decide +kernel
theorem dX4_with_54 : decode cX4_with 54 = .ok (.iconst 0, 1) := by decide +kernel
theorem dX4_with_55 : decode cX4_with 55 = .ok (.istore 7, 2) := by decide +kernel
theorem dX4_with_57 : decode cX4_with 57 = .ok (.iload 7, 2) := by decide +kernel
theorem dX4_with_59 : decode cX4_with 59 = .ok (.ifCond .ne 14, 3) := by decide +kernel
theorem dX4_with_62 : decode cX4_with 62 = .ok (.aload_n 0, 1) := by decide +kernel
theorem dX4_with_63 : decode cX4_with 63 = .ok (.iload 4, 2) := by decide +kernel
theorem dX4_with_65 : decode cX4_with 65 = .ok (.iload 6, 2) := by decide +kernel
theorem dX4_with_67 : decode cX4_with 67 = .ok (.invokevirtual 109, 3) := by decide +kernel
theorem dX4_with_70 : decode cX4_with 70 = .ok (.ifCond .eq 7, 3) := by decide +kernel
theorem dX4_with_73 : decode cX4_with 73 = .ok (.iconst 0, 1) := by decide +kernel
theorem dX4_with_74 : decode cX4_with 74 = .ok (.goto 10, 3) := by decide +kernel
theorem dX4_with_77 : decode cX4_with 77 = .ok (.bipush 9, 2) := by decide +kernel
theorem dX4_with_79 : decode cX4_with 79 = .ok (.iload 5, 2) := by decide +kernel
theorem dX4_with_81 : decode cX4_with 81 = .ok (.iconst 2, 1) := by decide +kernel
theorem dX4_with_82 : decode cX4_with 82 = .ok (.idiv, 1) := by decide +kernel
theorem dX4_with_83 : decode cX4_with 83 = .ok (.iadd, 1) := by decide +kernel
theorem dX4_with_84 : decode cX4_with 84 = .ok (.istore 5, 2) := by decide +kernel
theorem dX4_with_86 : decode cX4_with 86 = .ok (.iload_n 3, 1) := by decide +kernel
theorem dX4_with_87 : decode cX4_with 87 = .ok (.iload 5, 2) := by decide +kernel
theorem dX4_with_89 : decode cX4_with 89 = .ok (.iadd, 1) := by decide +kernel
theorem dX4_with_90 : decode cX4_with 90 = .ok (.istore_n 3, 1) := by decide +kernel
theorem dX4_with_91 : decode cX4_with 91 = .ok (.iinc 6 (-1), 3) := by decide +kernel
theorem dX4_with_94 : decode cX4_with 94 = .ok (.goto (-75), 3) := by decide +kernel
theorem dX4_with_97 : decode cX4_with 97 = .ok (.iinc 4 1, 3) := by decide +kernel
theorem dX4_with_100 : decode cX4_with 100 = .ok (.goto (-95), 3) := by decide +kernel
theorem dX4_with_103 : decode cX4_with 103 = .ok (.iload_n 3, 1) := by decide +kernel
theorem dX4_with_104 : decode cX4_with 104 = .ok (.ireturn, 1) := by decide +kernel
theorem dX4_hail_0 : decode cX4_hail 0 = .ok (.iconst 0, 1) := by decide +kernel
theorem dX4_hail_1 : decode cX4_hail 1 = .ok (.istore_n 2, 1) := by decide +kernel
theorem dX4_hail_2 : decode cX4_hail 2 = .ok (.iload_n 2, 1) := by decide +kernel
theorem dX4_hail_3 : decode cX4_hail 3 = .ok (.aload_n 0, 1) := by decide +kernel
theorem dX4_hail_4 : decode cX4_hail 4 = .ok (.getfield 33, 3) := by decide +kernel
theorem dX4_hail_7 : decode cX4_hail 7 = .ok (.if_icmp .ge 113, 3) := by decide +kernel
theorem dX4_hail_10 : decode cX4_hail 10 = .ok (.aload_n 0, 1) := by decide +kernel
theorem dX4_hail_11 : decode cX4_hail 11 = .ok (.iload_n 2, 1) := by decide +kernel
theorem dX4_hail_12 : decode cX4_hail 12 = .ok (.invokevirtual 87, 3) := by decide +kernel
theorem dX4_hail_15 : decode cX4_hail 15 = .ok (.ifCond .eq 99, 3) := by decide +kernel
theorem dX4_hail_18 : decode cX4_hail 18 = .ok (.aload_n 0, 1) := by decide +kernel
theorem dX4_hail_19 : decode cX4_hail 19 = .ok (.iload_n 2, 1) := by decide +kernel
theorem dX4_hail_20 : decode cX4_hail 20 = .ok (.iconst 4, 1) := by decide +kernel
theorem dX4_hail_21 : decode cX4_hail 21 = .ok (.invokevirtual 40, 3) := by decide +kernel
theorem dX4_hail_24 : decode cX4_hail 24 = .ok (.iconst 1, 1) := by decide +kernel
theorem dX4_hail_25 : decode cX4_hail 25 = .ok (.if_icmp .eq 89, 3) := by decide +kernel
theorem dX4_hail_28 : decode cX4_hail 28 = .ok (.iload_n 1, 1) := by decide +kernel
theorem dX4_hail_29 : decode cX4_hail 29 = .ok (.aload_n 0, 1) := by decide +kernel
theorem dX4_hail_30 : decode cX4_hail 30 = .ok (.iload_n 2, 1) := by decide +kernel
theorem dX4_hail_31 : decode cX4_hail 31 = .ok (.iconst 3, 1) := by decide +kernel
theorem dX4_hail_32 : decode cX4_hail 32 = .ok (.invokevirtual 40, 3) := by decide +kernel
theorem dX4_hail_35 : decode cX4_hail 35 = .ok (.iconst 3, 1) := by decide +kernel
theorem dX4_hail_36 : decode cX4_hail 36 = .ok (.iadd, 1) := by decide +kernel
theorem dX4_hail_37 : decode cX4_hail 37 = .ok (.if_icmp .gt 6, 3) := by decide +kernel
theorem dX4_hail_40 : decode cX4_hail 40 = .ok (.goto 74, 3) := by decide +kernel
theorem dX4_hail_43 : decode cX4_hail 43 = .ok (.iconst 0, 1) := by decide +kernel
theorem dX4_hail_44 : decode cX4_hail 44 = .ok (.istore_n 3, 1) := by decide +kernel
theorem dX4_hail_45 : decode cX4_hail 45 = .ok (.aload_n 0, 1) := by decide +kernel
theorem dX4_hail_46 : decode cX4_hail 46 = .ok (.iload_n 2, 1) := by decide +kernel
theorem dX4_hail_47 : decode cX4_hail 47 = .ok (.iconst 1, 1) := by decide +kernel
theorem dX4_hail_48 : decode cX4_hail 48 = .ok (.invokevirtual 40, 3) := by decide +kernel
theorem dX4_hail_51 : decode cX4_hail 51 = .ok (.istore 4, 2) := by decide +kernel
theorem dX4_hail_53 : decode cX4_hail 53 = .ok (.iload 4, 2) := by decide +kernel
theorem dX4_hail_55 : decode cX4_hail 55 = .ok (.aload_n 0, 1) := by decide +kernel
theorem dX4_hail_56 : decode cX4_hail 56 = .ok (.iload_n 2, 1) := by decide +kernel
theorem dX4_hail_57 : decode cX4_hail 57 = .ok (.iconst 1, 1) := by decide +kernel
theorem dX4_hail_58 : decode cX4_hail 58 = .ok (.invokevirtual 40, 3) := by decide +kernel
theorem dX4_hail_61 : decode cX4_hail 61 = .ok (.aload_n 0, 1) := by decide +kernel
theorem dX4_hail_62 : decode cX4_hail 62 = .ok (.iload_n 2, 1) := by decide +kernel
theorem dX4_hail_63 : decode cX4_hail 63 = .ok (.iconst 2, 1) := by decide +kernel
theorem dX4_hail_64 : decode cX4_hail 64 = .ok (.invokevirtual 40, 3) := by decide +kernel
theorem dX4_hail_67 : decode cX4_hail 67 = .ok (.iadd, 1) := by decide +kernel
theorem dX4_hail_68 : decode cX4_hail 68 = .ok (.if_icmp .ge 35, 3) := by decide +kernel
theorem dX4_hail_71 : decode cX4_hail 71 = .ok (.iload_n 3, 1) := by decide +kernel
theorem dX4_hail_72 : decode cX4_hail 72 = .ok (.aload_n 0, 1) := by decide +kernel
theorem dX4_hail_73 : decode cX4_hail 73 = .ok (.iload 4, 2) := by decide +kernel
theorem dX4_hail_75 : decode cX4_hail 75 = .ok (.aload_n 0, 1) := by decide +kernel
theorem dX4_hail_76 : decode cX4_hail 76 = .ok (.iload_n 2, 1) := by decide +kernel
theorem dX4_hail_77 : decode cX4_hail 77 = .ok (.iconst 0, 1) := by decide +kernel
theorem dX4_hail_78 : decode cX4_hail 78 = .ok (.invokevirtual 40, 3) := by decide +kernel
theorem dX4_hail_81 : decode cX4_hail 81 = .ok (.iconst 1, 1) := by decide +kernel
theorem dX4_hail_82 : decode cX4_hail 82 = .ok (.iadd, 1) := by decide +kernel
theorem dX4_hail_83 : decode cX4_hail 83 = .ok (.invokevirtual 48, 3) := by decide +kernel
theorem dX4_hail_86 : decode cX4_hail 86 = .ok (.iconst (-1), 1) := by decide +kernel
theorem dX4_hail_87 : decode cX4_hail 87 = .ok (.if_icmp .ne 7, 3) := by decide +kernel
theorem dX4_hail_90 : decode cX4_hail 90 = .ok (.iconst 1, 1) := by decide +kernel
theorem dX4_hail_91 : decode cX4_hail 91 = .ok (.goto 4, 3) := by decide +kernel
theorem dX4_hail_94 : decode cX4_hail 94 = .ok (.iconst 0, 1) := by decide +kernel
theorem dX4_hail_95 : decode cX4_hail 95 = .ok (.ior, 1) := by decide +kernel
theorem dX4_hail_96 : decode cX4_hail 96 = .ok (.istore_n 3, 1) := by decide +kernel
theorem dX4_hail_97 : decode cX4_hail 97 = .ok (.iinc 4 1, 3) := by decide +kernel
theorem dX4_hail_100 : decode cX4_hail 100 = .ok (.goto (-47), 3) := by decide +kernel
theorem dX4_hail_103 : decode cX4_hail 103 = .ok (.iload_n 3, 1) := by decide +kernel
theorem dX4_hail_104 : decode cX4_hail 104 = .ok (.ifCond .eq 10, 3) := by decide +kernel
theorem dX4_hail_107 : decode cX4_hail 107 = .ok (.aload_n 0, 1) := by decide +kernel
theorem dX4_hail_108 : decode cX4_hail 108 = .ok (.iload_n 2, 1) := by decide +kernel
theorem dX4_hail_109 : decode cX4_hail 109 = .ok (.iconst 4, 1) := by decide +kernel
theorem dX4_hail_110 : decode cX4_hail 110 = .ok (.iconst 1, 1) := by decide +kernel
theorem dX4_hail_111 : decode cX4_hail 111 = .ok (.invokevirtual 79, 3) := by decide +kernel
theorem dX4_hail_114 : decode cX4_hail 114 = .ok (.iinc 2 1, 3) := by decide +kernel
theorem dX4_hail_117 : decode cX4_hail 117 = .ok (.goto (-115), 3) := by decide +kernel
theorem dX4_hail_120 : decode cX4_hail 120 = .ok (.return_, 1) := by decide +kernel
theorem dX4_wet_0 : decode cX4_wet 0 = .ok (.iconst 0, 1) := by decide +kernel
theorem dX4_wet_1 : decode cX4_wet 1 = .ok (.istore_n 2, 1) := by decide +kernel
theorem dX4_wet_2 : decode cX4_wet 2 = .ok (.iload_n 2, 1) := by decide +kernel
theorem dX4_wet_3 : decode cX4_wet 3 = .ok (.bipush 96, 2) := by decide +kernel
theorem dX4_wet_5 : decode cX4_wet 5 = .ok (.if_icmp .ge 46, 3) := by decide +kernel
theorem dX4_wet_8 : decode cX4_wet 8 = .ok (.aload_n 0, 1) := by decide +kernel
theorem dX4_wet_9 : decode cX4_wet 9 = .ok (.iload_n 1, 1) := by decide +kernel
theorem dX4_wet_10 : decode cX4_wet 10 = .ok (.iload_n 2, 1) := by decide +kernel
theorem dX4_wet_11 : decode cX4_wet 11 = .ok (.bipush 12, 2) := by decide +kernel
theorem dX4_wet_13 : decode cX4_wet 13 = .ok (.irem, 1) := by decide +kernel
theorem dX4_wet_14 : decode cX4_wet 14 = .ok (.iload_n 2, 1) := by decide +kernel
theorem dX4_wet_15 : decode cX4_wet 15 = .ok (.bipush 12, 2) := by decide +kernel
theorem dX4_wet_17 : decode cX4_wet 17 = .ok (.idiv, 1) := by decide +kernel
theorem dX4_wet_18 : decode cX4_wet 18 = .ok (.invokevirtual 155, 3) := by decide +kernel
theorem dX4_wet_21 : decode cX4_wet 21 = .ok (.bipush 6, 2) := by decide +kernel
theorem dX4_wet_23 : decode cX4_wet 23 = .ok (.if_icmp .lt 22, 3) := by decide +kernel
theorem dX4_wet_26 : decode cX4_wet 26 = .ok (.aload_n 0, 1) := by decide +kernel
theorem dX4_wet_27 : decode cX4_wet 27 = .ok (.getfield 16, 3) := by decide +kernel
theorem dX4_wet_30 : decode cX4_wet 30 = .ok (.iload_n 2, 1) := by decide +kernel
theorem dX4_wet_31 : decode cX4_wet 31 = .ok (.bipush 9, 2) := by decide +kernel
theorem dX4_wet_33 : decode cX4_wet 33 = .ok (.aload_n 0, 1) := by decide +kernel
theorem dX4_wet_34 : decode cX4_wet 34 = .ok (.getfield 16, 3) := by decide +kernel
theorem dX4_wet_37 : decode cX4_wet 37 = .ok (.iload_n 2, 1) := by decide +kernel
theorem dX4_wet_38 : decode cX4_wet 38 = .ok (.iaload, 1) := by decide +kernel
theorem dX4_wet_39 : decode cX4_wet 39 = .ok (.iconst 1, 1) := by decide +kernel
theorem dX4_wet_40 : decode cX4_wet 40 = .ok (.iadd, 1) := by decide +kernel
theorem dX4_wet_41 : decode cX4_wet 41 = .ok (.invokestatic 164, 3) := by decide +kernel
theorem dX4_wet_44 : decode cX4_wet 44 = .ok (.iastore, 1) := by decide +kernel
theorem dX4_wet_45 : decode cX4_wet 45 = .ok (.iinc 2 1, 3) := by decide +kernel
theorem dX4_wet_48 : decode cX4_wet 48 = .ok (.goto (-46), 3) := by decide +kernel
theorem dX4_wet_51 : decode cX4_wet 51 = .ok (.return_, 1) := by decide +kernel
theorem dX4_dayOn_0 : decode cX4_dayOn 0 = .ok (.iconst 4, 1) := by decide +kernel
theorem dX4_dayOn_1 : decode cX4_dayOn 1 = .ok (.aload_n 0, 1) := by decide +kernel
theorem dX4_dayOn_2 : decode cX4_dayOn 2 = .ok (.getfield 22, 3) := by decide +kernel
theorem dX4_dayOn_5 : decode cX4_dayOn 5 = .ok (.iconst 0, 1) := by decide +kernel
theorem dX4_dayOn_6 : decode cX4_dayOn 6 = .ok (.iaload, 1) := by decide +kernel
theorem dX4_dayOn_7 : decode cX4_dayOn 7 = .ok (.bipush 7, 2) := by decide +kernel
theorem dX4_dayOn_9 : decode cX4_dayOn 9 = .ok (.irem, 1) := by decide +kernel
theorem dX4_dayOn_10 : decode cX4_dayOn 10 = .ok (.imul, 1) := by decide +kernel
theorem dX4_dayOn_11 : decode cX4_dayOn 11 = .ok (.istore_n 1, 1) := by decide +kernel
theorem dX4_dayOn_12 : decode cX4_dayOn 12 = .ok (.aload_n 0, 1) := by decide +kernel
theorem dX4_dayOn_13 : decode cX4_dayOn 13 = .ok (.aload_n 0, 1) := by decide +kernel
theorem dX4_dayOn_14 : decode cX4_dayOn 14 = .ok (.getfield 19, 3) := by decide +kernel
theorem dX4_dayOn_17 : decode cX4_dayOn 17 = .ok (.iload_n 1, 1) := by decide +kernel
theorem dX4_dayOn_18 : decode cX4_dayOn 18 = .ok (.iconst 0, 1) := by decide +kernel
theorem dX4_dayOn_19 : decode cX4_dayOn 19 = .ok (.iadd, 1) := by decide +kernel
theorem dX4_dayOn_20 : decode cX4_dayOn 20 = .ok (.iaload, 1) := by decide +kernel
theorem dX4_dayOn_21 : decode cX4_dayOn 21 = .ok (.aload_n 0, 1) := by decide +kernel
theorem dX4_dayOn_22 : decode cX4_dayOn 22 = .ok (.getfield 19, 3) := by decide +kernel
theorem dX4_dayOn_25 : decode cX4_dayOn 25 = .ok (.iload_n 1, 1) := by decide +kernel
theorem dX4_dayOn_26 : decode cX4_dayOn 26 = .ok (.iconst 1, 1) := by decide +kernel
theorem dX4_dayOn_27 : decode cX4_dayOn 27 = .ok (.iadd, 1) := by decide +kernel
theorem dX4_dayOn_28 : decode cX4_dayOn 28 = .ok (.iaload, 1) := by decide +kernel
theorem dX4_dayOn_29 : decode cX4_dayOn 29 = .ok (.iconst 1, 1) := by decide +kernel
theorem dX4_dayOn_30 : decode cX4_dayOn 30 = .ok (.if_icmp .ne 7, 3) := by decide +kernel
theorem dX4_dayOn_33 : decode cX4_dayOn 33 = .ok (.iconst 1, 1) := by decide +kernel
theorem dX4_dayOn_34 : decode cX4_dayOn 34 = .ok (.goto 4, 3) := by decide +kernel
theorem dX4_dayOn_37 : decode cX4_dayOn 37 = .ok (.iconst 0, 1) := by decide +kernel
theorem dX4_dayOn_38 : decode cX4_dayOn 38 = .ok (.invokevirtual 144, 3) := by decide +kernel
theorem dX4_dayOn_41 : decode cX4_dayOn 41 = .ok (.pop, 1) := by decide +kernel
theorem dX4_dayOn_42 : decode cX4_dayOn 42 = .ok (.aload_n 0, 1) := by decide +kernel
theorem dX4_dayOn_43 : decode cX4_dayOn 43 = .ok (.aload_n 0, 1) := by decide +kernel
theorem dX4_dayOn_44 : decode cX4_dayOn 44 = .ok (.getfield 19, 3) := by decide +kernel
theorem dX4_dayOn_47 : decode cX4_dayOn 47 = .ok (.iload_n 1, 1) := by decide +kernel
theorem dX4_dayOn_48 : decode cX4_dayOn 48 = .ok (.iconst 2, 1) := by decide +kernel
theorem dX4_dayOn_49 : decode cX4_dayOn 49 = .ok (.iadd, 1) := by decide +kernel
theorem dX4_dayOn_50 : decode cX4_dayOn 50 = .ok (.iaload, 1) := by decide +kernel
theorem dX4_dayOn_51 : decode cX4_dayOn 51 = .ok (.invokevirtual 169, 3) := by decide +kernel
theorem dX4_dayOn_54 : decode cX4_dayOn 54 = .ok (.aload_n 0, 1) := by decide +kernel
theorem dX4_dayOn_55 : decode cX4_dayOn 55 = .ok (.aload_n 0, 1) := by decide +kernel
theorem dX4_dayOn_56 : decode cX4_dayOn 56 = .ok (.getfield 19, 3) := by decide +kernel
theorem dX4_dayOn_59 : decode cX4_dayOn 59 = .ok (.iload_n 1, 1) := by decide +kernel
theorem dX4_dayOn_60 : decode cX4_dayOn 60 = .ok (.iconst 3, 1) := by decide +kernel
theorem dX4_dayOn_61 : decode cX4_dayOn 61 = .ok (.iadd, 1) := by decide +kernel
theorem dX4_dayOn_62 : decode cX4_dayOn 62 = .ok (.iaload, 1) := by decide +kernel
theorem dX4_dayOn_63 : decode cX4_dayOn 63 = .ok (.invokevirtual 172, 3) := by decide +kernel
theorem dX4_dayOn_66 : decode cX4_dayOn 66 = .ok (.aload_n 0, 1) := by decide +kernel
theorem dX4_dayOn_67 : decode cX4_dayOn 67 = .ok (.getfield 22, 3) := by decide +kernel
theorem dX4_dayOn_70 : decode cX4_dayOn 70 = .ok (.iconst 0, 1) := by decide +kernel
theorem dX4_dayOn_71 : decode cX4_dayOn 71 = .ok (.dup2, 1) := by decide +kernel
theorem dX4_dayOn_72 : decode cX4_dayOn 72 = .ok (.iaload, 1) := by decide +kernel
theorem dX4_dayOn_73 : decode cX4_dayOn 73 = .ok (.iconst 1, 1) := by decide +kernel
theorem dX4_dayOn_74 : decode cX4_dayOn 74 = .ok (.iadd, 1) := by decide +kernel
theorem dX4_dayOn_75 : decode cX4_dayOn 75 = .ok (.iastore, 1) := by decide +kernel
theorem dX4_dayOn_76 : decode cX4_dayOn 76 = .ok (.return_, 1) := by decide +kernel
theorem dX4_daysOn_0 : decode cX4_daysOn 0 = .ok (.iconst 0, 1) := by decide +kernel
theorem dX4_daysOn_1 : decode cX4_daysOn 1 = .ok (.istore_n 2, 1) := by decide +kernel
theorem dX4_daysOn_2 : decode cX4_daysOn 2 = .ok (.iload_n 2, 1) := by decide +kernel
theorem dX4_daysOn_3 : decode cX4_daysOn 3 = .ok (.iload_n 1, 1) := by decide +kernel
theorem dX4_daysOn_4 : decode cX4_daysOn 4 = .ok (.if_icmp .ge 13, 3) := by decide +kernel
theorem dX4_daysOn_7 : decode cX4_daysOn 7 = .ok (.aload_n 0, 1) := by decide +kernel
theorem dX4_daysOn_8 : decode cX4_daysOn 8 = .ok (.invokevirtual 175, 3) := by decide +kernel
theorem dX4_daysOn_11 : decode cX4_daysOn 11 = .ok (.iinc 2 1, 3) := by decide +kernel
theorem dX4_daysOn_14 : decode cX4_daysOn 14 = .ok (.goto (-12), 3) := by decide +kernel
theorem dX4_daysOn_17 : decode cX4_daysOn 17 = .ok (.return_, 1) := by decide +kernel
theorem dX4_pass_0 : decode cX4_pass 0 = .ok (.aload_n 0, 1) := by decide +kernel
theorem dX4_pass_1 : decode cX4_pass 1 = .ok (.iconst 0, 1) := by decide +kernel
theorem dX4_pass_2 : decode cX4_pass 2 = .ok (.putfield 29, 3) := by decide +kernel
theorem dX4_pass_5 : decode cX4_pass 5 = .ok (.iload_n 1, 1) := by decide +kernel
theorem dX4_pass_6 : decode cX4_pass 6 = .ok (.iconst 1, 1) := by decide +kernel
theorem dX4_pass_7 : decode cX4_pass 7 = .ok (.bipush 60, 2) := by decide +kernel
theorem dX4_pass_9 : decode cX4_pass 9 = .ok (.invokestatic 36, 3) := by decide +kernel
theorem dX4_pass_12 : decode cX4_pass 12 = .ok (.ifCond .ne 9, 3) := by decide +kernel
theorem dX4_pass_15 : decode cX4_pass 15 = .ok (.aload_n 0, 1) := by decide +kernel
theorem dX4_pass_16 : decode cX4_pass 16 = .ok (.iconst 1, 1) := by decide +kernel
theorem dX4_pass_17 : decode cX4_pass 17 = .ok (.invokevirtual 58, 3) := by decide +kernel
theorem dX4_pass_20 : decode cX4_pass 20 = .ok (.ireturn, 1) := by decide +kernel
theorem dX4_pass_21 : decode cX4_pass 21 = .ok (.aload_n 0, 1) := by decide +kernel
theorem dX4_pass_22 : decode cX4_pass 22 = .ok (.getfield 22, 3) := by decide +kernel
theorem dX4_pass_25 : decode cX4_pass 25 = .ok (.iconst 1, 1) := by decide +kernel
theorem dX4_pass_26 : decode cX4_pass 26 = .ok (.iaload, 1) := by decide +kernel
theorem dX4_pass_27 : decode cX4_pass 27 = .ok (.istore_n 2, 1) := by decide +kernel
theorem dX4_pass_28 : decode cX4_pass 28 = .ok (.aload_n 0, 1) := by decide +kernel
theorem dX4_pass_29 : decode cX4_pass 29 = .ok (.iload_n 1, 1) := by decide +kernel
theorem dX4_pass_30 : decode cX4_pass 30 = .ok (.invokevirtual 178, 3) := by decide +kernel
theorem dX4_pass_33 : decode cX4_pass 33 = .ok (.aload_n 0, 1) := by decide +kernel
theorem dX4_pass_34 : decode cX4_pass 34 = .ok (.getfield 22, 3) := by decide +kernel
theorem dX4_pass_37 : decode cX4_pass 37 = .ok (.iconst 1, 1) := by decide +kernel
theorem dX4_pass_38 : decode cX4_pass 38 = .ok (.iaload, 1) := by decide +kernel
theorem dX4_pass_39 : decode cX4_pass 39 = .ok (.iload_n 2, 1) := by decide +kernel
theorem dX4_pass_40 : decode cX4_pass 40 = .ok (.isub, 1) := by decide +kernel
theorem dX4_pass_41 : decode cX4_pass 41 = .ok (.ireturn, 1) := by decide +kernel
theorem dX4_foresee_0 : decode cX4_foresee 0 = .ok (.aload_n 0, 1) := by decide +kernel
theorem dX4_foresee_1 : decode cX4_foresee 1 = .ok (.iconst 0, 1) := by decide +kernel
theorem dX4_foresee_2 : decode cX4_foresee 2 = .ok (.putfield 29, 3) := by decide +kernel
theorem dX4_foresee_5 : decode cX4_foresee 5 = .ok (.iload_n 1, 1) := by decide +kernel
theorem dX4_foresee_6 : decode cX4_foresee 6 = .ok (.iconst 1, 1) := by decide +kernel
theorem dX4_foresee_7 : decode cX4_foresee 7 = .ok (.bipush 60, 2) := by decide +kernel
theorem dX4_foresee_9 : decode cX4_foresee 9 = .ok (.invokestatic 36, 3) := by decide +kernel
theorem dX4_foresee_12 : decode cX4_foresee 12 = .ok (.ifCond .ne 9, 3) := by decide +kernel
theorem dX4_foresee_15 : decode cX4_foresee 15 = .ok (.aload_n 0, 1) := by decide +kernel
theorem dX4_foresee_16 : decode cX4_foresee 16 = .ok (.iconst 1, 1) := by decide +kernel
theorem dX4_foresee_17 : decode cX4_foresee 17 = .ok (.invokevirtual 58, 3) := by decide +kernel
theorem dX4_foresee_20 : decode cX4_foresee 20 = .ok (.ireturn, 1) := by decide +kernel
theorem dX4_foresee_21 : decode cX4_foresee 21 = .ok (.iload_n 2, 1) := by decide +kernel
theorem dX4_foresee_22 : decode cX4_foresee 22 = .ok (.iconst 0, 1) := by decide +kernel
theorem dX4_foresee_23 : decode cX4_foresee 23 = .ok (.iconst 2, 1) := by decide +kernel
theorem dX4_foresee_24 : decode cX4_foresee 24 = .ok (.invokestatic 36, 3) := by decide +kernel
theorem dX4_foresee_27 : decode cX4_foresee 27 = .ok (.ifCond .ne 9, 3) := by decide +kernel
theorem dX4_foresee_30 : decode cX4_foresee 30 = .ok (.aload_n 0, 1) := by decide +kernel
theorem dX4_foresee_31 : decode cX4_foresee 31 = .ok (.iconst 2, 1) := by decide +kernel
theorem dX4_foresee_32 : decode cX4_foresee 32 = .ok (.invokevirtual 58, 3) := by decide +kernel
theorem dX4_foresee_35 : decode cX4_foresee 35 = .ok (.ireturn, 1) := by decide +kernel
theorem dX4_foresee_36 : decode cX4_foresee 36 = .ok (.aload_n 0, 1) := by decide +kernel
theorem dX4_foresee_37 : decode cX4_foresee 37 = .ok (.invokevirtual 140, 3) := by decide +kernel
theorem dX4_foresee_40 : decode cX4_foresee 40 = .ok (.astore_n 3, 1) := by decide +kernel
theorem dX4_foresee_41 : decode cX4_foresee 41 = .ok (.aload_n 0, 1) := by decide +kernel
theorem dX4_foresee_42 : decode cX4_foresee 42 = .ok (.iload_n 1, 1) := by decide +kernel
theorem dX4_foresee_43 : decode cX4_foresee 43 = .ok (.invokevirtual 178, 3) := by decide +kernel
theorem dX4_foresee_46 : decode cX4_foresee 46 = .ok (.iload_n 2, 1) := by decide +kernel
theorem dX4_foresee_47 : decode cX4_foresee 47 = .ok (.ifCond .ne 10, 3) := by decide +kernel
theorem dX4_foresee_50 : decode cX4_foresee 50 = .ok (.aload_n 0, 1) := by decide +kernel
theorem dX4_foresee_51 : decode cX4_foresee 51 = .ok (.invokevirtual 62, 3) := by decide +kernel
theorem dX4_foresee_54 : decode cX4_foresee 54 = .ok (.goto 19, 3) := by decide +kernel
theorem dX4_foresee_57 : decode cX4_foresee 57 = .ok (.iload_n 2, 1) := by decide +kernel
theorem dX4_foresee_58 : decode cX4_foresee 58 = .ok (.iconst 1, 1) := by decide +kernel
theorem dX4_foresee_59 : decode cX4_foresee 59 = .ok (.if_icmp .ne 10, 3) := by decide +kernel
theorem dX4_foresee_62 : decode cX4_foresee 62 = .ok (.aload_n 0, 1) := by decide +kernel
theorem dX4_foresee_63 : decode cX4_foresee 63 = .ok (.invokevirtual 115, 3) := by decide +kernel
theorem dX4_foresee_66 : decode cX4_foresee 66 = .ok (.goto 7, 3) := by decide +kernel
theorem dX4_foresee_69 : decode cX4_foresee 69 = .ok (.aload_n 0, 1) := by decide +kernel
theorem dX4_foresee_70 : decode cX4_foresee 70 = .ok (.invokevirtual 121, 3) := by decide +kernel
theorem dX4_foresee_73 : decode cX4_foresee 73 = .ok (.istore 4, 2) := by decide +kernel
theorem dX4_foresee_75 : decode cX4_foresee 75 = .ok (.aload_n 0, 1) := by decide +kernel
theorem dX4_foresee_76 : decode cX4_foresee 76 = .ok (.aload_n 3, 1) := by decide +kernel
theorem dX4_foresee_77 : decode cX4_foresee 77 = .ok (.invokevirtual 147, 3) := by decide +kernel
theorem dX4_foresee_80 : decode cX4_foresee 80 = .ok (.iload 4, 2) := by decide +kernel
theorem dX4_foresee_82 : decode cX4_foresee 82 = .ok (.ireturn, 1) := by decide +kernel
theorem dX4_share_0 : decode cX4_share 0 = .ok (.aload_n 0, 1) := by decide +kernel
theorem dX4_share_1 : decode cX4_share 1 = .ok (.iconst 0, 1) := by decide +kernel
theorem dX4_share_2 : decode cX4_share 2 = .ok (.putfield 29, 3) := by decide +kernel
theorem dX4_share_5 : decode cX4_share 5 = .ok (.aload_n 0, 1) := by decide +kernel
theorem dX4_share_6 : decode cX4_share 6 = .ok (.invokevirtual 118, 3) := by decide +kernel
theorem dX4_share_9 : decode cX4_share 9 = .ok (.i2d, 1) := by decide +kernel
theorem dX4_share_10 : decode cX4_share 10 = .ok (.ldc2_w 181, 3) := by decide +kernel
theorem dX4_share_13 : decode cX4_share 13 = .ok (.ddiv, 1) := by decide +kernel
theorem dX4_share_14 : decode cX4_share 14 = .ok (.dreturn, 1) := by decide +kernel
theorem dX4_digest_0 : decode cX4_digest 0 = .ok (.aload_n 0, 1) := by decide +kernel
theorem dX4_digest_1 : decode cX4_digest 1 = .ok (.iconst 0, 1) := by decide +kernel
theorem dX4_digest_2 : decode cX4_digest 2 = .ok (.putfield 29, 3) := by decide +kernel
theorem dX4_digest_5 : decode cX4_digest 5 = .ok (.ldc2_w 183, 3) := by decide +kernel
theorem dX4_digest_8 : decode cX4_digest 8 = .ok (.lstore_n 1, 1) := by decide +kernel
theorem dX4_digest_9 : decode cX4_digest 9 = .ok (.iconst 0, 1) := by decide +kernel
theorem dX4_digest_10 : decode cX4_digest 10 = .ok (.istore_n 3, 1) := by decide +kernel
theorem dX4_digest_11 : decode cX4_digest 11 = .ok (.iload_n 3, 1) := by decide +kernel
theorem dX4_digest_12 : decode cX4_digest 12 = .ok (.bipush 7, 2) := by decide +kernel
theorem dX4_digest_14 : decode cX4_digest 14 = .ok (.if_icmp .ge 22, 3) := by decide +kernel
theorem dX4_digest_17 : decode cX4_digest 17 = .ok (.lload_n 1, 1) := by decide +kernel
theorem dX4_digest_18 : decode cX4_digest 18 = .ok (.ldc2_w 185, 3) := by decide +kernel
theorem dX4_digest_21 : decode cX4_digest 21 = .ok (.lmul, 1) := by decide +kernel
theorem dX4_digest_22 : decode cX4_digest 22 = .ok (.aload_n 0, 1) := by decide +kernel
theorem dX4_digest_23 : decode cX4_digest 23 = .ok (.iload_n 3, 1) := by decide +kernel
theorem dX4_digest_24 : decode cX4_digest 24 = .ok (.invokevirtual 124, 3) := by decide +kernel
theorem dX4_digest_27 : decode cX4_digest 27 = .ok (.i2l, 1) := by decide +kernel
theorem dX4_digest_28 : decode cX4_digest 28 = .ok (.ladd, 1) := by decide +kernel
theorem dX4_digest_29 : decode cX4_digest 29 = .ok (.lstore_n 1, 1) := by decide +kernel
theorem dX4_digest_30 : decode cX4_digest 30 = .ok (.iinc 3 1, 3) := by decide +kernel
theorem dX4_digest_33 : decode cX4_digest 33 = .ok (.goto (-22), 3) := by decide +kernel
theorem dX4_digest_36 : decode cX4_digest 36 = .ok (.iconst 0, 1) := by decide +kernel
theorem dX4_digest_37 : decode cX4_digest 37 = .ok (.istore_n 3, 1) := by decide +kernel
theorem dX4_digest_38 : decode cX4_digest 38 = .ok (.iload_n 3, 1) := by decide +kernel
theorem dX4_digest_39 : decode cX4_digest 39 = .ok (.aload_n 0, 1) := by decide +kernel
theorem dX4_digest_40 : decode cX4_digest 40 = .ok (.getfield 33, 3) := by decide +kernel
theorem dX4_digest_43 : decode cX4_digest 43 = .ok (.if_icmp .ge 40, 3) := by decide +kernel
theorem dX4_digest_46 : decode cX4_digest 46 = .ok (.iconst 0, 1) := by decide +kernel
theorem dX4_digest_47 : decode cX4_digest 47 = .ok (.istore 4, 2) := by decide +kernel
theorem dX4_digest_49 : decode cX4_digest 49 = .ok (.iload 4, 2) := by decide +kernel
theorem dX4_digest_51 : decode cX4_digest 51 = .ok (.bipush 8, 2) := by decide +kernel
theorem dX4_digest_53 : decode cX4_digest 53 = .ok (.if_icmp .ge 24, 3) := by decide +kernel
theorem dX4_digest_56 : decode cX4_digest 56 = .ok (.lload_n 1, 1) := by decide +kernel
theorem dX4_digest_57 : decode cX4_digest 57 = .ok (.ldc2_w 185, 3) := by decide +kernel
theorem dX4_digest_60 : decode cX4_digest 60 = .ok (.lmul, 1) := by decide +kernel
theorem dX4_digest_61 : decode cX4_digest 61 = .ok (.aload_n 0, 1) := by decide +kernel
theorem dX4_digest_62 : decode cX4_digest 62 = .ok (.iload_n 3, 1) := by decide +kernel
theorem dX4_digest_63 : decode cX4_digest 63 = .ok (.iload 4, 2) := by decide +kernel
theorem dX4_digest_65 : decode cX4_digest 65 = .ok (.invokevirtual 103, 3) := by decide +kernel
theorem dX4_digest_68 : decode cX4_digest 68 = .ok (.i2l, 1) := by decide +kernel
theorem dX4_digest_69 : decode cX4_digest 69 = .ok (.ladd, 1) := by decide +kernel
theorem dX4_digest_70 : decode cX4_digest 70 = .ok (.lstore_n 1, 1) := by decide +kernel
theorem dX4_digest_71 : decode cX4_digest 71 = .ok (.iinc 4 1, 3) := by decide +kernel
theorem dX4_digest_74 : decode cX4_digest 74 = .ok (.goto (-25), 3) := by decide +kernel
theorem dX4_digest_77 : decode cX4_digest 77 = .ok (.iinc 3 1, 3) := by decide +kernel
theorem dX4_digest_80 : decode cX4_digest 80 = .ok (.goto (-42), 3) := by decide +kernel
theorem dX4_digest_83 : decode cX4_digest 83 = .ok (.iconst 0, 1) := by decide +kernel
theorem dX4_digest_84 : decode cX4_digest 84 = .ok (.istore_n 3, 1) := by decide +kernel
theorem dX4_digest_85 : decode cX4_digest 85 = .ok (.iload_n 3, 1) := by decide +kernel
theorem dX4_digest_86 : decode cX4_digest 86 = .ok (.bipush 96, 2) := by decide +kernel
theorem dX4_digest_88 : decode cX4_digest 88 = .ok (.if_icmp .ge 46, 3) := by decide +kernel
theorem dX4_digest_91 : decode cX4_digest 91 = .ok (.iconst 0, 1) := by decide +kernel
theorem dX4_digest_92 : decode cX4_digest 92 = .ok (.istore 4, 2) := by decide +kernel
theorem dX4_digest_94 : decode cX4_digest 94 = .ok (.iload 4, 2) := by decide +kernel
theorem dX4_digest_96 : decode cX4_digest 96 = .ok (.iconst 3, 1) := by decide +kernel
theorem dX4_digest_97 : decode cX4_digest 97 = .ok (.if_icmp .ge 31, 3) := by decide +kernel
theorem dX4_digest_100 : decode cX4_digest 100 = .ok (.lload_n 1, 1) := by decide +kernel
theorem dX4_digest_101 : decode cX4_digest 101 = .ok (.ldc2_w 185, 3) := by decide +kernel
theorem dX4_digest_104 : decode cX4_digest 104 = .ok (.lmul, 1) := by decide +kernel
theorem dX4_digest_105 : decode cX4_digest 105 = .ok (.aload_n 0, 1) := by decide +kernel
theorem dX4_digest_106 : decode cX4_digest 106 = .ok (.iload_n 3, 1) := by decide +kernel
theorem dX4_digest_107 : decode cX4_digest 107 = .ok (.bipush 12, 2) := by decide +kernel
theorem dX4_digest_109 : decode cX4_digest 109 = .ok (.irem, 1) := by decide +kernel
theorem dX4_digest_110 : decode cX4_digest 110 = .ok (.iload_n 3, 1) := by decide +kernel
theorem dX4_digest_111 : decode cX4_digest 111 = .ok (.bipush 12, 2) := by decide +kernel
theorem dX4_digest_113 : decode cX4_digest 113 = .ok (.idiv, 1) := by decide +kernel
theorem dX4_digest_114 : decode cX4_digest 114 = .ok (.iload 4, 2) := by decide +kernel
theorem dX4_digest_116 : decode cX4_digest 116 = .ok (.invokevirtual 112, 3) := by decide +kernel
theorem dX4_digest_119 : decode cX4_digest 119 = .ok (.i2l, 1) := by decide +kernel
theorem dX4_digest_120 : decode cX4_digest 120 = .ok (.ladd, 1) := by decide +kernel
theorem dX4_digest_121 : decode cX4_digest 121 = .ok (.lstore_n 1, 1) := by decide +kernel
theorem dX4_digest_122 : decode cX4_digest 122 = .ok (.iinc 4 1, 3) := by decide +kernel
theorem dX4_digest_125 : decode cX4_digest 125 = .ok (.goto (-31), 3) := by decide +kernel
theorem dX4_digest_128 : decode cX4_digest 128 = .ok (.iinc 3 1, 3) := by decide +kernel
theorem dX4_digest_131 : decode cX4_digest 131 = .ok (.goto (-46), 3) := by decide +kernel
theorem dX4_digest_134 : decode cX4_digest 134 = .ok (.iconst 0, 1) := by decide +kernel
theorem dX4_digest_135 : decode cX4_digest 135 = .ok (.istore_n 3, 1) := by decide +kernel
theorem dX4_digest_136 : decode cX4_digest 136 = .ok (.iload_n 3, 1) := by decide +kernel
theorem dX4_digest_137 : decode cX4_digest 137 = .ok (.bipush 7, 2) := by decide +kernel
theorem dX4_digest_139 : decode cX4_digest 139 = .ok (.if_icmp .ge 38, 3) := by decide +kernel
theorem dX4_digest_142 : decode cX4_digest 142 = .ok (.lload_n 1, 1) := by decide +kernel
theorem dX4_digest_143 : decode cX4_digest 143 = .ok (.ldc2_w 185, 3) := by decide +kernel
theorem dX4_digest_146 : decode cX4_digest 146 = .ok (.lmul, 1) := by decide +kernel
theorem dX4_digest_147 : decode cX4_digest 147 = .ok (.aload_n 0, 1) := by decide +kernel
theorem dX4_digest_148 : decode cX4_digest 148 = .ok (.iload_n 3, 1) := by decide +kernel
theorem dX4_digest_149 : decode cX4_digest 149 = .ok (.invokevirtual 97, 3) := by decide +kernel
theorem dX4_digest_152 : decode cX4_digest 152 = .ok (.i2l, 1) := by decide +kernel
theorem dX4_digest_153 : decode cX4_digest 153 = .ok (.ladd, 1) := by decide +kernel
theorem dX4_digest_154 : decode cX4_digest 154 = .ok (.ldc2_w 185, 3) := by decide +kernel
theorem dX4_digest_157 : decode cX4_digest 157 = .ok (.lmul, 1) := by decide +kernel
theorem dX4_digest_158 : decode cX4_digest 158 = .ok (.aload_n 0, 1) := by decide +kernel
theorem dX4_digest_159 : decode cX4_digest 159 = .ok (.getfield 19, 3) := by decide +kernel
theorem dX4_digest_162 : decode cX4_digest 162 = .ok (.iconst 4, 1) := by decide +kernel
theorem dX4_digest_163 : decode cX4_digest 163 = .ok (.iload_n 3, 1) := by decide +kernel
theorem dX4_digest_164 : decode cX4_digest 164 = .ok (.imul, 1) := by decide +kernel
theorem dX4_digest_165 : decode cX4_digest 165 = .ok (.iconst 1, 1) := by decide +kernel
theorem dX4_digest_166 : decode cX4_digest 166 = .ok (.iadd, 1) := by decide +kernel
theorem dX4_digest_167 : decode cX4_digest 167 = .ok (.iaload, 1) := by decide +kernel
theorem dX4_digest_168 : decode cX4_digest 168 = .ok (.i2l, 1) := by decide +kernel
theorem dX4_digest_169 : decode cX4_digest 169 = .ok (.ladd, 1) := by decide +kernel
theorem dX4_digest_170 : decode cX4_digest 170 = .ok (.lstore_n 1, 1) := by decide +kernel
theorem dX4_digest_171 : decode cX4_digest 171 = .ok (.iinc 3 1, 3) := by decide +kernel
theorem dX4_digest_174 : decode cX4_digest 174 = .ok (.goto (-38), 3) := by decide +kernel
theorem dX4_digest_177 : decode cX4_digest 177 = .ok (.lload_n 1, 1) := by decide +kernel
theorem dX4_digest_178 : decode cX4_digest 178 = .ok (.lreturn, 1) := by decide +kernel
theorem dJ9_floorMod_7cf53_0 : decode cJ9_floorMod_7cf53 0 = .ok (.iload_n 0, 1) := by decide +kernel
theorem dJ9_floorMod_7cf53_1 : decode cJ9_floorMod_7cf53 1 = .ok (.iload_n 1, 1) := by decide +kernel
theorem dJ9_floorMod_7cf53_2 : decode cJ9_floorMod_7cf53 2 = .ok (.irem, 1) := by decide +kernel
theorem dJ9_floorMod_7cf53_3 : decode cJ9_floorMod_7cf53 3 = .ok (.istore_n 2, 1) := by decide +kernel
theorem dJ9_floorMod_7cf53_4 : decode cJ9_floorMod_7cf53 4 = .ok (.iload_n 0, 1) := by decide +kernel
theorem dJ9_floorMod_7cf53_5 : decode cJ9_floorMod_7cf53 5 = .ok (.iload_n 1, 1) := by decide +kernel
theorem dJ9_floorMod_7cf53_6 : decode cJ9_floorMod_7cf53 6 = .ok (.ixor, 1) := by decide +kernel
theorem dJ9_floorMod_7cf53_7 : decode cJ9_floorMod_7cf53 7 = .ok (.ifCond .ge 11, 3) := by decide +kernel
theorem dJ9_floorMod_7cf53_10 : decode cJ9_floorMod_7cf53 10 = .ok (.iload_n 2, 1) := by decide +kernel
theorem dJ9_floorMod_7cf53_11 : decode cJ9_floorMod_7cf53 11 = .ok (.ifCond .eq 7, 3) := by decide +kernel
theorem dJ9_floorMod_7cf53_14 : decode cJ9_floorMod_7cf53 14 = .ok (.iload_n 2, 1) := by decide +kernel
theorem dJ9_floorMod_7cf53_15 : decode cJ9_floorMod_7cf53 15 = .ok (.iload_n 1, 1) := by decide +kernel
theorem dJ9_floorMod_7cf53_16 : decode cJ9_floorMod_7cf53 16 = .ok (.iadd, 1) := by decide +kernel
theorem dJ9_floorMod_7cf53_17 : decode cJ9_floorMod_7cf53 17 = .ok (.ireturn, 1) := by decide +kernel
theorem dJ9_floorMod_7cf53_18 : decode cJ9_floorMod_7cf53 18 = .ok (.iload_n 2, 1) := by decide +kernel
theorem dJ9_floorMod_7cf53_19 : decode cJ9_floorMod_7cf53 19 = .ok (.ireturn, 1) := by decide +kernel
theorem dJ9_min_7cf53_0 : decode cJ9_min_7cf53 0 = .ok (.iload_n 0, 1) := by decide +kernel
theorem dJ9_min_7cf53_1 : decode cJ9_min_7cf53 1 = .ok (.iload_n 1, 1) := by decide +kernel
theorem dJ9_min_7cf53_2 : decode cJ9_min_7cf53 2 = .ok (.if_icmp .gt 7, 3) := by decide +kernel
theorem dJ9_min_7cf53_5 : decode cJ9_min_7cf53 5 = .ok (.iload_n 0, 1) := by decide +kernel
theorem dJ9_min_7cf53_6 : decode cJ9_min_7cf53 6 = .ok (.goto 4, 3) := by decide +kernel
theorem dJ9_min_7cf53_9 : decode cJ9_min_7cf53 9 = .ok (.iload_n 1, 1) := by decide +kernel
theorem dJ9_min_7cf53_10 : decode cJ9_min_7cf53 10 = .ok (.ireturn, 1) := by decide +kernel
theorem dL_lay_0 : decode cL_lay 0 = .ok (.aload 5, 2) := by decide +kernel
theorem dL_lay_2 : decode cL_lay 2 = .ok (.iconst 0, 1) := by decide +kernel
theorem dL_lay_3 : decode cL_lay 3 = .ok (.aload_n 0, 1) := by decide +kernel
theorem dL_lay_4 : decode cL_lay 4 = .ok (.iload_n 1, 1) := by decide +kernel
theorem dL_lay_5 : decode cL_lay 5 = .ok (.iload_n 2, 1) := by decide +kernel
theorem dL_lay_6 : decode cL_lay 6 = .ok (.iload_n 3, 1) := by decide +kernel
theorem dL_lay_7 : decode cL_lay 7 = .ok (.iload 4, 2) := by decide +kernel
theorem dL_lay_9 : decode cL_lay 9 = .ok (.invokevirtual 7, 3) := by decide +kernel
theorem dL_lay_12 : decode cL_lay 12 = .ok (.i2l, 1) := by decide +kernel
theorem dL_lay_13 : decode cL_lay 13 = .ok (.lastore, 1) := by decide +kernel
theorem dL_lay_14 : decode cL_lay 14 = .ok (.goto 11, 3) := by decide +kernel
theorem dL_lay_17 : decode cL_lay 17 = .ok (.astore 6, 2) := by decide +kernel
theorem dL_lay_19 : decode cL_lay 19 = .ok (.iconst 1, 1) := by decide +kernel
theorem dL_lay_20 : decode cL_lay 20 = .ok (.ireturn, 1) := by decide +kernel
theorem dL_lay_21 : decode cL_lay 21 = .ok (.astore 6, 2) := by decide +kernel
theorem dL_lay_23 : decode cL_lay 23 = .ok (.iconst 2, 1) := by decide +kernel
theorem dL_lay_24 : decode cL_lay 24 = .ok (.ireturn, 1) := by decide +kernel
theorem dL_lay_25 : decode cL_lay 25 = .ok (.iconst 0, 1) := by decide +kernel
theorem dL_lay_26 : decode cL_lay 26 = .ok (.ireturn, 1) := by decide +kernel
theorem dL_take_0 : decode cL_take 0 = .ok (.aload_n 2, 1) := by decide +kernel
theorem dL_take_1 : decode cL_take 1 = .ok (.iconst 0, 1) := by decide +kernel
theorem dL_take_2 : decode cL_take 2 = .ok (.aload_n 0, 1) := by decide +kernel
theorem dL_take_3 : decode cL_take 3 = .ok (.iload_n 1, 1) := by decide +kernel
theorem dL_take_4 : decode cL_take 4 = .ok (.invokevirtual 17, 3) := by decide +kernel
theorem dL_take_7 : decode cL_take 7 = .ok (.i2l, 1) := by decide +kernel
theorem dL_take_8 : decode cL_take 8 = .ok (.lastore, 1) := by decide +kernel
theorem dL_take_9 : decode cL_take 9 = .ok (.goto 9, 3) := by decide +kernel
theorem dL_take_12 : decode cL_take 12 = .ok (.astore_n 3, 1) := by decide +kernel
theorem dL_take_13 : decode cL_take 13 = .ok (.iconst 1, 1) := by decide +kernel
theorem dL_take_14 : decode cL_take 14 = .ok (.ireturn, 1) := by decide +kernel
theorem dL_take_15 : decode cL_take 15 = .ok (.astore_n 3, 1) := by decide +kernel
theorem dL_take_16 : decode cL_take 16 = .ok (.iconst 2, 1) := by decide +kernel
theorem dL_take_17 : decode cL_take 17 = .ok (.ireturn, 1) := by decide +kernel
theorem dL_take_18 : decode cL_take 18 = .ok (.iconst 0, 1) := by decide +kernel
theorem dL_take_19 : decode cL_take 19 = .ok (.ireturn, 1) := by decide +kernel
theorem dL_nail_0 : decode cL_nail 0 = .ok (.aload_n 3, 1) := by decide +kernel
theorem dL_nail_1 : decode cL_nail 1 = .ok (.iconst 0, 1) := by decide +kernel
theorem dL_nail_2 : decode cL_nail 2 = .ok (.aload_n 0, 1) := by decide +kernel
theorem dL_nail_3 : decode cL_nail 3 = .ok (.iload_n 1, 1) := by decide +kernel
theorem dL_nail_4 : decode cL_nail 4 = .ok (.iload_n 2, 1) := by decide +kernel
theorem dL_nail_5 : decode cL_nail 5 = .ok (.invokevirtual 23, 3) := by decide +kernel
theorem dL_nail_8 : decode cL_nail 8 = .ok (.i2l, 1) := by decide +kernel
theorem dL_nail_9 : decode cL_nail 9 = .ok (.lastore, 1) := by decide +kernel
theorem dL_nail_10 : decode cL_nail 10 = .ok (.goto 15, 3) := by decide +kernel
theorem dL_nail_13 : decode cL_nail 13 = .ok (.astore 4, 2) := by decide +kernel
theorem dL_nail_15 : decode cL_nail 15 = .ok (.iconst 1, 1) := by decide +kernel
theorem dL_nail_16 : decode cL_nail 16 = .ok (.ireturn, 1) := by decide +kernel
theorem dL_nail_17 : decode cL_nail 17 = .ok (.astore 4, 2) := by decide +kernel
theorem dL_nail_19 : decode cL_nail 19 = .ok (.iconst 2, 1) := by decide +kernel
theorem dL_nail_20 : decode cL_nail 20 = .ok (.ireturn, 1) := by decide +kernel
theorem dL_nail_21 : decode cL_nail 21 = .ok (.astore 4, 2) := by decide +kernel
theorem dL_nail_23 : decode cL_nail 23 = .ok (.iconst 3, 1) := by decide +kernel
theorem dL_nail_24 : decode cL_nail 24 = .ok (.ireturn, 1) := by decide +kernel
theorem dL_nail_25 : decode cL_nail 25 = .ok (.iconst 0, 1) := by decide +kernel
theorem dL_nail_26 : decode cL_nail 26 = .ok (.ireturn, 1) := by decide +kernel
theorem dL_board_0 : decode cL_board 0 = .ok (.aload_n 3, 1) := by decide +kernel
theorem dL_board_1 : decode cL_board 1 = .ok (.iconst 0, 1) := by decide +kernel
theorem dL_board_2 : decode cL_board 2 = .ok (.aload_n 0, 1) := by decide +kernel
theorem dL_board_3 : decode cL_board 3 = .ok (.iload_n 1, 1) := by decide +kernel
theorem dL_board_4 : decode cL_board 4 = .ok (.iload_n 2, 1) := by decide +kernel
theorem dL_board_5 : decode cL_board 5 = .ok (.invokevirtual 27, 3) := by decide +kernel
theorem dL_board_8 : decode cL_board 8 = .ok (.i2l, 1) := by decide +kernel
theorem dL_board_9 : decode cL_board 9 = .ok (.lastore, 1) := by decide +kernel
theorem dL_board_10 : decode cL_board 10 = .ok (.goto 11, 3) := by decide +kernel
theorem dL_board_13 : decode cL_board 13 = .ok (.astore 4, 2) := by decide +kernel
theorem dL_board_15 : decode cL_board 15 = .ok (.iconst 1, 1) := by decide +kernel
theorem dL_board_16 : decode cL_board 16 = .ok (.ireturn, 1) := by decide +kernel
theorem dL_board_17 : decode cL_board 17 = .ok (.astore 4, 2) := by decide +kernel
theorem dL_board_19 : decode cL_board 19 = .ok (.iconst 2, 1) := by decide +kernel
theorem dL_board_20 : decode cL_board 20 = .ok (.ireturn, 1) := by decide +kernel
theorem dL_board_21 : decode cL_board 21 = .ok (.iconst 0, 1) := by decide +kernel
theorem dL_board_22 : decode cL_board 22 = .ok (.ireturn, 1) := by decide +kernel
theorem dL_setDay_0 : decode cL_setDay 0 = .ok (.aload 6, 2) := by decide +kernel
theorem dL_setDay_2 : decode cL_setDay 2 = .ok (.iconst 0, 1) := by decide +kernel
theorem dL_setDay_3 : decode cL_setDay 3 = .ok (.aload_n 0, 1) := by decide +kernel
theorem dL_setDay_4 : decode cL_setDay 4 = .ok (.iload_n 1, 1) := by decide +kernel
theorem dL_setDay_5 : decode cL_setDay 5 = .ok (.iload_n 2, 1) := by decide +kernel
theorem dL_setDay_6 : decode cL_setDay 6 = .ok (.iload_n 3, 1) := by decide +kernel
theorem dL_setDay_7 : decode cL_setDay 7 = .ok (.iload 4, 2) := by decide +kernel
theorem dL_setDay_9 : decode cL_setDay 9 = .ok (.iload 5, 2) := by decide +kernel
theorem dL_setDay_11 : decode cL_setDay 11 = .ok (.invokevirtual 30, 3) := by decide +kernel
theorem dL_setDay_14 : decode cL_setDay 14 = .ok (.i2l, 1) := by decide +kernel
theorem dL_setDay_15 : decode cL_setDay 15 = .ok (.lastore, 1) := by decide +kernel
theorem dL_setDay_16 : decode cL_setDay 16 = .ok (.goto 11, 3) := by decide +kernel
theorem dL_setDay_19 : decode cL_setDay 19 = .ok (.astore 7, 2) := by decide +kernel
theorem dL_setDay_21 : decode cL_setDay 21 = .ok (.iconst 1, 1) := by decide +kernel
theorem dL_setDay_22 : decode cL_setDay 22 = .ok (.ireturn, 1) := by decide +kernel
theorem dL_setDay_23 : decode cL_setDay 23 = .ok (.astore 7, 2) := by decide +kernel
theorem dL_setDay_25 : decode cL_setDay 25 = .ok (.iconst 2, 1) := by decide +kernel
theorem dL_setDay_26 : decode cL_setDay 26 = .ok (.ireturn, 1) := by decide +kernel
theorem dL_setDay_27 : decode cL_setDay 27 = .ok (.iconst 0, 1) := by decide +kernel
theorem dL_setDay_28 : decode cL_setDay 28 = .ok (.ireturn, 1) := by decide +kernel
theorem dL_slate_0 : decode cL_slate 0 = .ok (.aload_n 3, 1) := by decide +kernel
theorem dL_slate_1 : decode cL_slate 1 = .ok (.iconst 0, 1) := by decide +kernel
theorem dL_slate_2 : decode cL_slate 2 = .ok (.aload_n 0, 1) := by decide +kernel
theorem dL_slate_3 : decode cL_slate 3 = .ok (.iload_n 1, 1) := by decide +kernel
theorem dL_slate_4 : decode cL_slate 4 = .ok (.iload_n 2, 1) := by decide +kernel
theorem dL_slate_5 : decode cL_slate 5 = .ok (.invokevirtual 34, 3) := by decide +kernel
theorem dL_slate_8 : decode cL_slate 8 = .ok (.i2l, 1) := by decide +kernel
theorem dL_slate_9 : decode cL_slate 9 = .ok (.lastore, 1) := by decide +kernel
theorem dL_slate_10 : decode cL_slate 10 = .ok (.goto 7, 3) := by decide +kernel
theorem dL_slate_13 : decode cL_slate 13 = .ok (.astore 4, 2) := by decide +kernel
theorem dL_slate_15 : decode cL_slate 15 = .ok (.iconst 1, 1) := by decide +kernel
theorem dL_slate_16 : decode cL_slate 16 = .ok (.ireturn, 1) := by decide +kernel
theorem dL_slate_17 : decode cL_slate 17 = .ok (.iconst 0, 1) := by decide +kernel
theorem dL_slate_18 : decode cL_slate 18 = .ok (.ireturn, 1) := by decide +kernel
theorem dL_place_0 : decode cL_place 0 = .ok (.aload 4, 2) := by decide +kernel
theorem dL_place_2 : decode cL_place 2 = .ok (.iconst 0, 1) := by decide +kernel
theorem dL_place_3 : decode cL_place 3 = .ok (.aload_n 0, 1) := by decide +kernel
theorem dL_place_4 : decode cL_place 4 = .ok (.iload_n 1, 1) := by decide +kernel
theorem dL_place_5 : decode cL_place 5 = .ok (.iload_n 2, 1) := by decide +kernel
theorem dL_place_6 : decode cL_place 6 = .ok (.iload_n 3, 1) := by decide +kernel
theorem dL_place_7 : decode cL_place 7 = .ok (.invokevirtual 37, 3) := by decide +kernel
theorem dL_place_10 : decode cL_place 10 = .ok (.i2l, 1) := by decide +kernel
theorem dL_place_11 : decode cL_place 11 = .ok (.lastore, 1) := by decide +kernel
theorem dL_place_12 : decode cL_place 12 = .ok (.goto 7, 3) := by decide +kernel
theorem dL_place_15 : decode cL_place 15 = .ok (.astore 5, 2) := by decide +kernel
theorem dL_place_17 : decode cL_place 17 = .ok (.iconst 1, 1) := by decide +kernel
theorem dL_place_18 : decode cL_place 18 = .ok (.ireturn, 1) := by decide +kernel
theorem dL_place_19 : decode cL_place 19 = .ok (.iconst 0, 1) := by decide +kernel
theorem dL_place_20 : decode cL_place 20 = .ok (.ireturn, 1) := by decide +kernel
theorem dL_count_0 : decode cL_count 0 = .ok (.aload_n 2, 1) := by decide +kernel
theorem dL_count_1 : decode cL_count 1 = .ok (.iconst 0, 1) := by decide +kernel
theorem dL_count_2 : decode cL_count 2 = .ok (.aload_n 0, 1) := by decide +kernel
theorem dL_count_3 : decode cL_count 3 = .ok (.iload_n 1, 1) := by decide +kernel
theorem dL_count_4 : decode cL_count 4 = .ok (.invokevirtual 41, 3) := by decide +kernel
theorem dL_count_7 : decode cL_count 7 = .ok (.i2l, 1) := by decide +kernel
theorem dL_count_8 : decode cL_count 8 = .ok (.lastore, 1) := by decide +kernel
theorem dL_count_9 : decode cL_count 9 = .ok (.goto 6, 3) := by decide +kernel
theorem dL_count_12 : decode cL_count 12 = .ok (.astore_n 3, 1) := by decide +kernel
theorem dL_count_13 : decode cL_count 13 = .ok (.iconst 1, 1) := by decide +kernel
theorem dL_count_14 : decode cL_count 14 = .ok (.ireturn, 1) := by decide +kernel
theorem dL_count_15 : decode cL_count 15 = .ok (.iconst 0, 1) := by decide +kernel
theorem dL_count_16 : decode cL_count 16 = .ok (.ireturn, 1) := by decide +kernel
theorem dL_lift_0 : decode cL_lift 0 = .ok (.aload 4, 2) := by decide +kernel
theorem dL_lift_2 : decode cL_lift 2 = .ok (.iconst 0, 1) := by decide +kernel
theorem dL_lift_3 : decode cL_lift 3 = .ok (.aload_n 0, 1) := by decide +kernel
theorem dL_lift_4 : decode cL_lift 4 = .ok (.iload_n 1, 1) := by decide +kernel
theorem dL_lift_5 : decode cL_lift 5 = .ok (.iload_n 2, 1) := by decide +kernel
theorem dL_lift_6 : decode cL_lift 6 = .ok (.iload_n 3, 1) := by decide +kernel
theorem dL_lift_7 : decode cL_lift 7 = .ok (.invokevirtual 44, 3) := by decide +kernel
theorem dL_lift_10 : decode cL_lift 10 = .ok (.i2l, 1) := by decide +kernel
theorem dL_lift_11 : decode cL_lift 11 = .ok (.lastore, 1) := by decide +kernel
theorem dL_lift_12 : decode cL_lift 12 = .ok (.goto 15, 3) := by decide +kernel
theorem dL_lift_15 : decode cL_lift 15 = .ok (.astore 5, 2) := by decide +kernel
theorem dL_lift_17 : decode cL_lift 17 = .ok (.iconst 1, 1) := by decide +kernel
theorem dL_lift_18 : decode cL_lift 18 = .ok (.ireturn, 1) := by decide +kernel
theorem dL_lift_19 : decode cL_lift 19 = .ok (.astore 5, 2) := by decide +kernel
theorem dL_lift_21 : decode cL_lift 21 = .ok (.iconst 2, 1) := by decide +kernel
theorem dL_lift_22 : decode cL_lift 22 = .ok (.ireturn, 1) := by decide +kernel
theorem dL_lift_23 : decode cL_lift 23 = .ok (.astore 5, 2) := by decide +kernel
theorem dL_lift_25 : decode cL_lift 25 = .ok (.iconst 3, 1) := by decide +kernel
theorem dL_lift_26 : decode cL_lift 26 = .ok (.ireturn, 1) := by decide +kernel
theorem dL_lift_27 : decode cL_lift 27 = .ok (.iconst 0, 1) := by decide +kernel
theorem dL_lift_28 : decode cL_lift 28 = .ok (.ireturn, 1) := by decide +kernel
theorem dL_storm_0 : decode cL_storm 0 = .ok (.aload 4, 2) := by decide +kernel
theorem dL_storm_2 : decode cL_storm 2 = .ok (.iconst 0, 1) := by decide +kernel
theorem dL_storm_3 : decode cL_storm 3 = .ok (.aload_n 0, 1) := by decide +kernel
theorem dL_storm_4 : decode cL_storm 4 = .ok (.iload_n 1, 1) := by decide +kernel
theorem dL_storm_5 : decode cL_storm 5 = .ok (.iload_n 2, 1) := by decide +kernel
theorem dL_storm_6 : decode cL_storm 6 = .ok (.iload_n 3, 1) := by decide +kernel
theorem dL_storm_7 : decode cL_storm 7 = .ok (.invokevirtual 48, 3) := by decide +kernel
theorem dL_storm_10 : decode cL_storm 10 = .ok (.i2l, 1) := by decide +kernel
theorem dL_storm_11 : decode cL_storm 11 = .ok (.lastore, 1) := by decide +kernel
theorem dL_storm_12 : decode cL_storm 12 = .ok (.goto 11, 3) := by decide +kernel
theorem dL_storm_15 : decode cL_storm 15 = .ok (.astore 5, 2) := by decide +kernel
theorem dL_storm_17 : decode cL_storm 17 = .ok (.iconst 1, 1) := by decide +kernel
theorem dL_storm_18 : decode cL_storm 18 = .ok (.ireturn, 1) := by decide +kernel
theorem dL_storm_19 : decode cL_storm 19 = .ok (.astore 5, 2) := by decide +kernel
theorem dL_storm_21 : decode cL_storm 21 = .ok (.iconst 2, 1) := by decide +kernel
theorem dL_storm_22 : decode cL_storm 22 = .ok (.ireturn, 1) := by decide +kernel
theorem dL_storm_23 : decode cL_storm 23 = .ok (.iconst 0, 1) := by decide +kernel
theorem dL_storm_24 : decode cL_storm 24 = .ok (.ireturn, 1) := by decide +kernel
theorem dL_comes_0 : decode cL_comes 0 = .ok (.aload 4, 2) := by decide +kernel
theorem dL_comes_2 : decode cL_comes 2 = .ok (.iconst 0, 1) := by decide +kernel
theorem dL_comes_3 : decode cL_comes 3 = .ok (.aload_n 0, 1) := by decide +kernel
theorem dL_comes_4 : decode cL_comes 4 = .ok (.iload_n 1, 1) := by decide +kernel
theorem dL_comes_5 : decode cL_comes 5 = .ok (.iload_n 2, 1) := by decide +kernel
theorem dL_comes_6 : decode cL_comes 6 = .ok (.iload_n 3, 1) := by decide +kernel
theorem dL_comes_7 : decode cL_comes 7 = .ok (.invokevirtual 52, 3) := by decide +kernel
theorem dL_comes_10 : decode cL_comes 10 = .ok (.i2l, 1) := by decide +kernel
theorem dL_comes_11 : decode cL_comes 11 = .ok (.lastore, 1) := by decide +kernel
theorem dL_comes_12 : decode cL_comes 12 = .ok (.goto 11, 3) := by decide +kernel
theorem dL_comes_15 : decode cL_comes 15 = .ok (.astore 5, 2) := by decide +kernel
theorem dL_comes_17 : decode cL_comes 17 = .ok (.iconst 1, 1) := by decide +kernel
theorem dL_comes_18 : decode cL_comes 18 = .ok (.ireturn, 1) := by decide +kernel
theorem dL_comes_19 : decode cL_comes 19 = .ok (.astore 5, 2) := by decide +kernel
theorem dL_comes_21 : decode cL_comes 21 = .ok (.iconst 2, 1) := by decide +kernel
theorem dL_comes_22 : decode cL_comes 22 = .ok (.ireturn, 1) := by decide +kernel
theorem dL_comes_23 : decode cL_comes 23 = .ok (.iconst 0, 1) := by decide +kernel
theorem dL_comes_24 : decode cL_comes 24 = .ok (.ireturn, 1) := by decide +kernel
theorem dL_leaks_0 : decode cL_leaks 0 = .ok (.aload_n 2, 1) := by decide +kernel
theorem dL_leaks_1 : decode cL_leaks 1 = .ok (.iconst 0, 1) := by decide +kernel
theorem dL_leaks_2 : decode cL_leaks 2 = .ok (.aload_n 0, 1) := by decide +kernel
theorem dL_leaks_3 : decode cL_leaks 3 = .ok (.iload_n 1, 1) := by decide +kernel
theorem dL_leaks_4 : decode cL_leaks 4 = .ok (.invokevirtual 55, 3) := by decide +kernel
theorem dL_leaks_7 : decode cL_leaks 7 = .ok (.i2l, 1) := by decide +kernel
theorem dL_leaks_8 : decode cL_leaks 8 = .ok (.lastore, 1) := by decide +kernel
theorem dL_leaks_9 : decode cL_leaks 9 = .ok (.goto 6, 3) := by decide +kernel
theorem dL_leaks_12 : decode cL_leaks 12 = .ok (.astore_n 3, 1) := by decide +kernel
theorem dL_leaks_13 : decode cL_leaks 13 = .ok (.iconst 1, 1) := by decide +kernel
theorem dL_leaks_14 : decode cL_leaks 14 = .ok (.ireturn, 1) := by decide +kernel
theorem dL_leaks_15 : decode cL_leaks 15 = .ok (.iconst 0, 1) := by decide +kernel
theorem dL_leaks_16 : decode cL_leaks 16 = .ok (.ireturn, 1) := by decide +kernel
theorem dL_needs_0 : decode cL_needs 0 = .ok (.aload 4, 2) := by decide +kernel
theorem dL_needs_2 : decode cL_needs 2 = .ok (.iconst 0, 1) := by decide +kernel
theorem dL_needs_3 : decode cL_needs 3 = .ok (.aload_n 0, 1) := by decide +kernel
theorem dL_needs_4 : decode cL_needs 4 = .ok (.iload_n 1, 1) := by decide +kernel
theorem dL_needs_5 : decode cL_needs 5 = .ok (.iload_n 2, 1) := by decide +kernel
theorem dL_needs_6 : decode cL_needs 6 = .ok (.iload_n 3, 1) := by decide +kernel
theorem dL_needs_7 : decode cL_needs 7 = .ok (.invokevirtual 58, 3) := by decide +kernel
theorem dL_needs_10 : decode cL_needs 10 = .ok (.i2l, 1) := by decide +kernel
theorem dL_needs_11 : decode cL_needs 11 = .ok (.lastore, 1) := by decide +kernel
theorem dL_needs_12 : decode cL_needs 12 = .ok (.goto 7, 3) := by decide +kernel
theorem dL_needs_15 : decode cL_needs 15 = .ok (.astore 5, 2) := by decide +kernel
theorem dL_needs_17 : decode cL_needs 17 = .ok (.iconst 1, 1) := by decide +kernel
theorem dL_needs_18 : decode cL_needs 18 = .ok (.ireturn, 1) := by decide +kernel
theorem dL_needs_19 : decode cL_needs 19 = .ok (.iconst 0, 1) := by decide +kernel
theorem dL_needs_20 : decode cL_needs 20 = .ok (.ireturn, 1) := by decide +kernel
theorem dL_pass_0 : decode cL_pass 0 = .ok (.aload_n 2, 1) := by decide +kernel
theorem dL_pass_1 : decode cL_pass 1 = .ok (.iconst 0, 1) := by decide +kernel
theorem dL_pass_2 : decode cL_pass 2 = .ok (.aload_n 0, 1) := by decide +kernel
theorem dL_pass_3 : decode cL_pass 3 = .ok (.iload_n 1, 1) := by decide +kernel
theorem dL_pass_4 : decode cL_pass 4 = .ok (.invokevirtual 61, 3) := by decide +kernel
theorem dL_pass_7 : decode cL_pass 7 = .ok (.i2l, 1) := by decide +kernel
theorem dL_pass_8 : decode cL_pass 8 = .ok (.lastore, 1) := by decide +kernel
theorem dL_pass_9 : decode cL_pass 9 = .ok (.goto 6, 3) := by decide +kernel
theorem dL_pass_12 : decode cL_pass 12 = .ok (.astore_n 3, 1) := by decide +kernel
theorem dL_pass_13 : decode cL_pass 13 = .ok (.iconst 1, 1) := by decide +kernel
theorem dL_pass_14 : decode cL_pass 14 = .ok (.ireturn, 1) := by decide +kernel
theorem dL_pass_15 : decode cL_pass 15 = .ok (.iconst 0, 1) := by decide +kernel
theorem dL_pass_16 : decode cL_pass 16 = .ok (.ireturn, 1) := by decide +kernel
theorem dL_foresee_0 : decode cL_foresee 0 = .ok (.aload_n 3, 1) := by decide +kernel
theorem dL_foresee_1 : decode cL_foresee 1 = .ok (.iconst 0, 1) := by decide +kernel
theorem dL_foresee_2 : decode cL_foresee 2 = .ok (.aload_n 0, 1) := by decide +kernel
theorem dL_foresee_3 : decode cL_foresee 3 = .ok (.iload_n 1, 1) := by decide +kernel
theorem dL_foresee_4 : decode cL_foresee 4 = .ok (.iload_n 2, 1) := by decide +kernel
theorem dL_foresee_5 : decode cL_foresee 5 = .ok (.invokevirtual 64, 3) := by decide +kernel
theorem dL_foresee_8 : decode cL_foresee 8 = .ok (.i2l, 1) := by decide +kernel
theorem dL_foresee_9 : decode cL_foresee 9 = .ok (.lastore, 1) := by decide +kernel
theorem dL_foresee_10 : decode cL_foresee 10 = .ok (.goto 11, 3) := by decide +kernel
theorem dL_foresee_13 : decode cL_foresee 13 = .ok (.astore 4, 2) := by decide +kernel
theorem dL_foresee_15 : decode cL_foresee 15 = .ok (.iconst 1, 1) := by decide +kernel
theorem dL_foresee_16 : decode cL_foresee 16 = .ok (.ireturn, 1) := by decide +kernel
theorem dL_foresee_17 : decode cL_foresee 17 = .ok (.astore 4, 2) := by decide +kernel
theorem dL_foresee_19 : decode cL_foresee 19 = .ok (.iconst 2, 1) := by decide +kernel
theorem dL_foresee_20 : decode cL_foresee 20 = .ok (.ireturn, 1) := by decide +kernel
theorem dL_foresee_21 : decode cL_foresee 21 = .ok (.iconst 0, 1) := by decide +kernel
theorem dL_foresee_22 : decode cL_foresee 22 = .ok (.ireturn, 1) := by decide +kernel
theorem dL_law_0 : decode cL_law 0 = .ok (.new 8, 3) := by decide +kernel
theorem dL_law_3 : decode cL_law 3 = .ok (.dup, 1) := by decide +kernel
theorem dL_law_4 : decode cL_law 4 = .ok (.invokespecial 67, 3) := by decide +kernel
theorem dL_law_7 : decode cL_law 7 = .ok (.astore_n 1, 1) := by decide +kernel
theorem dL_law_8 : decode cL_law 8 = .ok (.new 68, 3) := by decide +kernel
theorem dL_law_11 : decode cL_law 11 = .ok (.dup, 1) := by decide +kernel
theorem dL_law_12 : decode cL_law 12 = .ok (.invokespecial 70, 3) := by decide +kernel
theorem dL_law_15 : decode cL_law 15 = .ok (.astore_n 2, 1) := by decide +kernel
theorem dL_law_16 : decode cL_law 16 = .ok (.iconst 1, 1) := by decide +kernel
theorem dL_law_17 : decode cL_law 17 = .ok (.newarray .long, 2) := by decide +kernel
theorem dL_law_19 : decode cL_law 19 = .ok (.astore_n 3, 1) := by decide +kernel
theorem dL_law_20 : decode cL_law 20 = .ok (.iconst 0, 1) := by decide +kernel
theorem dL_law_21 : decode cL_law 21 = .ok (.istore 4, 2) := by decide +kernel
theorem dL_law_23 : decode cL_law 23 = .ok (.iload 4, 2) := by decide +kernel
theorem dL_law_25 : decode cL_law 25 = .ok (.aload_n 0, 1) := by decide +kernel
theorem dL_law_26 : decode cL_law 26 = .ok (.arraylength, 1) := by decide +kernel
theorem dL_law_27 : decode cL_law 27 = .ok (.bipush 6, 2) := by decide +kernel
theorem dL_law_29 : decode cL_law 29 = .ok (.isub, 1) := by decide +kernel
theorem dL_law_30 : decode cL_law 30 = .ok (.if_icmp .gt 1357, 3) := by decide +kernel
theorem dL_law_33 : decode cL_law 33 = .ok (.aload_n 0, 1) := by decide +kernel
theorem dL_law_34 : decode cL_law 34 = .ok (.iload 4, 2) := by decide +kernel
theorem dL_law_36 : decode cL_law 36 = .ok (.iaload, 1) := by decide +kernel
theorem dL_law_37 : decode cL_law 37 = .ok (.bipush 31, 2) := by decide +kernel
theorem dL_law_39 : decode cL_law 39 = .ok (.iand, 1) := by decide +kernel
theorem dL_law_40 : decode cL_law 40 = .ok (.tableswitch 1341 0 18 #[92, 184, 240, 308, 376, 496, 564, 644, 700, 796, 892, 933, 1013, 1069, 1149, 1162, 1218, 1286, 1327], 92) := by decide +kernel
theorem dL_law_132 : decode cL_law 132 = .ok (.aload_n 1, 1) := by decide +kernel
theorem dL_law_133 : decode cL_law 133 = .ok (.aload_n 0, 1) := by decide +kernel
theorem dL_law_134 : decode cL_law 134 = .ok (.iload 4, 2) := by decide +kernel
theorem dL_law_136 : decode cL_law 136 = .ok (.iconst 1, 1) := by decide +kernel
theorem dL_law_137 : decode cL_law 137 = .ok (.iadd, 1) := by decide +kernel
theorem dL_law_138 : decode cL_law 138 = .ok (.iaload, 1) := by decide +kernel
theorem dL_law_139 : decode cL_law 139 = .ok (.aload_n 0, 1) := by decide +kernel
theorem dL_law_140 : decode cL_law 140 = .ok (.iload 4, 2) := by decide +kernel
theorem dL_law_142 : decode cL_law 142 = .ok (.iconst 2, 1) := by decide +kernel
theorem dL_law_143 : decode cL_law 143 = .ok (.iadd, 1) := by decide +kernel
theorem dL_law_144 : decode cL_law 144 = .ok (.iaload, 1) := by decide +kernel
theorem dL_law_145 : decode cL_law 145 = .ok (.aload_n 0, 1) := by decide +kernel
theorem dL_law_146 : decode cL_law 146 = .ok (.iload 4, 2) := by decide +kernel
theorem dL_law_148 : decode cL_law 148 = .ok (.iconst 3, 1) := by decide +kernel
theorem dL_law_149 : decode cL_law 149 = .ok (.iadd, 1) := by decide +kernel
theorem dL_law_150 : decode cL_law 150 = .ok (.iaload, 1) := by decide +kernel
theorem dL_law_151 : decode cL_law 151 = .ok (.aload_n 0, 1) := by decide +kernel
theorem dL_law_152 : decode cL_law 152 = .ok (.iload 4, 2) := by decide +kernel
theorem dL_law_154 : decode cL_law 154 = .ok (.iconst 4, 1) := by decide +kernel
theorem dL_law_155 : decode cL_law 155 = .ok (.iadd, 1) := by decide +kernel
theorem dL_law_156 : decode cL_law 156 = .ok (.iaload, 1) := by decide +kernel
theorem dL_law_157 : decode cL_law 157 = .ok (.aload_n 3, 1) := by decide +kernel
theorem dL_law_158 : decode cL_law 158 = .ok (.invokestatic 71, 3) := by decide +kernel
theorem dL_law_161 : decode cL_law 161 = .ok (.istore 5, 2) := by decide +kernel
theorem dL_law_163 : decode cL_law 163 = .ok (.aload_n 2, 1) := by decide +kernel
theorem dL_law_164 : decode cL_law 164 = .ok (.aload_n 0, 1) := by decide +kernel
theorem dL_law_165 : decode cL_law 165 = .ok (.iload 4, 2) := by decide +kernel
theorem dL_law_167 : decode cL_law 167 = .ok (.iconst 1, 1) := by decide +kernel
theorem dL_law_168 : decode cL_law 168 = .ok (.iadd, 1) := by decide +kernel
theorem dL_law_169 : decode cL_law 169 = .ok (.iaload, 1) := by decide +kernel
theorem dL_law_170 : decode cL_law 170 = .ok (.aload_n 0, 1) := by decide +kernel
theorem dL_law_171 : decode cL_law 171 = .ok (.iload 4, 2) := by decide +kernel
theorem dL_law_173 : decode cL_law 173 = .ok (.iconst 2, 1) := by decide +kernel
theorem dL_law_174 : decode cL_law 174 = .ok (.iadd, 1) := by decide +kernel
theorem dL_law_175 : decode cL_law 175 = .ok (.iaload, 1) := by decide +kernel
theorem dL_law_176 : decode cL_law 176 = .ok (.aload_n 0, 1) := by decide +kernel
theorem dL_law_177 : decode cL_law 177 = .ok (.iload 4, 2) := by decide +kernel
theorem dL_law_179 : decode cL_law 179 = .ok (.iconst 3, 1) := by decide +kernel
theorem dL_law_180 : decode cL_law 180 = .ok (.iadd, 1) := by decide +kernel
theorem dL_law_181 : decode cL_law 181 = .ok (.iaload, 1) := by decide +kernel
theorem dL_law_182 : decode cL_law 182 = .ok (.aload_n 0, 1) := by decide +kernel
theorem dL_law_183 : decode cL_law 183 = .ok (.iload 4, 2) := by decide +kernel
theorem dL_law_185 : decode cL_law 185 = .ok (.iconst 4, 1) := by decide +kernel
theorem dL_law_186 : decode cL_law 186 = .ok (.iadd, 1) := by decide +kernel
theorem dL_law_187 : decode cL_law 187 = .ok (.iaload, 1) := by decide +kernel
theorem dL_law_188 : decode cL_law 188 = .ok (.invokevirtual 76, 3) := by decide +kernel
theorem dL_law_191 : decode cL_law 191 = .ok (.istore 6, 2) := by decide +kernel
theorem dL_law_193 : decode cL_law 193 = .ok (.aload_n 2, 1) := by decide +kernel
theorem dL_law_194 : decode cL_law 194 = .ok (.invokevirtual 77, 3) := by decide +kernel
theorem dL_law_197 : decode cL_law 197 = .ok (.iload 5, 2) := by decide +kernel
theorem dL_law_199 : decode cL_law 199 = .ok (.if_icmp .eq 5, 3) := by decide +kernel
theorem dL_law_202 : decode cL_law 202 = .ok (.iconst 0, 1) := by decide +kernel
theorem dL_law_203 : decode cL_law 203 = .ok (.ireturn, 1) := by decide +kernel
theorem dL_law_204 : decode cL_law 204 = .ok (.iload 5, 2) := by decide +kernel
theorem dL_law_206 : decode cL_law 206 = .ok (.ifCond .ne 15, 3) := by decide +kernel
theorem dL_law_209 : decode cL_law 209 = .ok (.aload_n 3, 1) := by decide +kernel
theorem dL_law_210 : decode cL_law 210 = .ok (.iconst 0, 1) := by decide +kernel
theorem dL_law_211 : decode cL_law 211 = .ok (.laload, 1) := by decide +kernel
theorem dL_law_212 : decode cL_law 212 = .ok (.iload 6, 2) := by decide +kernel
theorem dL_law_214 : decode cL_law 214 = .ok (.i2l, 1) := by decide +kernel
theorem dL_law_215 : decode cL_law 215 = .ok (.lcmp, 1) := by decide +kernel
theorem dL_law_216 : decode cL_law 216 = .ok (.ifCond .eq 5, 3) := by decide +kernel
theorem dL_law_219 : decode cL_law 219 = .ok (.iconst 0, 1) := by decide +kernel
theorem dL_law_220 : decode cL_law 220 = .ok (.ireturn, 1) := by decide +kernel
theorem dL_law_221 : decode cL_law 221 = .ok (.goto 1160, 3) := by decide +kernel
theorem dL_law_224 : decode cL_law 224 = .ok (.aload_n 1, 1) := by decide +kernel
theorem dL_law_225 : decode cL_law 225 = .ok (.aload_n 0, 1) := by decide +kernel
theorem dL_law_226 : decode cL_law 226 = .ok (.iload 4, 2) := by decide +kernel
theorem dL_law_228 : decode cL_law 228 = .ok (.iconst 1, 1) := by decide +kernel
theorem dL_law_229 : decode cL_law 229 = .ok (.iadd, 1) := by decide +kernel
theorem dL_law_230 : decode cL_law 230 = .ok (.iaload, 1) := by decide +kernel
theorem dL_law_231 : decode cL_law 231 = .ok (.aload_n 3, 1) := by decide +kernel
theorem dL_law_232 : decode cL_law 232 = .ok (.invokestatic 81, 3) := by decide +kernel
theorem dL_law_235 : decode cL_law 235 = .ok (.istore 5, 2) := by decide +kernel
theorem dL_law_237 : decode cL_law 237 = .ok (.aload_n 2, 1) := by decide +kernel
theorem dL_law_238 : decode cL_law 238 = .ok (.aload_n 0, 1) := by decide +kernel
theorem dL_law_239 : decode cL_law 239 = .ok (.iload 4, 2) := by decide +kernel
theorem dL_law_241 : decode cL_law 241 = .ok (.iconst 1, 1) := by decide +kernel
theorem dL_law_242 : decode cL_law 242 = .ok (.iadd, 1) := by decide +kernel
theorem dL_law_243 : decode cL_law 243 = .ok (.iaload, 1) := by decide +kernel
theorem dL_law_244 : decode cL_law 244 = .ok (.invokevirtual 84, 3) := by decide +kernel
theorem dL_law_247 : decode cL_law 247 = .ok (.istore 6, 2) := by decide +kernel
theorem dL_law_249 : decode cL_law 249 = .ok (.aload_n 2, 1) := by decide +kernel
theorem dL_law_250 : decode cL_law 250 = .ok (.invokevirtual 77, 3) := by decide +kernel
theorem dL_law_253 : decode cL_law 253 = .ok (.iload 5, 2) := by decide +kernel
theorem dL_law_255 : decode cL_law 255 = .ok (.if_icmp .eq 5, 3) := by decide +kernel
theorem dL_law_258 : decode cL_law 258 = .ok (.iconst 0, 1) := by decide +kernel
theorem dL_law_259 : decode cL_law 259 = .ok (.ireturn, 1) := by decide +kernel
theorem dL_law_260 : decode cL_law 260 = .ok (.iload 5, 2) := by decide +kernel
theorem dL_law_262 : decode cL_law 262 = .ok (.ifCond .ne 15, 3) := by decide +kernel
theorem dL_law_265 : decode cL_law 265 = .ok (.aload_n 3, 1) := by decide +kernel
theorem dL_law_266 : decode cL_law 266 = .ok (.iconst 0, 1) := by decide +kernel
theorem dL_law_267 : decode cL_law 267 = .ok (.laload, 1) := by decide +kernel
theorem dL_law_268 : decode cL_law 268 = .ok (.iload 6, 2) := by decide +kernel
theorem dL_law_270 : decode cL_law 270 = .ok (.i2l, 1) := by decide +kernel
theorem dL_law_271 : decode cL_law 271 = .ok (.lcmp, 1) := by decide +kernel
theorem dL_law_272 : decode cL_law 272 = .ok (.ifCond .eq 5, 3) := by decide +kernel
theorem dL_law_275 : decode cL_law 275 = .ok (.iconst 0, 1) := by decide +kernel
theorem dL_law_276 : decode cL_law 276 = .ok (.ireturn, 1) := by decide +kernel
theorem dL_law_277 : decode cL_law 277 = .ok (.goto 1104, 3) := by decide +kernel
theorem dL_law_280 : decode cL_law 280 = .ok (.aload_n 1, 1) := by decide +kernel
theorem dL_law_281 : decode cL_law 281 = .ok (.aload_n 0, 1) := by decide +kernel
theorem dL_law_282 : decode cL_law 282 = .ok (.iload 4, 2) := by decide +kernel
theorem dL_law_284 : decode cL_law 284 = .ok (.iconst 1, 1) := by decide +kernel
theorem dL_law_285 : decode cL_law 285 = .ok (.iadd, 1) := by decide +kernel
theorem dL_law_286 : decode cL_law 286 = .ok (.iaload, 1) := by decide +kernel
theorem dL_law_287 : decode cL_law 287 = .ok (.aload_n 0, 1) := by decide +kernel
theorem dL_law_288 : decode cL_law 288 = .ok (.iload 4, 2) := by decide +kernel
theorem dL_law_290 : decode cL_law 290 = .ok (.iconst 2, 1) := by decide +kernel
theorem dL_law_291 : decode cL_law 291 = .ok (.iadd, 1) := by decide +kernel
theorem dL_law_292 : decode cL_law 292 = .ok (.iaload, 1) := by decide +kernel
theorem dL_law_293 : decode cL_law 293 = .ok (.aload_n 3, 1) := by decide +kernel
theorem dL_law_294 : decode cL_law 294 = .ok (.invokestatic 85, 3) := by decide +kernel
theorem dL_law_297 : decode cL_law 297 = .ok (.istore 5, 2) := by decide +kernel
theorem dL_law_299 : decode cL_law 299 = .ok (.aload_n 2, 1) := by decide +kernel
theorem dL_law_300 : decode cL_law 300 = .ok (.aload_n 0, 1) := by decide +kernel
theorem dL_law_301 : decode cL_law 301 = .ok (.iload 4, 2) := by decide +kernel
theorem dL_law_303 : decode cL_law 303 = .ok (.iconst 1, 1) := by decide +kernel
theorem dL_law_304 : decode cL_law 304 = .ok (.iadd, 1) := by decide +kernel
theorem dL_law_305 : decode cL_law 305 = .ok (.iaload, 1) := by decide +kernel
theorem dL_law_306 : decode cL_law 306 = .ok (.aload_n 0, 1) := by decide +kernel
theorem dL_law_307 : decode cL_law 307 = .ok (.iload 4, 2) := by decide +kernel
theorem dL_law_309 : decode cL_law 309 = .ok (.iconst 2, 1) := by decide +kernel
theorem dL_law_310 : decode cL_law 310 = .ok (.iadd, 1) := by decide +kernel
theorem dL_law_311 : decode cL_law 311 = .ok (.iaload, 1) := by decide +kernel
theorem dL_law_312 : decode cL_law 312 = .ok (.invokevirtual 88, 3) := by decide +kernel
theorem dL_law_315 : decode cL_law 315 = .ok (.istore 6, 2) := by decide +kernel
theorem dL_law_317 : decode cL_law 317 = .ok (.aload_n 2, 1) := by decide +kernel
theorem dL_law_318 : decode cL_law 318 = .ok (.invokevirtual 77, 3) := by decide +kernel
theorem dL_law_321 : decode cL_law 321 = .ok (.iload 5, 2) := by decide +kernel
theorem dL_law_323 : decode cL_law 323 = .ok (.if_icmp .eq 5, 3) := by decide +kernel
theorem dL_law_326 : decode cL_law 326 = .ok (.iconst 0, 1) := by decide +kernel
theorem dL_law_327 : decode cL_law 327 = .ok (.ireturn, 1) := by decide +kernel
theorem dL_law_328 : decode cL_law 328 = .ok (.iload 5, 2) := by decide +kernel
theorem dL_law_330 : decode cL_law 330 = .ok (.ifCond .ne 15, 3) := by decide +kernel
theorem dL_law_333 : decode cL_law 333 = .ok (.aload_n 3, 1) := by decide +kernel
theorem dL_law_334 : decode cL_law 334 = .ok (.iconst 0, 1) := by decide +kernel
theorem dL_law_335 : decode cL_law 335 = .ok (.laload, 1) := by decide +kernel
theorem dL_law_336 : decode cL_law 336 = .ok (.iload 6, 2) := by decide +kernel
theorem dL_law_338 : decode cL_law 338 = .ok (.i2l, 1) := by decide +kernel
theorem dL_law_339 : decode cL_law 339 = .ok (.lcmp, 1) := by decide +kernel
theorem dL_law_340 : decode cL_law 340 = .ok (.ifCond .eq 5, 3) := by decide +kernel
theorem dL_law_343 : decode cL_law 343 = .ok (.iconst 0, 1) := by decide +kernel
theorem dL_law_344 : decode cL_law 344 = .ok (.ireturn, 1) := by decide +kernel
theorem dL_law_345 : decode cL_law 345 = .ok (.goto 1036, 3) := by decide +kernel
theorem dL_law_348 : decode cL_law 348 = .ok (.aload_n 1, 1) := by decide +kernel
theorem dL_law_349 : decode cL_law 349 = .ok (.aload_n 0, 1) := by decide +kernel
theorem dL_law_350 : decode cL_law 350 = .ok (.iload 4, 2) := by decide +kernel
theorem dL_law_352 : decode cL_law 352 = .ok (.iconst 1, 1) := by decide +kernel
theorem dL_law_353 : decode cL_law 353 = .ok (.iadd, 1) := by decide +kernel
theorem dL_law_354 : decode cL_law 354 = .ok (.iaload, 1) := by decide +kernel
theorem dL_law_355 : decode cL_law 355 = .ok (.aload_n 0, 1) := by decide +kernel
theorem dL_law_356 : decode cL_law 356 = .ok (.iload 4, 2) := by decide +kernel
theorem dL_law_358 : decode cL_law 358 = .ok (.iconst 2, 1) := by decide +kernel
theorem dL_law_359 : decode cL_law 359 = .ok (.iadd, 1) := by decide +kernel
theorem dL_law_360 : decode cL_law 360 = .ok (.iaload, 1) := by decide +kernel
theorem dL_law_361 : decode cL_law 361 = .ok (.aload_n 3, 1) := by decide +kernel
theorem dL_law_362 : decode cL_law 362 = .ok (.invokestatic 89, 3) := by decide +kernel
theorem dL_law_365 : decode cL_law 365 = .ok (.istore 5, 2) := by decide +kernel
theorem dL_law_367 : decode cL_law 367 = .ok (.aload_n 2, 1) := by decide +kernel
theorem dL_law_368 : decode cL_law 368 = .ok (.aload_n 0, 1) := by decide +kernel
theorem dL_law_369 : decode cL_law 369 = .ok (.iload 4, 2) := by decide +kernel
theorem dL_law_371 : decode cL_law 371 = .ok (.iconst 1, 1) := by decide +kernel
theorem dL_law_372 : decode cL_law 372 = .ok (.iadd, 1) := by decide +kernel
theorem dL_law_373 : decode cL_law 373 = .ok (.iaload, 1) := by decide +kernel
theorem dL_law_374 : decode cL_law 374 = .ok (.aload_n 0, 1) := by decide +kernel
theorem dL_law_375 : decode cL_law 375 = .ok (.iload 4, 2) := by decide +kernel
theorem dL_law_377 : decode cL_law 377 = .ok (.iconst 2, 1) := by decide +kernel
theorem dL_law_378 : decode cL_law 378 = .ok (.iadd, 1) := by decide +kernel
theorem dL_law_379 : decode cL_law 379 = .ok (.iaload, 1) := by decide +kernel
theorem dL_law_380 : decode cL_law 380 = .ok (.invokevirtual 91, 3) := by decide +kernel
theorem dL_law_383 : decode cL_law 383 = .ok (.istore 6, 2) := by decide +kernel
theorem dL_law_385 : decode cL_law 385 = .ok (.aload_n 2, 1) := by decide +kernel
theorem dL_law_386 : decode cL_law 386 = .ok (.invokevirtual 77, 3) := by decide +kernel
theorem dL_law_389 : decode cL_law 389 = .ok (.iload 5, 2) := by decide +kernel
theorem dL_law_391 : decode cL_law 391 = .ok (.if_icmp .eq 5, 3) := by decide +kernel
theorem dL_law_394 : decode cL_law 394 = .ok (.iconst 0, 1) := by decide +kernel
theorem dL_law_395 : decode cL_law 395 = .ok (.ireturn, 1) := by decide +kernel
theorem dL_law_396 : decode cL_law 396 = .ok (.iload 5, 2) := by decide +kernel
theorem dL_law_398 : decode cL_law 398 = .ok (.ifCond .ne 15, 3) := by decide +kernel
theorem dL_law_401 : decode cL_law 401 = .ok (.aload_n 3, 1) := by decide +kernel
theorem dL_law_402 : decode cL_law 402 = .ok (.iconst 0, 1) := by decide +kernel
theorem dL_law_403 : decode cL_law 403 = .ok (.laload, 1) := by decide +kernel
theorem dL_law_404 : decode cL_law 404 = .ok (.iload 6, 2) := by decide +kernel
theorem dL_law_406 : decode cL_law 406 = .ok (.i2l, 1) := by decide +kernel
theorem dL_law_407 : decode cL_law 407 = .ok (.lcmp, 1) := by decide +kernel
theorem dL_law_408 : decode cL_law 408 = .ok (.ifCond .eq 5, 3) := by decide +kernel
theorem dL_law_411 : decode cL_law 411 = .ok (.iconst 0, 1) := by decide +kernel
theorem dL_law_412 : decode cL_law 412 = .ok (.ireturn, 1) := by decide +kernel
theorem dL_law_413 : decode cL_law 413 = .ok (.goto 968, 3) := by decide +kernel
theorem dL_law_416 : decode cL_law 416 = .ok (.aload_n 1, 1) := by decide +kernel
theorem dL_law_417 : decode cL_law 417 = .ok (.aload_n 0, 1) := by decide +kernel
theorem dL_law_418 : decode cL_law 418 = .ok (.iload 4, 2) := by decide +kernel
theorem dL_law_420 : decode cL_law 420 = .ok (.iconst 1, 1) := by decide +kernel
theorem dL_law_421 : decode cL_law 421 = .ok (.iadd, 1) := by decide +kernel
theorem dL_law_422 : decode cL_law 422 = .ok (.iaload, 1) := by decide +kernel
theorem dL_law_423 : decode cL_law 423 = .ok (.aload_n 0, 1) := by decide +kernel
theorem dL_law_424 : decode cL_law 424 = .ok (.iload 4, 2) := by decide +kernel
theorem dL_law_426 : decode cL_law 426 = .ok (.iconst 2, 1) := by decide +kernel
theorem dL_law_427 : decode cL_law 427 = .ok (.iadd, 1) := by decide +kernel
theorem dL_law_428 : decode cL_law 428 = .ok (.iaload, 1) := by decide +kernel
theorem dL_law_429 : decode cL_law 429 = .ok (.aload_n 0, 1) := by decide +kernel
theorem dL_law_430 : decode cL_law 430 = .ok (.iload 4, 2) := by decide +kernel
theorem dL_law_432 : decode cL_law 432 = .ok (.iconst 3, 1) := by decide +kernel
theorem dL_law_433 : decode cL_law 433 = .ok (.iadd, 1) := by decide +kernel
theorem dL_law_434 : decode cL_law 434 = .ok (.iaload, 1) := by decide +kernel
theorem dL_law_435 : decode cL_law 435 = .ok (.ifCond .eq 7, 3) := by decide +kernel
theorem dL_law_438 : decode cL_law 438 = .ok (.iconst 1, 1) := by decide +kernel
theorem dL_law_439 : decode cL_law 439 = .ok (.goto 4, 3) := by decide +kernel
theorem dL_law_442 : decode cL_law 442 = .ok (.iconst 0, 1) := by decide +kernel
theorem dL_law_443 : decode cL_law 443 = .ok (.aload_n 0, 1) := by decide +kernel
theorem dL_law_444 : decode cL_law 444 = .ok (.iload 4, 2) := by decide +kernel
theorem dL_law_446 : decode cL_law 446 = .ok (.iconst 4, 1) := by decide +kernel
theorem dL_law_447 : decode cL_law 447 = .ok (.iadd, 1) := by decide +kernel
theorem dL_law_448 : decode cL_law 448 = .ok (.iaload, 1) := by decide +kernel
theorem dL_law_449 : decode cL_law 449 = .ok (.aload_n 0, 1) := by decide +kernel
theorem dL_law_450 : decode cL_law 450 = .ok (.iload 4, 2) := by decide +kernel
theorem dL_law_452 : decode cL_law 452 = .ok (.iconst 5, 1) := by decide +kernel
theorem dL_law_453 : decode cL_law 453 = .ok (.iadd, 1) := by decide +kernel
theorem dL_law_454 : decode cL_law 454 = .ok (.iaload, 1) := by decide +kernel
theorem dL_law_455 : decode cL_law 455 = .ok (.aload_n 3, 1) := by decide +kernel
theorem dL_law_456 : decode cL_law 456 = .ok (.invokestatic 92, 3) := by decide +kernel
theorem dL_law_459 : decode cL_law 459 = .ok (.istore 5, 2) := by decide +kernel
theorem dL_law_461 : decode cL_law 461 = .ok (.aload_n 2, 1) := by decide +kernel
theorem dL_law_462 : decode cL_law 462 = .ok (.aload_n 0, 1) := by decide +kernel
theorem dL_law_463 : decode cL_law 463 = .ok (.iload 4, 2) := by decide +kernel
theorem dL_law_465 : decode cL_law 465 = .ok (.iconst 1, 1) := by decide +kernel
theorem dL_law_466 : decode cL_law 466 = .ok (.iadd, 1) := by decide +kernel
theorem dL_law_467 : decode cL_law 467 = .ok (.iaload, 1) := by decide +kernel
theorem dL_law_468 : decode cL_law 468 = .ok (.aload_n 0, 1) := by decide +kernel
theorem dL_law_469 : decode cL_law 469 = .ok (.iload 4, 2) := by decide +kernel
theorem dL_law_471 : decode cL_law 471 = .ok (.iconst 2, 1) := by decide +kernel
theorem dL_law_472 : decode cL_law 472 = .ok (.iadd, 1) := by decide +kernel
theorem dL_law_473 : decode cL_law 473 = .ok (.iaload, 1) := by decide +kernel
theorem dL_law_474 : decode cL_law 474 = .ok (.aload_n 0, 1) := by decide +kernel
theorem dL_law_475 : decode cL_law 475 = .ok (.iload 4, 2) := by decide +kernel
theorem dL_law_477 : decode cL_law 477 = .ok (.iconst 3, 1) := by decide +kernel
theorem dL_law_478 : decode cL_law 478 = .ok (.iadd, 1) := by decide +kernel
theorem dL_law_479 : decode cL_law 479 = .ok (.iaload, 1) := by decide +kernel
theorem dL_law_480 : decode cL_law 480 = .ok (.ifCond .eq 7, 3) := by decide +kernel
theorem dL_law_483 : decode cL_law 483 = .ok (.iconst 1, 1) := by decide +kernel
theorem dL_law_484 : decode cL_law 484 = .ok (.goto 4, 3) := by decide +kernel
theorem dL_law_487 : decode cL_law 487 = .ok (.iconst 0, 1) := by decide +kernel
theorem dL_law_488 : decode cL_law 488 = .ok (.aload_n 0, 1) := by decide +kernel
theorem dL_law_489 : decode cL_law 489 = .ok (.iload 4, 2) := by decide +kernel
theorem dL_law_491 : decode cL_law 491 = .ok (.iconst 4, 1) := by decide +kernel
theorem dL_law_492 : decode cL_law 492 = .ok (.iadd, 1) := by decide +kernel
theorem dL_law_493 : decode cL_law 493 = .ok (.iaload, 1) := by decide +kernel
theorem dL_law_494 : decode cL_law 494 = .ok (.aload_n 0, 1) := by decide +kernel
theorem dL_law_495 : decode cL_law 495 = .ok (.iload 4, 2) := by decide +kernel
theorem dL_law_497 : decode cL_law 497 = .ok (.iconst 5, 1) := by decide +kernel
theorem dL_law_498 : decode cL_law 498 = .ok (.iadd, 1) := by decide +kernel
theorem dL_law_499 : decode cL_law 499 = .ok (.iaload, 1) := by decide +kernel
theorem dL_law_500 : decode cL_law 500 = .ok (.invokevirtual 95, 3) := by decide +kernel
theorem dL_law_503 : decode cL_law 503 = .ok (.istore 6, 2) := by decide +kernel
theorem dL_law_505 : decode cL_law 505 = .ok (.aload_n 2, 1) := by decide +kernel
theorem dL_law_506 : decode cL_law 506 = .ok (.invokevirtual 77, 3) := by decide +kernel
theorem dL_law_509 : decode cL_law 509 = .ok (.iload 5, 2) := by decide +kernel
theorem dL_law_511 : decode cL_law 511 = .ok (.if_icmp .eq 5, 3) := by decide +kernel
theorem dL_law_514 : decode cL_law 514 = .ok (.iconst 0, 1) := by decide +kernel
theorem dL_law_515 : decode cL_law 515 = .ok (.ireturn, 1) := by decide +kernel
theorem dL_law_516 : decode cL_law 516 = .ok (.iload 5, 2) := by decide +kernel
theorem dL_law_518 : decode cL_law 518 = .ok (.ifCond .ne 15, 3) := by decide +kernel
theorem dL_law_521 : decode cL_law 521 = .ok (.aload_n 3, 1) := by decide +kernel
theorem dL_law_522 : decode cL_law 522 = .ok (.iconst 0, 1) := by decide +kernel
theorem dL_law_523 : decode cL_law 523 = .ok (.laload, 1) := by decide +kernel
theorem dL_law_524 : decode cL_law 524 = .ok (.iload 6, 2) := by decide +kernel
theorem dL_law_526 : decode cL_law 526 = .ok (.i2l, 1) := by decide +kernel
theorem dL_law_527 : decode cL_law 527 = .ok (.lcmp, 1) := by decide +kernel
theorem dL_law_528 : decode cL_law 528 = .ok (.ifCond .eq 5, 3) := by decide +kernel
theorem dL_law_531 : decode cL_law 531 = .ok (.iconst 0, 1) := by decide +kernel
theorem dL_law_532 : decode cL_law 532 = .ok (.ireturn, 1) := by decide +kernel
theorem dL_law_533 : decode cL_law 533 = .ok (.goto 848, 3) := by decide +kernel
theorem dL_law_536 : decode cL_law 536 = .ok (.aload_n 1, 1) := by decide +kernel
theorem dL_law_537 : decode cL_law 537 = .ok (.aload_n 0, 1) := by decide +kernel
theorem dL_law_538 : decode cL_law 538 = .ok (.iload 4, 2) := by decide +kernel
theorem dL_law_540 : decode cL_law 540 = .ok (.iconst 1, 1) := by decide +kernel
theorem dL_law_541 : decode cL_law 541 = .ok (.iadd, 1) := by decide +kernel
theorem dL_law_542 : decode cL_law 542 = .ok (.iaload, 1) := by decide +kernel
theorem dL_law_543 : decode cL_law 543 = .ok (.aload_n 0, 1) := by decide +kernel
theorem dL_law_544 : decode cL_law 544 = .ok (.iload 4, 2) := by decide +kernel
theorem dL_law_546 : decode cL_law 546 = .ok (.iconst 2, 1) := by decide +kernel
theorem dL_law_547 : decode cL_law 547 = .ok (.iadd, 1) := by decide +kernel
theorem dL_law_548 : decode cL_law 548 = .ok (.iaload, 1) := by decide +kernel
theorem dL_law_549 : decode cL_law 549 = .ok (.aload_n 3, 1) := by decide +kernel
theorem dL_law_550 : decode cL_law 550 = .ok (.invokestatic 96, 3) := by decide +kernel
theorem dL_law_553 : decode cL_law 553 = .ok (.istore 5, 2) := by decide +kernel
theorem dL_law_555 : decode cL_law 555 = .ok (.aload_n 2, 1) := by decide +kernel
theorem dL_law_556 : decode cL_law 556 = .ok (.aload_n 0, 1) := by decide +kernel
theorem dL_law_557 : decode cL_law 557 = .ok (.iload 4, 2) := by decide +kernel
theorem dL_law_559 : decode cL_law 559 = .ok (.iconst 1, 1) := by decide +kernel
theorem dL_law_560 : decode cL_law 560 = .ok (.iadd, 1) := by decide +kernel
theorem dL_law_561 : decode cL_law 561 = .ok (.iaload, 1) := by decide +kernel
theorem dL_law_562 : decode cL_law 562 = .ok (.aload_n 0, 1) := by decide +kernel
theorem dL_law_563 : decode cL_law 563 = .ok (.iload 4, 2) := by decide +kernel
theorem dL_law_565 : decode cL_law 565 = .ok (.iconst 2, 1) := by decide +kernel
theorem dL_law_566 : decode cL_law 566 = .ok (.iadd, 1) := by decide +kernel
theorem dL_law_567 : decode cL_law 567 = .ok (.iaload, 1) := by decide +kernel
theorem dL_law_568 : decode cL_law 568 = .ok (.invokevirtual 98, 3) := by decide +kernel
theorem dL_law_571 : decode cL_law 571 = .ok (.istore 6, 2) := by decide +kernel
theorem dL_law_573 : decode cL_law 573 = .ok (.aload_n 2, 1) := by decide +kernel
theorem dL_law_574 : decode cL_law 574 = .ok (.invokevirtual 77, 3) := by decide +kernel
theorem dL_law_577 : decode cL_law 577 = .ok (.iload 5, 2) := by decide +kernel
theorem dL_law_579 : decode cL_law 579 = .ok (.if_icmp .eq 5, 3) := by decide +kernel
theorem dL_law_582 : decode cL_law 582 = .ok (.iconst 0, 1) := by decide +kernel
theorem dL_law_583 : decode cL_law 583 = .ok (.ireturn, 1) := by decide +kernel
theorem dL_law_584 : decode cL_law 584 = .ok (.iload 5, 2) := by decide +kernel
theorem dL_law_586 : decode cL_law 586 = .ok (.ifCond .ne 15, 3) := by decide +kernel
theorem dL_law_589 : decode cL_law 589 = .ok (.aload_n 3, 1) := by decide +kernel
theorem dL_law_590 : decode cL_law 590 = .ok (.iconst 0, 1) := by decide +kernel
theorem dL_law_591 : decode cL_law 591 = .ok (.laload, 1) := by decide +kernel
theorem dL_law_592 : decode cL_law 592 = .ok (.iload 6, 2) := by decide +kernel
theorem dL_law_594 : decode cL_law 594 = .ok (.i2l, 1) := by decide +kernel
theorem dL_law_595 : decode cL_law 595 = .ok (.lcmp, 1) := by decide +kernel
theorem dL_law_596 : decode cL_law 596 = .ok (.ifCond .eq 5, 3) := by decide +kernel
theorem dL_law_599 : decode cL_law 599 = .ok (.iconst 0, 1) := by decide +kernel
theorem dL_law_600 : decode cL_law 600 = .ok (.ireturn, 1) := by decide +kernel
theorem dL_law_601 : decode cL_law 601 = .ok (.goto 780, 3) := by decide +kernel
theorem dL_law_604 : decode cL_law 604 = .ok (.aload_n 1, 1) := by decide +kernel
theorem dL_law_605 : decode cL_law 605 = .ok (.aload_n 0, 1) := by decide +kernel
theorem dL_law_606 : decode cL_law 606 = .ok (.iload 4, 2) := by decide +kernel
theorem dL_law_608 : decode cL_law 608 = .ok (.iconst 1, 1) := by decide +kernel
theorem dL_law_609 : decode cL_law 609 = .ok (.iadd, 1) := by decide +kernel
theorem dL_law_610 : decode cL_law 610 = .ok (.iaload, 1) := by decide +kernel
theorem dL_law_611 : decode cL_law 611 = .ok (.aload_n 0, 1) := by decide +kernel
theorem dL_law_612 : decode cL_law 612 = .ok (.iload 4, 2) := by decide +kernel
theorem dL_law_614 : decode cL_law 614 = .ok (.iconst 2, 1) := by decide +kernel
theorem dL_law_615 : decode cL_law 615 = .ok (.iadd, 1) := by decide +kernel
theorem dL_law_616 : decode cL_law 616 = .ok (.iaload, 1) := by decide +kernel
theorem dL_law_617 : decode cL_law 617 = .ok (.aload_n 0, 1) := by decide +kernel
theorem dL_law_618 : decode cL_law 618 = .ok (.iload 4, 2) := by decide +kernel
theorem dL_law_620 : decode cL_law 620 = .ok (.iconst 3, 1) := by decide +kernel
theorem dL_law_621 : decode cL_law 621 = .ok (.iadd, 1) := by decide +kernel
theorem dL_law_622 : decode cL_law 622 = .ok (.iaload, 1) := by decide +kernel
theorem dL_law_623 : decode cL_law 623 = .ok (.aload_n 3, 1) := by decide +kernel
theorem dL_law_624 : decode cL_law 624 = .ok (.invokestatic 99, 3) := by decide +kernel
theorem dL_law_627 : decode cL_law 627 = .ok (.istore 5, 2) := by decide +kernel
theorem dL_law_629 : decode cL_law 629 = .ok (.aload_n 2, 1) := by decide +kernel
theorem dL_law_630 : decode cL_law 630 = .ok (.aload_n 0, 1) := by decide +kernel
theorem dL_law_631 : decode cL_law 631 = .ok (.iload 4, 2) := by decide +kernel
theorem dL_law_633 : decode cL_law 633 = .ok (.iconst 1, 1) := by decide +kernel
theorem dL_law_634 : decode cL_law 634 = .ok (.iadd, 1) := by decide +kernel
theorem dL_law_635 : decode cL_law 635 = .ok (.iaload, 1) := by decide +kernel
theorem dL_law_636 : decode cL_law 636 = .ok (.aload_n 0, 1) := by decide +kernel
theorem dL_law_637 : decode cL_law 637 = .ok (.iload 4, 2) := by decide +kernel
theorem dL_law_639 : decode cL_law 639 = .ok (.iconst 2, 1) := by decide +kernel
theorem dL_law_640 : decode cL_law 640 = .ok (.iadd, 1) := by decide +kernel
theorem dL_law_641 : decode cL_law 641 = .ok (.iaload, 1) := by decide +kernel
theorem dL_law_642 : decode cL_law 642 = .ok (.aload_n 0, 1) := by decide +kernel
theorem dL_law_643 : decode cL_law 643 = .ok (.iload 4, 2) := by decide +kernel
theorem dL_law_645 : decode cL_law 645 = .ok (.iconst 3, 1) := by decide +kernel
theorem dL_law_646 : decode cL_law 646 = .ok (.iadd, 1) := by decide +kernel
theorem dL_law_647 : decode cL_law 647 = .ok (.iaload, 1) := by decide +kernel
theorem dL_law_648 : decode cL_law 648 = .ok (.invokevirtual 102, 3) := by decide +kernel
theorem dL_law_651 : decode cL_law 651 = .ok (.istore 6, 2) := by decide +kernel
theorem dL_law_653 : decode cL_law 653 = .ok (.aload_n 2, 1) := by decide +kernel
theorem dL_law_654 : decode cL_law 654 = .ok (.invokevirtual 77, 3) := by decide +kernel
theorem dL_law_657 : decode cL_law 657 = .ok (.iload 5, 2) := by decide +kernel
theorem dL_law_659 : decode cL_law 659 = .ok (.if_icmp .eq 5, 3) := by decide +kernel
theorem dL_law_662 : decode cL_law 662 = .ok (.iconst 0, 1) := by decide +kernel
theorem dL_law_663 : decode cL_law 663 = .ok (.ireturn, 1) := by decide +kernel
theorem dL_law_664 : decode cL_law 664 = .ok (.iload 5, 2) := by decide +kernel
theorem dL_law_666 : decode cL_law 666 = .ok (.ifCond .ne 15, 3) := by decide +kernel
theorem dL_law_669 : decode cL_law 669 = .ok (.aload_n 3, 1) := by decide +kernel
theorem dL_law_670 : decode cL_law 670 = .ok (.iconst 0, 1) := by decide +kernel
theorem dL_law_671 : decode cL_law 671 = .ok (.laload, 1) := by decide +kernel
theorem dL_law_672 : decode cL_law 672 = .ok (.iload 6, 2) := by decide +kernel
theorem dL_law_674 : decode cL_law 674 = .ok (.i2l, 1) := by decide +kernel
theorem dL_law_675 : decode cL_law 675 = .ok (.lcmp, 1) := by decide +kernel
theorem dL_law_676 : decode cL_law 676 = .ok (.ifCond .eq 5, 3) := by decide +kernel
theorem dL_law_679 : decode cL_law 679 = .ok (.iconst 0, 1) := by decide +kernel
theorem dL_law_680 : decode cL_law 680 = .ok (.ireturn, 1) := by decide +kernel
theorem dL_law_681 : decode cL_law 681 = .ok (.goto 700, 3) := by decide +kernel
theorem dL_law_684 : decode cL_law 684 = .ok (.aload_n 1, 1) := by decide +kernel
theorem dL_law_685 : decode cL_law 685 = .ok (.aload_n 0, 1) := by decide +kernel
theorem dL_law_686 : decode cL_law 686 = .ok (.iload 4, 2) := by decide +kernel
theorem dL_law_688 : decode cL_law 688 = .ok (.iconst 1, 1) := by decide +kernel
theorem dL_law_689 : decode cL_law 689 = .ok (.iadd, 1) := by decide +kernel
theorem dL_law_690 : decode cL_law 690 = .ok (.iaload, 1) := by decide +kernel
theorem dL_law_691 : decode cL_law 691 = .ok (.aload_n 3, 1) := by decide +kernel
theorem dL_law_692 : decode cL_law 692 = .ok (.invokestatic 103, 3) := by decide +kernel
theorem dL_law_695 : decode cL_law 695 = .ok (.istore 5, 2) := by decide +kernel
theorem dL_law_697 : decode cL_law 697 = .ok (.aload_n 2, 1) := by decide +kernel
theorem dL_law_698 : decode cL_law 698 = .ok (.aload_n 0, 1) := by decide +kernel
theorem dL_law_699 : decode cL_law 699 = .ok (.iload 4, 2) := by decide +kernel
theorem dL_law_701 : decode cL_law 701 = .ok (.iconst 1, 1) := by decide +kernel
theorem dL_law_702 : decode cL_law 702 = .ok (.iadd, 1) := by decide +kernel
theorem dL_law_703 : decode cL_law 703 = .ok (.iaload, 1) := by decide +kernel
theorem dL_law_704 : decode cL_law 704 = .ok (.invokevirtual 105, 3) := by decide +kernel
theorem dL_law_707 : decode cL_law 707 = .ok (.istore 6, 2) := by decide +kernel
theorem dL_law_709 : decode cL_law 709 = .ok (.aload_n 2, 1) := by decide +kernel
theorem dL_law_710 : decode cL_law 710 = .ok (.invokevirtual 77, 3) := by decide +kernel
theorem dL_law_713 : decode cL_law 713 = .ok (.iload 5, 2) := by decide +kernel
theorem dL_law_715 : decode cL_law 715 = .ok (.if_icmp .eq 5, 3) := by decide +kernel
theorem dL_law_718 : decode cL_law 718 = .ok (.iconst 0, 1) := by decide +kernel
theorem dL_law_719 : decode cL_law 719 = .ok (.ireturn, 1) := by decide +kernel
theorem dL_law_720 : decode cL_law 720 = .ok (.iload 5, 2) := by decide +kernel
theorem dL_law_722 : decode cL_law 722 = .ok (.ifCond .ne 15, 3) := by decide +kernel
theorem dL_law_725 : decode cL_law 725 = .ok (.aload_n 3, 1) := by decide +kernel
theorem dL_law_726 : decode cL_law 726 = .ok (.iconst 0, 1) := by decide +kernel
theorem dL_law_727 : decode cL_law 727 = .ok (.laload, 1) := by decide +kernel
theorem dL_law_728 : decode cL_law 728 = .ok (.iload 6, 2) := by decide +kernel
theorem dL_law_730 : decode cL_law 730 = .ok (.i2l, 1) := by decide +kernel
theorem dL_law_731 : decode cL_law 731 = .ok (.lcmp, 1) := by decide +kernel
theorem dL_law_732 : decode cL_law 732 = .ok (.ifCond .eq 5, 3) := by decide +kernel
theorem dL_law_735 : decode cL_law 735 = .ok (.iconst 0, 1) := by decide +kernel
theorem dL_law_736 : decode cL_law 736 = .ok (.ireturn, 1) := by decide +kernel
theorem dL_law_737 : decode cL_law 737 = .ok (.goto 644, 3) := by decide +kernel
theorem dL_law_740 : decode cL_law 740 = .ok (.aload_n 1, 1) := by decide +kernel
theorem dL_law_741 : decode cL_law 741 = .ok (.aload_n 0, 1) := by decide +kernel
theorem dL_law_742 : decode cL_law 742 = .ok (.iload 4, 2) := by decide +kernel
theorem dL_law_744 : decode cL_law 744 = .ok (.iconst 1, 1) := by decide +kernel
theorem dL_law_745 : decode cL_law 745 = .ok (.iadd, 1) := by decide +kernel
theorem dL_law_746 : decode cL_law 746 = .ok (.iaload, 1) := by decide +kernel
theorem dL_law_747 : decode cL_law 747 = .ok (.aload_n 0, 1) := by decide +kernel
theorem dL_law_748 : decode cL_law 748 = .ok (.iload 4, 2) := by decide +kernel
theorem dL_law_750 : decode cL_law 750 = .ok (.iconst 2, 1) := by decide +kernel
theorem dL_law_751 : decode cL_law 751 = .ok (.iadd, 1) := by decide +kernel
theorem dL_law_752 : decode cL_law 752 = .ok (.iaload, 1) := by decide +kernel
theorem dL_law_753 : decode cL_law 753 = .ok (.aload_n 0, 1) := by decide +kernel
theorem dL_law_754 : decode cL_law 754 = .ok (.iload 4, 2) := by decide +kernel
theorem dL_law_756 : decode cL_law 756 = .ok (.iconst 3, 1) := by decide +kernel
theorem dL_law_757 : decode cL_law 757 = .ok (.iadd, 1) := by decide +kernel
theorem dL_law_758 : decode cL_law 758 = .ok (.iaload, 1) := by decide +kernel
theorem dL_law_759 : decode cL_law 759 = .ok (.ifCond .eq 7, 3) := by decide +kernel
theorem dL_law_762 : decode cL_law 762 = .ok (.iconst 1, 1) := by decide +kernel
theorem dL_law_763 : decode cL_law 763 = .ok (.goto 4, 3) := by decide +kernel
theorem dL_law_766 : decode cL_law 766 = .ok (.iconst 0, 1) := by decide +kernel
theorem dL_law_767 : decode cL_law 767 = .ok (.aload_n 3, 1) := by decide +kernel
theorem dL_law_768 : decode cL_law 768 = .ok (.invokestatic 106, 3) := by decide +kernel
theorem dL_law_771 : decode cL_law 771 = .ok (.istore 5, 2) := by decide +kernel
theorem dL_law_773 : decode cL_law 773 = .ok (.aload_n 2, 1) := by decide +kernel
theorem dL_law_774 : decode cL_law 774 = .ok (.aload_n 0, 1) := by decide +kernel
theorem dL_law_775 : decode cL_law 775 = .ok (.iload 4, 2) := by decide +kernel
theorem dL_law_777 : decode cL_law 777 = .ok (.iconst 1, 1) := by decide +kernel
theorem dL_law_778 : decode cL_law 778 = .ok (.iadd, 1) := by decide +kernel
theorem dL_law_779 : decode cL_law 779 = .ok (.iaload, 1) := by decide +kernel
theorem dL_law_780 : decode cL_law 780 = .ok (.aload_n 0, 1) := by decide +kernel
theorem dL_law_781 : decode cL_law 781 = .ok (.iload 4, 2) := by decide +kernel
theorem dL_law_783 : decode cL_law 783 = .ok (.iconst 2, 1) := by decide +kernel
theorem dL_law_784 : decode cL_law 784 = .ok (.iadd, 1) := by decide +kernel
theorem dL_law_785 : decode cL_law 785 = .ok (.iaload, 1) := by decide +kernel
theorem dL_law_786 : decode cL_law 786 = .ok (.aload_n 0, 1) := by decide +kernel
theorem dL_law_787 : decode cL_law 787 = .ok (.iload 4, 2) := by decide +kernel
theorem dL_law_789 : decode cL_law 789 = .ok (.iconst 3, 1) := by decide +kernel
theorem dL_law_790 : decode cL_law 790 = .ok (.iadd, 1) := by decide +kernel
theorem dL_law_791 : decode cL_law 791 = .ok (.iaload, 1) := by decide +kernel
theorem dL_law_792 : decode cL_law 792 = .ok (.ifCond .eq 7, 3) := by decide +kernel
theorem dL_law_795 : decode cL_law 795 = .ok (.iconst 1, 1) := by decide +kernel
theorem dL_law_796 : decode cL_law 796 = .ok (.goto 4, 3) := by decide +kernel
theorem dL_law_799 : decode cL_law 799 = .ok (.iconst 0, 1) := by decide +kernel
theorem dL_law_800 : decode cL_law 800 = .ok (.invokevirtual 109, 3) := by decide +kernel
theorem dL_law_803 : decode cL_law 803 = .ok (.istore 6, 2) := by decide +kernel
theorem dL_law_805 : decode cL_law 805 = .ok (.aload_n 2, 1) := by decide +kernel
theorem dL_law_806 : decode cL_law 806 = .ok (.invokevirtual 77, 3) := by decide +kernel
theorem dL_law_809 : decode cL_law 809 = .ok (.iload 5, 2) := by decide +kernel
theorem dL_law_811 : decode cL_law 811 = .ok (.if_icmp .eq 5, 3) := by decide +kernel
theorem dL_law_814 : decode cL_law 814 = .ok (.iconst 0, 1) := by decide +kernel
theorem dL_law_815 : decode cL_law 815 = .ok (.ireturn, 1) := by decide +kernel
theorem dL_law_816 : decode cL_law 816 = .ok (.iload 5, 2) := by decide +kernel
theorem dL_law_818 : decode cL_law 818 = .ok (.ifCond .ne 15, 3) := by decide +kernel
theorem dL_law_821 : decode cL_law 821 = .ok (.aload_n 3, 1) := by decide +kernel
theorem dL_law_822 : decode cL_law 822 = .ok (.iconst 0, 1) := by decide +kernel
theorem dL_law_823 : decode cL_law 823 = .ok (.laload, 1) := by decide +kernel
theorem dL_law_824 : decode cL_law 824 = .ok (.iload 6, 2) := by decide +kernel
theorem dL_law_826 : decode cL_law 826 = .ok (.i2l, 1) := by decide +kernel
theorem dL_law_827 : decode cL_law 827 = .ok (.lcmp, 1) := by decide +kernel
theorem dL_law_828 : decode cL_law 828 = .ok (.ifCond .eq 5, 3) := by decide +kernel
theorem dL_law_831 : decode cL_law 831 = .ok (.iconst 0, 1) := by decide +kernel
theorem dL_law_832 : decode cL_law 832 = .ok (.ireturn, 1) := by decide +kernel
theorem dL_law_833 : decode cL_law 833 = .ok (.goto 548, 3) := by decide +kernel
theorem dL_law_836 : decode cL_law 836 = .ok (.aload_n 1, 1) := by decide +kernel
theorem dL_law_837 : decode cL_law 837 = .ok (.aload_n 0, 1) := by decide +kernel
theorem dL_law_838 : decode cL_law 838 = .ok (.iload 4, 2) := by decide +kernel
theorem dL_law_840 : decode cL_law 840 = .ok (.iconst 1, 1) := by decide +kernel
theorem dL_law_841 : decode cL_law 841 = .ok (.iadd, 1) := by decide +kernel
theorem dL_law_842 : decode cL_law 842 = .ok (.iaload, 1) := by decide +kernel
theorem dL_law_843 : decode cL_law 843 = .ok (.aload_n 0, 1) := by decide +kernel
theorem dL_law_844 : decode cL_law 844 = .ok (.iload 4, 2) := by decide +kernel
theorem dL_law_846 : decode cL_law 846 = .ok (.iconst 2, 1) := by decide +kernel
theorem dL_law_847 : decode cL_law 847 = .ok (.iadd, 1) := by decide +kernel
theorem dL_law_848 : decode cL_law 848 = .ok (.iaload, 1) := by decide +kernel
theorem dL_law_849 : decode cL_law 849 = .ok (.ifCond .eq 7, 3) := by decide +kernel
theorem dL_law_852 : decode cL_law 852 = .ok (.iconst 1, 1) := by decide +kernel
theorem dL_law_853 : decode cL_law 853 = .ok (.goto 4, 3) := by decide +kernel
theorem dL_law_856 : decode cL_law 856 = .ok (.iconst 0, 1) := by decide +kernel
theorem dL_law_857 : decode cL_law 857 = .ok (.aload_n 0, 1) := by decide +kernel
theorem dL_law_858 : decode cL_law 858 = .ok (.iload 4, 2) := by decide +kernel
theorem dL_law_860 : decode cL_law 860 = .ok (.iconst 3, 1) := by decide +kernel
theorem dL_law_861 : decode cL_law 861 = .ok (.iadd, 1) := by decide +kernel
theorem dL_law_862 : decode cL_law 862 = .ok (.iaload, 1) := by decide +kernel
theorem dL_law_863 : decode cL_law 863 = .ok (.aload_n 3, 1) := by decide +kernel
theorem dL_law_864 : decode cL_law 864 = .ok (.invokestatic 110, 3) := by decide +kernel
theorem dL_law_867 : decode cL_law 867 = .ok (.istore 5, 2) := by decide +kernel
theorem dL_law_869 : decode cL_law 869 = .ok (.aload_n 2, 1) := by decide +kernel
theorem dL_law_870 : decode cL_law 870 = .ok (.aload_n 0, 1) := by decide +kernel
theorem dL_law_871 : decode cL_law 871 = .ok (.iload 4, 2) := by decide +kernel
theorem dL_law_873 : decode cL_law 873 = .ok (.iconst 1, 1) := by decide +kernel
theorem dL_law_874 : decode cL_law 874 = .ok (.iadd, 1) := by decide +kernel
theorem dL_law_875 : decode cL_law 875 = .ok (.iaload, 1) := by decide +kernel
theorem dL_law_876 : decode cL_law 876 = .ok (.aload_n 0, 1) := by decide +kernel
theorem dL_law_877 : decode cL_law 877 = .ok (.iload 4, 2) := by decide +kernel
theorem dL_law_879 : decode cL_law 879 = .ok (.iconst 2, 1) := by decide +kernel
theorem dL_law_880 : decode cL_law 880 = .ok (.iadd, 1) := by decide +kernel
theorem dL_law_881 : decode cL_law 881 = .ok (.iaload, 1) := by decide +kernel
theorem dL_law_882 : decode cL_law 882 = .ok (.ifCond .eq 7, 3) := by decide +kernel
theorem dL_law_885 : decode cL_law 885 = .ok (.iconst 1, 1) := by decide +kernel
theorem dL_law_886 : decode cL_law 886 = .ok (.goto 4, 3) := by decide +kernel
theorem dL_law_889 : decode cL_law 889 = .ok (.iconst 0, 1) := by decide +kernel
theorem dL_law_890 : decode cL_law 890 = .ok (.aload_n 0, 1) := by decide +kernel
theorem dL_law_891 : decode cL_law 891 = .ok (.iload 4, 2) := by decide +kernel
theorem dL_law_893 : decode cL_law 893 = .ok (.iconst 3, 1) := by decide +kernel
theorem dL_law_894 : decode cL_law 894 = .ok (.iadd, 1) := by decide +kernel
theorem dL_law_895 : decode cL_law 895 = .ok (.iaload, 1) := by decide +kernel
theorem dL_law_896 : decode cL_law 896 = .ok (.invokevirtual 113, 3) := by decide +kernel
theorem dL_law_899 : decode cL_law 899 = .ok (.istore 6, 2) := by decide +kernel
theorem dL_law_901 : decode cL_law 901 = .ok (.aload_n 2, 1) := by decide +kernel
theorem dL_law_902 : decode cL_law 902 = .ok (.invokevirtual 77, 3) := by decide +kernel
theorem dL_law_905 : decode cL_law 905 = .ok (.iload 5, 2) := by decide +kernel
theorem dL_law_907 : decode cL_law 907 = .ok (.if_icmp .eq 5, 3) := by decide +kernel
theorem dL_law_910 : decode cL_law 910 = .ok (.iconst 0, 1) := by decide +kernel
theorem dL_law_911 : decode cL_law 911 = .ok (.ireturn, 1) := by decide +kernel
theorem dL_law_912 : decode cL_law 912 = .ok (.iload 5, 2) := by decide +kernel
theorem dL_law_914 : decode cL_law 914 = .ok (.ifCond .ne 15, 3) := by decide +kernel
theorem dL_law_917 : decode cL_law 917 = .ok (.aload_n 3, 1) := by decide +kernel
theorem dL_law_918 : decode cL_law 918 = .ok (.iconst 0, 1) := by decide +kernel
theorem dL_law_919 : decode cL_law 919 = .ok (.laload, 1) := by decide +kernel
theorem dL_law_920 : decode cL_law 920 = .ok (.iload 6, 2) := by decide +kernel
theorem dL_law_922 : decode cL_law 922 = .ok (.i2l, 1) := by decide +kernel
theorem dL_law_923 : decode cL_law 923 = .ok (.lcmp, 1) := by decide +kernel
theorem dL_law_924 : decode cL_law 924 = .ok (.ifCond .eq 5, 3) := by decide +kernel
theorem dL_law_927 : decode cL_law 927 = .ok (.iconst 0, 1) := by decide +kernel
theorem dL_law_928 : decode cL_law 928 = .ok (.ireturn, 1) := by decide +kernel
theorem dL_law_929 : decode cL_law 929 = .ok (.goto 452, 3) := by decide +kernel
theorem dL_law_932 : decode cL_law 932 = .ok (.aload_n 1, 1) := by decide +kernel
theorem dL_law_933 : decode cL_law 933 = .ok (.aload_n 0, 1) := by decide +kernel
theorem dL_law_934 : decode cL_law 934 = .ok (.iload 4, 2) := by decide +kernel
theorem dL_law_936 : decode cL_law 936 = .ok (.iconst 1, 1) := by decide +kernel
theorem dL_law_937 : decode cL_law 937 = .ok (.iadd, 1) := by decide +kernel
theorem dL_law_938 : decode cL_law 938 = .ok (.iaload, 1) := by decide +kernel
theorem dL_law_939 : decode cL_law 939 = .ok (.ifCond .eq 7, 3) := by decide +kernel
theorem dL_law_942 : decode cL_law 942 = .ok (.iconst 1, 1) := by decide +kernel
theorem dL_law_943 : decode cL_law 943 = .ok (.goto 4, 3) := by decide +kernel
theorem dL_law_946 : decode cL_law 946 = .ok (.iconst 0, 1) := by decide +kernel
theorem dL_law_947 : decode cL_law 947 = .ok (.invokevirtual 114, 3) := by decide +kernel
theorem dL_law_950 : decode cL_law 950 = .ok (.aload_n 2, 1) := by decide +kernel
theorem dL_law_951 : decode cL_law 951 = .ok (.aload_n 0, 1) := by decide +kernel
theorem dL_law_952 : decode cL_law 952 = .ok (.iload 4, 2) := by decide +kernel
theorem dL_law_954 : decode cL_law 954 = .ok (.iconst 1, 1) := by decide +kernel
theorem dL_law_955 : decode cL_law 955 = .ok (.iadd, 1) := by decide +kernel
theorem dL_law_956 : decode cL_law 956 = .ok (.iaload, 1) := by decide +kernel
theorem dL_law_957 : decode cL_law 957 = .ok (.ifCond .eq 7, 3) := by decide +kernel
theorem dL_law_960 : decode cL_law 960 = .ok (.iconst 1, 1) := by decide +kernel
theorem dL_law_961 : decode cL_law 961 = .ok (.goto 4, 3) := by decide +kernel
theorem dL_law_964 : decode cL_law 964 = .ok (.iconst 0, 1) := by decide +kernel
theorem dL_law_965 : decode cL_law 965 = .ok (.invokevirtual 118, 3) := by decide +kernel
theorem dL_law_968 : decode cL_law 968 = .ok (.if_icmp .eq 413, 3) := by decide +kernel
theorem dL_law_971 : decode cL_law 971 = .ok (.iconst 0, 1) := by decide +kernel
theorem dL_law_972 : decode cL_law 972 = .ok (.ireturn, 1) := by decide +kernel
theorem dL_law_973 : decode cL_law 973 = .ok (.aload_n 1, 1) := by decide +kernel
theorem dL_law_974 : decode cL_law 974 = .ok (.aload_n 0, 1) := by decide +kernel
theorem dL_law_975 : decode cL_law 975 = .ok (.iload 4, 2) := by decide +kernel
theorem dL_law_977 : decode cL_law 977 = .ok (.iconst 1, 1) := by decide +kernel
theorem dL_law_978 : decode cL_law 978 = .ok (.iadd, 1) := by decide +kernel
theorem dL_law_979 : decode cL_law 979 = .ok (.iaload, 1) := by decide +kernel
theorem dL_law_980 : decode cL_law 980 = .ok (.aload_n 0, 1) := by decide +kernel
theorem dL_law_981 : decode cL_law 981 = .ok (.iload 4, 2) := by decide +kernel
theorem dL_law_983 : decode cL_law 983 = .ok (.iconst 2, 1) := by decide +kernel
theorem dL_law_984 : decode cL_law 984 = .ok (.iadd, 1) := by decide +kernel
theorem dL_law_985 : decode cL_law 985 = .ok (.iaload, 1) := by decide +kernel
theorem dL_law_986 : decode cL_law 986 = .ok (.aload_n 0, 1) := by decide +kernel
theorem dL_law_987 : decode cL_law 987 = .ok (.iload 4, 2) := by decide +kernel
theorem dL_law_989 : decode cL_law 989 = .ok (.iconst 3, 1) := by decide +kernel
theorem dL_law_990 : decode cL_law 990 = .ok (.iadd, 1) := by decide +kernel
theorem dL_law_991 : decode cL_law 991 = .ok (.iaload, 1) := by decide +kernel
theorem dL_law_992 : decode cL_law 992 = .ok (.aload_n 3, 1) := by decide +kernel
theorem dL_law_993 : decode cL_law 993 = .ok (.invokestatic 119, 3) := by decide +kernel
theorem dL_law_996 : decode cL_law 996 = .ok (.istore 5, 2) := by decide +kernel
theorem dL_law_998 : decode cL_law 998 = .ok (.aload_n 2, 1) := by decide +kernel
theorem dL_law_999 : decode cL_law 999 = .ok (.aload_n 0, 1) := by decide +kernel
theorem dL_law_1000 : decode cL_law 1000 = .ok (.iload 4, 2) := by decide +kernel
theorem dL_law_1002 : decode cL_law 1002 = .ok (.iconst 1, 1) := by decide +kernel
theorem dL_law_1003 : decode cL_law 1003 = .ok (.iadd, 1) := by decide +kernel
theorem dL_law_1004 : decode cL_law 1004 = .ok (.iaload, 1) := by decide +kernel
theorem dL_law_1005 : decode cL_law 1005 = .ok (.aload_n 0, 1) := by decide +kernel
theorem dL_law_1006 : decode cL_law 1006 = .ok (.iload 4, 2) := by decide +kernel
theorem dL_law_1008 : decode cL_law 1008 = .ok (.iconst 2, 1) := by decide +kernel
theorem dL_law_1009 : decode cL_law 1009 = .ok (.iadd, 1) := by decide +kernel
theorem dL_law_1010 : decode cL_law 1010 = .ok (.iaload, 1) := by decide +kernel
theorem dL_law_1011 : decode cL_law 1011 = .ok (.aload_n 0, 1) := by decide +kernel
theorem dL_law_1012 : decode cL_law 1012 = .ok (.iload 4, 2) := by decide +kernel
theorem dL_law_1014 : decode cL_law 1014 = .ok (.iconst 3, 1) := by decide +kernel
theorem dL_law_1015 : decode cL_law 1015 = .ok (.iadd, 1) := by decide +kernel
theorem dL_law_1016 : decode cL_law 1016 = .ok (.iaload, 1) := by decide +kernel
theorem dL_law_1017 : decode cL_law 1017 = .ok (.invokevirtual 121, 3) := by decide +kernel
theorem dL_law_1020 : decode cL_law 1020 = .ok (.istore 6, 2) := by decide +kernel
theorem dL_law_1022 : decode cL_law 1022 = .ok (.aload_n 2, 1) := by decide +kernel
theorem dL_law_1023 : decode cL_law 1023 = .ok (.invokevirtual 77, 3) := by decide +kernel
theorem dL_law_1026 : decode cL_law 1026 = .ok (.iload 5, 2) := by decide +kernel
theorem dL_law_1028 : decode cL_law 1028 = .ok (.if_icmp .eq 5, 3) := by decide +kernel
theorem dL_law_1031 : decode cL_law 1031 = .ok (.iconst 0, 1) := by decide +kernel
theorem dL_law_1032 : decode cL_law 1032 = .ok (.ireturn, 1) := by decide +kernel
theorem dL_law_1033 : decode cL_law 1033 = .ok (.iload 5, 2) := by decide +kernel
theorem dL_law_1035 : decode cL_law 1035 = .ok (.ifCond .ne 15, 3) := by decide +kernel
theorem dL_law_1038 : decode cL_law 1038 = .ok (.aload_n 3, 1) := by decide +kernel
theorem dL_law_1039 : decode cL_law 1039 = .ok (.iconst 0, 1) := by decide +kernel
theorem dL_law_1040 : decode cL_law 1040 = .ok (.laload, 1) := by decide +kernel
theorem dL_law_1041 : decode cL_law 1041 = .ok (.iload 6, 2) := by decide +kernel
theorem dL_law_1043 : decode cL_law 1043 = .ok (.i2l, 1) := by decide +kernel
theorem dL_law_1044 : decode cL_law 1044 = .ok (.lcmp, 1) := by decide +kernel
theorem dL_law_1045 : decode cL_law 1045 = .ok (.ifCond .eq 5, 3) := by decide +kernel
theorem dL_law_1048 : decode cL_law 1048 = .ok (.iconst 0, 1) := by decide +kernel
theorem dL_law_1049 : decode cL_law 1049 = .ok (.ireturn, 1) := by decide +kernel
theorem dL_law_1050 : decode cL_law 1050 = .ok (.goto 331, 3) := by decide +kernel
theorem dL_law_1053 : decode cL_law 1053 = .ok (.aload_n 1, 1) := by decide +kernel
theorem dL_law_1054 : decode cL_law 1054 = .ok (.aload_n 0, 1) := by decide +kernel
theorem dL_law_1055 : decode cL_law 1055 = .ok (.iload 4, 2) := by decide +kernel
theorem dL_law_1057 : decode cL_law 1057 = .ok (.iconst 1, 1) := by decide +kernel
theorem dL_law_1058 : decode cL_law 1058 = .ok (.iadd, 1) := by decide +kernel
theorem dL_law_1059 : decode cL_law 1059 = .ok (.iaload, 1) := by decide +kernel
theorem dL_law_1060 : decode cL_law 1060 = .ok (.aload_n 3, 1) := by decide +kernel
theorem dL_law_1061 : decode cL_law 1061 = .ok (.invokestatic 122, 3) := by decide +kernel
theorem dL_law_1064 : decode cL_law 1064 = .ok (.istore 5, 2) := by decide +kernel
theorem dL_law_1066 : decode cL_law 1066 = .ok (.aload_n 2, 1) := by decide +kernel
theorem dL_law_1067 : decode cL_law 1067 = .ok (.aload_n 0, 1) := by decide +kernel
theorem dL_law_1068 : decode cL_law 1068 = .ok (.iload 4, 2) := by decide +kernel
theorem dL_law_1070 : decode cL_law 1070 = .ok (.iconst 1, 1) := by decide +kernel
theorem dL_law_1071 : decode cL_law 1071 = .ok (.iadd, 1) := by decide +kernel
theorem dL_law_1072 : decode cL_law 1072 = .ok (.iaload, 1) := by decide +kernel
theorem dL_law_1073 : decode cL_law 1073 = .ok (.invokevirtual 124, 3) := by decide +kernel
theorem dL_law_1076 : decode cL_law 1076 = .ok (.istore 6, 2) := by decide +kernel
theorem dL_law_1078 : decode cL_law 1078 = .ok (.aload_n 2, 1) := by decide +kernel
theorem dL_law_1079 : decode cL_law 1079 = .ok (.invokevirtual 77, 3) := by decide +kernel
theorem dL_law_1082 : decode cL_law 1082 = .ok (.iload 5, 2) := by decide +kernel
theorem dL_law_1084 : decode cL_law 1084 = .ok (.if_icmp .eq 5, 3) := by decide +kernel
theorem dL_law_1087 : decode cL_law 1087 = .ok (.iconst 0, 1) := by decide +kernel
theorem dL_law_1088 : decode cL_law 1088 = .ok (.ireturn, 1) := by decide +kernel
theorem dL_law_1089 : decode cL_law 1089 = .ok (.iload 5, 2) := by decide +kernel
theorem dL_law_1091 : decode cL_law 1091 = .ok (.ifCond .ne 15, 3) := by decide +kernel
theorem dL_law_1094 : decode cL_law 1094 = .ok (.aload_n 3, 1) := by decide +kernel
theorem dL_law_1095 : decode cL_law 1095 = .ok (.iconst 0, 1) := by decide +kernel
theorem dL_law_1096 : decode cL_law 1096 = .ok (.laload, 1) := by decide +kernel
theorem dL_law_1097 : decode cL_law 1097 = .ok (.iload 6, 2) := by decide +kernel
theorem dL_law_1099 : decode cL_law 1099 = .ok (.i2l, 1) := by decide +kernel
theorem dL_law_1100 : decode cL_law 1100 = .ok (.lcmp, 1) := by decide +kernel
theorem dL_law_1101 : decode cL_law 1101 = .ok (.ifCond .eq 5, 3) := by decide +kernel
theorem dL_law_1104 : decode cL_law 1104 = .ok (.iconst 0, 1) := by decide +kernel
theorem dL_law_1105 : decode cL_law 1105 = .ok (.ireturn, 1) := by decide +kernel
theorem dL_law_1106 : decode cL_law 1106 = .ok (.goto 275, 3) := by decide +kernel
theorem dL_law_1109 : decode cL_law 1109 = .ok (.aload_n 1, 1) := by decide +kernel
theorem dL_law_1110 : decode cL_law 1110 = .ok (.aload_n 0, 1) := by decide +kernel
theorem dL_law_1111 : decode cL_law 1111 = .ok (.iload 4, 2) := by decide +kernel
theorem dL_law_1113 : decode cL_law 1113 = .ok (.iconst 1, 1) := by decide +kernel
theorem dL_law_1114 : decode cL_law 1114 = .ok (.iadd, 1) := by decide +kernel
theorem dL_law_1115 : decode cL_law 1115 = .ok (.iaload, 1) := by decide +kernel
theorem dL_law_1116 : decode cL_law 1116 = .ok (.aload_n 0, 1) := by decide +kernel
theorem dL_law_1117 : decode cL_law 1117 = .ok (.iload 4, 2) := by decide +kernel
theorem dL_law_1119 : decode cL_law 1119 = .ok (.iconst 2, 1) := by decide +kernel
theorem dL_law_1120 : decode cL_law 1120 = .ok (.iadd, 1) := by decide +kernel
theorem dL_law_1121 : decode cL_law 1121 = .ok (.iaload, 1) := by decide +kernel
theorem dL_law_1122 : decode cL_law 1122 = .ok (.aload_n 0, 1) := by decide +kernel
theorem dL_law_1123 : decode cL_law 1123 = .ok (.iload 4, 2) := by decide +kernel
theorem dL_law_1125 : decode cL_law 1125 = .ok (.iconst 3, 1) := by decide +kernel
theorem dL_law_1126 : decode cL_law 1126 = .ok (.iadd, 1) := by decide +kernel
theorem dL_law_1127 : decode cL_law 1127 = .ok (.iaload, 1) := by decide +kernel
theorem dL_law_1128 : decode cL_law 1128 = .ok (.aload_n 3, 1) := by decide +kernel
theorem dL_law_1129 : decode cL_law 1129 = .ok (.invokestatic 125, 3) := by decide +kernel
theorem dL_law_1132 : decode cL_law 1132 = .ok (.istore 5, 2) := by decide +kernel
theorem dL_law_1134 : decode cL_law 1134 = .ok (.aload_n 2, 1) := by decide +kernel
theorem dL_law_1135 : decode cL_law 1135 = .ok (.aload_n 0, 1) := by decide +kernel
theorem dL_law_1136 : decode cL_law 1136 = .ok (.iload 4, 2) := by decide +kernel
theorem dL_law_1138 : decode cL_law 1138 = .ok (.iconst 1, 1) := by decide +kernel
theorem dL_law_1139 : decode cL_law 1139 = .ok (.iadd, 1) := by decide +kernel
theorem dL_law_1140 : decode cL_law 1140 = .ok (.iaload, 1) := by decide +kernel
theorem dL_law_1141 : decode cL_law 1141 = .ok (.aload_n 0, 1) := by decide +kernel
theorem dL_law_1142 : decode cL_law 1142 = .ok (.iload 4, 2) := by decide +kernel
theorem dL_law_1144 : decode cL_law 1144 = .ok (.iconst 2, 1) := by decide +kernel
theorem dL_law_1145 : decode cL_law 1145 = .ok (.iadd, 1) := by decide +kernel
theorem dL_law_1146 : decode cL_law 1146 = .ok (.iaload, 1) := by decide +kernel
theorem dL_law_1147 : decode cL_law 1147 = .ok (.aload_n 0, 1) := by decide +kernel
theorem dL_law_1148 : decode cL_law 1148 = .ok (.iload 4, 2) := by decide +kernel
theorem dL_law_1150 : decode cL_law 1150 = .ok (.iconst 3, 1) := by decide +kernel
theorem dL_law_1151 : decode cL_law 1151 = .ok (.iadd, 1) := by decide +kernel
theorem dL_law_1152 : decode cL_law 1152 = .ok (.iaload, 1) := by decide +kernel
theorem dL_law_1153 : decode cL_law 1153 = .ok (.invokevirtual 127, 3) := by decide +kernel
theorem dL_law_1156 : decode cL_law 1156 = .ok (.istore 6, 2) := by decide +kernel
theorem dL_law_1158 : decode cL_law 1158 = .ok (.aload_n 2, 1) := by decide +kernel
theorem dL_law_1159 : decode cL_law 1159 = .ok (.invokevirtual 77, 3) := by decide +kernel
theorem dL_law_1162 : decode cL_law 1162 = .ok (.iload 5, 2) := by decide +kernel
theorem dL_law_1164 : decode cL_law 1164 = .ok (.if_icmp .eq 5, 3) := by decide +kernel
theorem dL_law_1167 : decode cL_law 1167 = .ok (.iconst 0, 1) := by decide +kernel
theorem dL_law_1168 : decode cL_law 1168 = .ok (.ireturn, 1) := by decide +kernel
theorem dL_law_1169 : decode cL_law 1169 = .ok (.iload 5, 2) := by decide +kernel
theorem dL_law_1171 : decode cL_law 1171 = .ok (.ifCond .ne 15, 3) := by decide +kernel
theorem dL_law_1174 : decode cL_law 1174 = .ok (.aload_n 3, 1) := by decide +kernel
theorem dL_law_1175 : decode cL_law 1175 = .ok (.iconst 0, 1) := by decide +kernel
theorem dL_law_1176 : decode cL_law 1176 = .ok (.laload, 1) := by decide +kernel
theorem dL_law_1177 : decode cL_law 1177 = .ok (.iload 6, 2) := by decide +kernel
theorem dL_law_1179 : decode cL_law 1179 = .ok (.i2l, 1) := by decide +kernel
theorem dL_law_1180 : decode cL_law 1180 = .ok (.lcmp, 1) := by decide +kernel
theorem dL_law_1181 : decode cL_law 1181 = .ok (.ifCond .eq 5, 3) := by decide +kernel
theorem dL_law_1184 : decode cL_law 1184 = .ok (.iconst 0, 1) := by decide +kernel
theorem dL_law_1185 : decode cL_law 1185 = .ok (.ireturn, 1) := by decide +kernel
theorem dL_law_1186 : decode cL_law 1186 = .ok (.goto 195, 3) := by decide +kernel
theorem dL_law_1189 : decode cL_law 1189 = .ok (.aload_n 1, 1) := by decide +kernel
theorem dL_law_1190 : decode cL_law 1190 = .ok (.invokevirtual 128, 3) := by decide +kernel
theorem dL_law_1193 : decode cL_law 1193 = .ok (.aload_n 2, 1) := by decide +kernel
theorem dL_law_1194 : decode cL_law 1194 = .ok (.invokevirtual 131, 3) := by decide +kernel
theorem dL_law_1197 : decode cL_law 1197 = .ok (.if_icmp .eq 184, 3) := by decide +kernel
theorem dL_law_1200 : decode cL_law 1200 = .ok (.iconst 0, 1) := by decide +kernel
theorem dL_law_1201 : decode cL_law 1201 = .ok (.ireturn, 1) := by decide +kernel
theorem dL_law_1202 : decode cL_law 1202 = .ok (.aload_n 1, 1) := by decide +kernel
theorem dL_law_1203 : decode cL_law 1203 = .ok (.aload_n 0, 1) := by decide +kernel
theorem dL_law_1204 : decode cL_law 1204 = .ok (.iload 4, 2) := by decide +kernel
theorem dL_law_1206 : decode cL_law 1206 = .ok (.iconst 1, 1) := by decide +kernel
theorem dL_law_1207 : decode cL_law 1207 = .ok (.iadd, 1) := by decide +kernel
theorem dL_law_1208 : decode cL_law 1208 = .ok (.iaload, 1) := by decide +kernel
theorem dL_law_1209 : decode cL_law 1209 = .ok (.aload_n 3, 1) := by decide +kernel
theorem dL_law_1210 : decode cL_law 1210 = .ok (.invokestatic 132, 3) := by decide +kernel
theorem dL_law_1213 : decode cL_law 1213 = .ok (.istore 5, 2) := by decide +kernel
theorem dL_law_1215 : decode cL_law 1215 = .ok (.aload_n 2, 1) := by decide +kernel
theorem dL_law_1216 : decode cL_law 1216 = .ok (.aload_n 0, 1) := by decide +kernel
theorem dL_law_1217 : decode cL_law 1217 = .ok (.iload 4, 2) := by decide +kernel
theorem dL_law_1219 : decode cL_law 1219 = .ok (.iconst 1, 1) := by decide +kernel
theorem dL_law_1220 : decode cL_law 1220 = .ok (.iadd, 1) := by decide +kernel
theorem dL_law_1221 : decode cL_law 1221 = .ok (.iaload, 1) := by decide +kernel
theorem dL_law_1222 : decode cL_law 1222 = .ok (.invokevirtual 134, 3) := by decide +kernel
theorem dL_law_1225 : decode cL_law 1225 = .ok (.istore 6, 2) := by decide +kernel
theorem dL_law_1227 : decode cL_law 1227 = .ok (.aload_n 2, 1) := by decide +kernel
theorem dL_law_1228 : decode cL_law 1228 = .ok (.invokevirtual 77, 3) := by decide +kernel
theorem dL_law_1231 : decode cL_law 1231 = .ok (.iload 5, 2) := by decide +kernel
theorem dL_law_1233 : decode cL_law 1233 = .ok (.if_icmp .eq 5, 3) := by decide +kernel
theorem dL_law_1236 : decode cL_law 1236 = .ok (.iconst 0, 1) := by decide +kernel
theorem dL_law_1237 : decode cL_law 1237 = .ok (.ireturn, 1) := by decide +kernel
theorem dL_law_1238 : decode cL_law 1238 = .ok (.iload 5, 2) := by decide +kernel
theorem dL_law_1240 : decode cL_law 1240 = .ok (.ifCond .ne 15, 3) := by decide +kernel
theorem dL_law_1243 : decode cL_law 1243 = .ok (.aload_n 3, 1) := by decide +kernel
theorem dL_law_1244 : decode cL_law 1244 = .ok (.iconst 0, 1) := by decide +kernel
theorem dL_law_1245 : decode cL_law 1245 = .ok (.laload, 1) := by decide +kernel
theorem dL_law_1246 : decode cL_law 1246 = .ok (.iload 6, 2) := by decide +kernel
theorem dL_law_1248 : decode cL_law 1248 = .ok (.i2l, 1) := by decide +kernel
theorem dL_law_1249 : decode cL_law 1249 = .ok (.lcmp, 1) := by decide +kernel
theorem dL_law_1250 : decode cL_law 1250 = .ok (.ifCond .eq 5, 3) := by decide +kernel
theorem dL_law_1253 : decode cL_law 1253 = .ok (.iconst 0, 1) := by decide +kernel
theorem dL_law_1254 : decode cL_law 1254 = .ok (.ireturn, 1) := by decide +kernel
theorem dL_law_1255 : decode cL_law 1255 = .ok (.goto 126, 3) := by decide +kernel
theorem dL_law_1258 : decode cL_law 1258 = .ok (.aload_n 1, 1) := by decide +kernel
theorem dL_law_1259 : decode cL_law 1259 = .ok (.aload_n 0, 1) := by decide +kernel
theorem dL_law_1260 : decode cL_law 1260 = .ok (.iload 4, 2) := by decide +kernel
theorem dL_law_1262 : decode cL_law 1262 = .ok (.iconst 1, 1) := by decide +kernel
theorem dL_law_1263 : decode cL_law 1263 = .ok (.iadd, 1) := by decide +kernel
theorem dL_law_1264 : decode cL_law 1264 = .ok (.iaload, 1) := by decide +kernel
theorem dL_law_1265 : decode cL_law 1265 = .ok (.aload_n 0, 1) := by decide +kernel
theorem dL_law_1266 : decode cL_law 1266 = .ok (.iload 4, 2) := by decide +kernel
theorem dL_law_1268 : decode cL_law 1268 = .ok (.iconst 2, 1) := by decide +kernel
theorem dL_law_1269 : decode cL_law 1269 = .ok (.iadd, 1) := by decide +kernel
theorem dL_law_1270 : decode cL_law 1270 = .ok (.iaload, 1) := by decide +kernel
theorem dL_law_1271 : decode cL_law 1271 = .ok (.aload_n 3, 1) := by decide +kernel
theorem dL_law_1272 : decode cL_law 1272 = .ok (.invokestatic 135, 3) := by decide +kernel
theorem dL_law_1275 : decode cL_law 1275 = .ok (.istore 5, 2) := by decide +kernel
theorem dL_law_1277 : decode cL_law 1277 = .ok (.aload_n 2, 1) := by decide +kernel
theorem dL_law_1278 : decode cL_law 1278 = .ok (.aload_n 0, 1) := by decide +kernel
theorem dL_law_1279 : decode cL_law 1279 = .ok (.iload 4, 2) := by decide +kernel
theorem dL_law_1281 : decode cL_law 1281 = .ok (.iconst 1, 1) := by decide +kernel
theorem dL_law_1282 : decode cL_law 1282 = .ok (.iadd, 1) := by decide +kernel
theorem dL_law_1283 : decode cL_law 1283 = .ok (.iaload, 1) := by decide +kernel
theorem dL_law_1284 : decode cL_law 1284 = .ok (.aload_n 0, 1) := by decide +kernel
theorem dL_law_1285 : decode cL_law 1285 = .ok (.iload 4, 2) := by decide +kernel
theorem dL_law_1287 : decode cL_law 1287 = .ok (.iconst 2, 1) := by decide +kernel
theorem dL_law_1288 : decode cL_law 1288 = .ok (.iadd, 1) := by decide +kernel
theorem dL_law_1289 : decode cL_law 1289 = .ok (.iaload, 1) := by decide +kernel
theorem dL_law_1290 : decode cL_law 1290 = .ok (.invokevirtual 137, 3) := by decide +kernel
theorem dL_law_1293 : decode cL_law 1293 = .ok (.istore 6, 2) := by decide +kernel
theorem dL_law_1295 : decode cL_law 1295 = .ok (.aload_n 2, 1) := by decide +kernel
theorem dL_law_1296 : decode cL_law 1296 = .ok (.invokevirtual 77, 3) := by decide +kernel
theorem dL_law_1299 : decode cL_law 1299 = .ok (.iload 5, 2) := by decide +kernel
theorem dL_law_1301 : decode cL_law 1301 = .ok (.if_icmp .eq 5, 3) := by decide +kernel
theorem dL_law_1304 : decode cL_law 1304 = .ok (.iconst 0, 1) := by decide +kernel
theorem dL_law_1305 : decode cL_law 1305 = .ok (.ireturn, 1) := by decide +kernel
theorem dL_law_1306 : decode cL_law 1306 = .ok (.iload 5, 2) := by decide +kernel
theorem dL_law_1308 : decode cL_law 1308 = .ok (.ifCond .ne 15, 3) := by decide +kernel
theorem dL_law_1311 : decode cL_law 1311 = .ok (.aload_n 3, 1) := by decide +kernel
theorem dL_law_1312 : decode cL_law 1312 = .ok (.iconst 0, 1) := by decide +kernel
theorem dL_law_1313 : decode cL_law 1313 = .ok (.laload, 1) := by decide +kernel
theorem dL_law_1314 : decode cL_law 1314 = .ok (.iload 6, 2) := by decide +kernel
theorem dL_law_1316 : decode cL_law 1316 = .ok (.i2l, 1) := by decide +kernel
theorem dL_law_1317 : decode cL_law 1317 = .ok (.lcmp, 1) := by decide +kernel
theorem dL_law_1318 : decode cL_law 1318 = .ok (.ifCond .eq 5, 3) := by decide +kernel
theorem dL_law_1321 : decode cL_law 1321 = .ok (.iconst 0, 1) := by decide +kernel
theorem dL_law_1322 : decode cL_law 1322 = .ok (.ireturn, 1) := by decide +kernel
theorem dL_law_1323 : decode cL_law 1323 = .ok (.goto 58, 3) := by decide +kernel
theorem dL_law_1326 : decode cL_law 1326 = .ok (.aload_n 1, 1) := by decide +kernel
theorem dL_law_1327 : decode cL_law 1327 = .ok (.invokevirtual 138, 3) := by decide +kernel
theorem dL_law_1330 : decode cL_law 1330 = .ok (.dstore 5, 2) := by decide +kernel
theorem dL_law_1332 : decode cL_law 1332 = .ok (.aload_n 2, 1) := by decide +kernel
theorem dL_law_1333 : decode cL_law 1333 = .ok (.invokevirtual 142, 3) := by decide +kernel
theorem dL_law_1336 : decode cL_law 1336 = .ok (.dstore 7, 2) := by decide +kernel
theorem dL_law_1338 : decode cL_law 1338 = .ok (.dload 5, 2) := by decide +kernel
theorem dL_law_1340 : decode cL_law 1340 = .ok (.dload 7, 2) := by decide +kernel
theorem dL_law_1342 : decode cL_law 1342 = .ok (.dcmp .l, 1) := by decide +kernel
theorem dL_law_1343 : decode cL_law 1343 = .ok (.ifCond .eq 21, 3) := by decide +kernel
theorem dL_law_1346 : decode cL_law 1346 = .ok (.dload 5, 2) := by decide +kernel
theorem dL_law_1348 : decode cL_law 1348 = .ok (.dload 5, 2) := by decide +kernel
theorem dL_law_1350 : decode cL_law 1350 = .ok (.dcmp .l, 1) := by decide +kernel
theorem dL_law_1351 : decode cL_law 1351 = .ok (.ifCond .eq 11, 3) := by decide +kernel
theorem dL_law_1354 : decode cL_law 1354 = .ok (.dload 7, 2) := by decide +kernel
theorem dL_law_1356 : decode cL_law 1356 = .ok (.dload 7, 2) := by decide +kernel
theorem dL_law_1358 : decode cL_law 1358 = .ok (.dcmp .l, 1) := by decide +kernel
theorem dL_law_1359 : decode cL_law 1359 = .ok (.ifCond .ne 5, 3) := by decide +kernel
theorem dL_law_1362 : decode cL_law 1362 = .ok (.iconst 0, 1) := by decide +kernel
theorem dL_law_1363 : decode cL_law 1363 = .ok (.ireturn, 1) := by decide +kernel
theorem dL_law_1364 : decode cL_law 1364 = .ok (.goto 17, 3) := by decide +kernel
theorem dL_law_1367 : decode cL_law 1367 = .ok (.aload_n 1, 1) := by decide +kernel
theorem dL_law_1368 : decode cL_law 1368 = .ok (.invokevirtual 143, 3) := by decide +kernel
theorem dL_law_1371 : decode cL_law 1371 = .ok (.aload_n 2, 1) := by decide +kernel
theorem dL_law_1372 : decode cL_law 1372 = .ok (.invokevirtual 147, 3) := by decide +kernel
theorem dL_law_1375 : decode cL_law 1375 = .ok (.lcmp, 1) := by decide +kernel
theorem dL_law_1376 : decode cL_law 1376 = .ok (.ifCond .eq 5, 3) := by decide +kernel
theorem dL_law_1379 : decode cL_law 1379 = .ok (.iconst 0, 1) := by decide +kernel
theorem dL_law_1380 : decode cL_law 1380 = .ok (.ireturn, 1) := by decide +kernel
theorem dL_law_1381 : decode cL_law 1381 = .ok (.iinc 4 6, 3) := by decide +kernel
theorem dL_law_1384 : decode cL_law 1384 = .ok (.goto (-1361), 3) := by decide +kernel
theorem dL_law_1387 : decode cL_law 1387 = .ok (.iconst 1, 1) := by decide +kernel
theorem dL_law_1388 : decode cL_law 1388 = .ok (.ireturn, 1) := by decide +kernel
abbrev vwCl : List vw_C := [(RX0, TX0, 1), (RX1, TX1, 13), (RX2, TX2, 4), (RX3, TX3, 4), (RX4, TX4, 8)]
