/-! NAMES, by program out of the Statement: classes, methods, words by their places -/
def R_C : String := "CardRights"
def T_C : u_T := fun k => match k with
  | 0 => ("CardRights", "rooms", "Ljava/util/List;", true)
  | 1 => ("CardRights", "doors", "Ljava/util/List;", true)
  | 2 => ("CardRights", "persons", "Ljava/util/List;", true)
  | 3 => ("CardRights", "cards", "Ljava/util/List;", true)
  | 4 => ("CardRights", "rights", "Ljava/util/List;", true)
  | 5 => ("CardRights", "toldSoFar", "LCardRights$Knowledge;", true)
  | 6 => ("CardRights", "findings", "LCardRights$Findings;", true)
  | 7 => ("CardRights", "used", "LCardRights$Uses;", true)
  | 8 => ("CardRights", "needs", "LCardRights$Needs;", true)
  | _ => ("CardRights", "latest", "I", false)
def tt_C : Nat → FieldType := fun k => match k with
  | 0 => (.object "java/util/List")
  | 1 => (.object "java/util/List")
  | 2 => (.object "java/util/List")
  | 3 => (.object "java/util/List")
  | 4 => (.object "java/util/List")
  | 5 => (.object "CardRights$Knowledge")
  | 6 => (.object "CardRights$Findings")
  | 7 => (.object "CardRights$Uses")
  | 8 => (.object "CardRights$Needs")
  | _ => .int
theorem nm_C : ∀ a, a < 10 → ∀ b, b < 10 → a ≠ b → (T_C a).2.1 ≠ (T_C b).2.1 := by decide +kernel
theorem ty_C : ∀ k, k < 10 → parseFieldDescriptor (T_C k).2.2.1 = some (tt_C k) := by decide +kernel
def R_Cd : String := "CardRights$Card"
def T_Cd : u_T := fun k => match k with
  | 0 => ("CardRights$Card", "number", "I", true)
  | 1 => ("CardRights$Card", "owner", "LCardRights$Person;", true)
  | _ => ("CardRights$Card", "until", "I", true)
def tt_Cd : Nat → FieldType := fun k => match k with
  | 0 => .int
  | 1 => (.object "CardRights$Person")
  | _ => .int
theorem nm_Cd : ∀ a, a < 3 → ∀ b, b < 3 → a ≠ b → (T_Cd a).2.1 ≠ (T_Cd b).2.1 := by decide +kernel
theorem ty_Cd : ∀ k, k < 3 → parseFieldDescriptor (T_Cd k).2.2.1 = some (tt_Cd k) := by decide +kernel
def R_Dr : String := "CardRights$Door"
def T_Dr : u_T := fun k => match k with
  | 0 => ("CardRights$Door", "number", "I", true)
  | 1 => ("CardRights$Door", "roomA", "LCardRights$Room;", true)
  | 2 => ("CardRights$Door", "roomB", "LCardRights$Room;", true)
  | 3 => ("CardRights$Door", "wantsTwo", "Z", false)
  | 4 => ("CardRights$Door", "open", "Z", false)
  | 5 => ("CardRights$Door", "asItIsSince", "I", false)
  | 6 => ("CardRights$Door", "airlocks", "I", false)
  | 7 => ("CardRights$Door", "isOff", "Z", false)
  | 8 => ("CardRights$Door", "knewWhenCutOff", "LCardRights$Knowledge;", true)
  | _ => ("CardRights$Door", "rows", "Ljava/util/List;", true)
def tt_Dr : Nat → FieldType := fun k => match k with
  | 0 => .int
  | 1 => (.object "CardRights$Room")
  | 2 => (.object "CardRights$Room")
  | 3 => .boolean
  | 4 => .boolean
  | 5 => .int
  | 6 => .int
  | 7 => .boolean
  | 8 => (.object "CardRights$Knowledge")
  | _ => (.object "java/util/List")
theorem nm_Dr : ∀ a, a < 10 → ∀ b, b < 10 → a ≠ b → (T_Dr a).2.1 ≠ (T_Dr b).2.1 := by decide +kernel
theorem ty_Dr : ∀ k, k < 10 → parseFieldDescriptor (T_Dr k).2.2.1 = some (tt_Dr k) := by decide +kernel
def R_Fi : String := "CardRights$Findings"
def T_Fi : u_T := fun k => match k with
  | 0 => ("CardRights$Findings", "parts", "[I", true)
  | 1 => ("CardRights$Findings", "count", "I", false)
  | _ => ("CardRights$Findings", "kept", "I", false)
def tt_Fi : Nat → FieldType := fun k => match k with
  | 0 => (.array .int)
  | 1 => .int
  | _ => .int
theorem nm_Fi : ∀ a, a < 3 → ∀ b, b < 3 → a ≠ b → (T_Fi a).2.1 ≠ (T_Fi b).2.1 := by decide +kernel
theorem ty_Fi : ∀ k, k < 3 → parseFieldDescriptor (T_Fi k).2.2.1 = some (tt_Fi k) := by decide +kernel
def R_Kn : String := "CardRights$Knowledge"
def T_Kn : u_T := fun k => match k with
  | 0 => ("CardRights$Knowledge", "cardCount", "I", false)
  | 1 => ("CardRights$Knowledge", "rightCount", "I", false)
  | 2 => ("CardRights$Knowledge", "lostFrom", "[I", true)
  | _ => ("CardRights$Knowledge", "endedFrom", "[I", true)
def tt_Kn : Nat → FieldType := fun k => match k with
  | 0 => .int
  | 1 => .int
  | 2 => (.array .int)
  | _ => (.array .int)
theorem nm_Kn : ∀ a, a < 4 → ∀ b, b < 4 → a ≠ b → (T_Kn a).2.1 ≠ (T_Kn b).2.1 := by decide +kernel
theorem ty_Kn : ∀ k, k < 4 → parseFieldDescriptor (T_Kn k).2.2.1 = some (tt_Kn k) := by decide +kernel
def R_Ne : String := "CardRights$Needs"
def T_Ne : u_T := fun k => match k with
  | 0 => ("CardRights$Needs", "sets", "[I", true)
  | _ => ("CardRights$Needs", "count", "I", false)
def tt_Ne : Nat → FieldType := fun k => match k with
  | 0 => (.array .int)
  | _ => .int
theorem nm_Ne : ∀ a, a < 2 → ∀ b, b < 2 → a ≠ b → (T_Ne a).2.1 ≠ (T_Ne b).2.1 := by decide +kernel
theorem ty_Ne : ∀ k, k < 2 → parseFieldDescriptor (T_Ne k).2.2.1 = some (tt_Ne k) := by decide +kernel
def R_Pe : String := "CardRights$Person"
def T_Pe : u_T := fun k => match k with
  | 0 => ("CardRights$Person", "group", "I", true)
  | _ => ("CardRights$Person", "in", "LCardRights$Room;", false)
def tt_Pe : Nat → FieldType := fun k => match k with
  | 0 => .int
  | _ => (.object "CardRights$Room")
theorem nm_Pe : ∀ a, a < 2 → ∀ b, b < 2 → a ≠ b → (T_Pe a).2.1 ≠ (T_Pe b).2.1 := by decide +kernel
theorem ty_Pe : ∀ k, k < 2 → parseFieldDescriptor (T_Pe k).2.2.1 = some (tt_Pe k) := by decide +kernel
def R_Ri : String := "CardRights$Right"
def T_Ri : u_T := fun k => match k with
  | 0 => ("CardRights$Right", "group", "I", true)
  | 1 => ("CardRights$Right", "zone", "I", true)
  | 2 => ("CardRights$Right", "from", "I", true)
  | 3 => ("CardRights$Right", "to", "I", true)
  | _ => ("CardRights$Right", "since", "I", true)
def tt_Ri : Nat → FieldType := fun k => match k with
  | 0 => .int
  | 1 => .int
  | 2 => .int
  | 3 => .int
  | _ => .int
theorem nm_Ri : ∀ a, a < 5 → ∀ b, b < 5 → a ≠ b → (T_Ri a).2.1 ≠ (T_Ri b).2.1 := by decide +kernel
theorem ty_Ri : ∀ k, k < 5 → parseFieldDescriptor (T_Ri k).2.2.1 = some (tt_Ri k) := by decide +kernel
def R_Ro : String := "CardRights$Room"
def T_Ro : u_T := fun k => match k with
  | 0 => ("CardRights$Room", "number", "I", true)
  | _ => ("CardRights$Room", "zone", "I", true)
def tt_Ro : Nat → FieldType := fun k => match k with
  | 0 => .int
  | _ => .int
theorem nm_Ro : ∀ a, a < 2 → ∀ b, b < 2 → a ≠ b → (T_Ro a).2.1 ≠ (T_Ro b).2.1 := by decide +kernel
theorem ty_Ro : ∀ k, k < 2 → parseFieldDescriptor (T_Ro k).2.2.1 = some (tt_Ro k) := by decide +kernel
def R_Rw : String := "CardRights$Row"
def T_Rw : u_T := fun k => match k with
  | 0 => ("CardRights$Row", "card", "LCardRights$Card;", true)
  | 1 => ("CardRights$Row", "room", "LCardRights$Room;", true)
  | _ => ("CardRights$Row", "minute", "I", true)
def tt_Rw : Nat → FieldType := fun k => match k with
  | 0 => (.object "CardRights$Card")
  | 1 => (.object "CardRights$Room")
  | _ => .int
theorem nm_Rw : ∀ a, a < 3 → ∀ b, b < 3 → a ≠ b → (T_Rw a).2.1 ≠ (T_Rw b).2.1 := by decide +kernel
theorem ty_Rw : ∀ k, k < 3 → parseFieldDescriptor (T_Rw k).2.2.1 = some (tt_Rw k) := by decide +kernel
def R_Us : String := "CardRights$Uses"
def T_Us : u_T := fun k => match k with
  | 0 => ("CardRights$Uses", "words", "[J", true)
  | _ => ("CardRights$Uses", "count", "I", false)
def tt_Us : Nat → FieldType := fun k => match k with
  | 0 => (.array .long)
  | _ => .int
theorem nm_Us : ∀ a, a < 2 → ∀ b, b < 2 → a ≠ b → (T_Us a).2.1 ≠ (T_Us b).2.1 := by decide +kernel
theorem ty_Us : ∀ k, k < 2 → parseFieldDescriptor (T_Us k).2.2.1 = some (tt_Us k) := by decide +kernel
def R_M : String := "CardRightsModel"
def T_M : u_T := fun k => match k with
  | 0 => ("CardRightsModel", "code", "I", false)
  | 1 => ("CardRightsModel", "now", "I", false)
  | 2 => ("CardRightsModel", "rooms", "I", false)
  | 3 => ("CardRightsModel", "zone", "[I", true)
  | 4 => ("CardRightsModel", "doors", "I", false)
  | 5 => ("CardRightsModel", "roomA", "[I", true)
  | 6 => ("CardRightsModel", "roomB", "[I", true)
  | 7 => ("CardRightsModel", "two", "[Z", true)
  | 8 => ("CardRightsModel", "open", "[Z", true)
  | 9 => ("CardRightsModel", "changed", "[I", true)
  | 10 => ("CardRightsModel", "known", "[I", true)
  | 11 => ("CardRightsModel", "airlock", "[Z", true)
  | 12 => ("CardRightsModel", "rows", "[I", true)
  | 13 => ("CardRightsModel", "rowCard", "[I", true)
  | 14 => ("CardRightsModel", "rowRoom", "[I", true)
  | 15 => ("CardRightsModel", "rowMinute", "[I", true)
  | 16 => ("CardRightsModel", "persons", "I", false)
  | 17 => ("CardRightsModel", "group", "[I", true)
  | 18 => ("CardRightsModel", "place", "[I", true)
  | 19 => ("CardRightsModel", "cards", "I", false)
  | 20 => ("CardRightsModel", "person", "[I", true)
  | 21 => ("CardRightsModel", "until", "[I", true)
  | 22 => ("CardRightsModel", "rights", "I", false)
  | 23 => ("CardRightsModel", "rightGroup", "[I", true)
  | 24 => ("CardRightsModel", "rightZone", "[I", true)
  | 25 => ("CardRightsModel", "rightFrom", "[I", true)
  | 26 => ("CardRightsModel", "rightTo", "[I", true)
  | 27 => ("CardRightsModel", "rightSince", "[I", true)
  | 28 => ("CardRightsModel", "tellings", "I", false)
  | 29 => ("CardRightsModel", "tellKind", "[I", true)
  | 30 => ("CardRightsModel", "tellWhich", "[I", true)
  | 31 => ("CardRightsModel", "tellMinute", "[I", true)
  | 32 => ("CardRightsModel", "uses", "I", false)
  | 33 => ("CardRightsModel", "use", "[I", true)
  | 34 => ("CardRightsModel", "against", "I", false)
  | 35 => ("CardRightsModel", "foundDoor", "[I", true)
  | 36 => ("CardRightsModel", "foundCard", "[I", true)
  | 37 => ("CardRightsModel", "foundMinute", "[I", true)
  | 38 => ("CardRightsModel", "foundWhy", "[I", true)
  | 39 => ("CardRightsModel", "wanted", "[Z", true)
  | _ => ("CardRightsModel", "want", "[I", true)
def tt_M : Nat → FieldType := fun k => match k with
  | 0 => .int
  | 1 => .int
  | 2 => .int
  | 3 => (.array .int)
  | 4 => .int
  | 5 => (.array .int)
  | 6 => (.array .int)
  | 7 => (.array .boolean)
  | 8 => (.array .boolean)
  | 9 => (.array .int)
  | 10 => (.array .int)
  | 11 => (.array .boolean)
  | 12 => (.array .int)
  | 13 => (.array .int)
  | 14 => (.array .int)
  | 15 => (.array .int)
  | 16 => .int
  | 17 => (.array .int)
  | 18 => (.array .int)
  | 19 => .int
  | 20 => (.array .int)
  | 21 => (.array .int)
  | 22 => .int
  | 23 => (.array .int)
  | 24 => (.array .int)
  | 25 => (.array .int)
  | 26 => (.array .int)
  | 27 => (.array .int)
  | 28 => .int
  | 29 => (.array .int)
  | 30 => (.array .int)
  | 31 => (.array .int)
  | 32 => .int
  | 33 => (.array .int)
  | 34 => .int
  | 35 => (.array .int)
  | 36 => (.array .int)
  | 37 => (.array .int)
  | 38 => (.array .int)
  | 39 => (.array .boolean)
  | _ => (.array .int)
theorem nm_M : ∀ a, a < 41 → ∀ b, b < 41 → a ≠ b → (T_M a).2.1 ≠ (T_M b).2.1 := by decide +kernel
theorem ty_M : ∀ k, k < 41 → parseFieldDescriptor (T_M k).2.2.1 = some (tt_M k) := by decide +kernel
def R_AL : String := "java/util/ArrayList"
def T_AL : u_T := fun k => match k with
  | 0 => ("java/util/ArrayList", "elementData", "[Ljava/lang/Object;", false)
  | 1 => ("java/util/ArrayList", "size", "I", false)
  | _ => ("java/util/AbstractList", "modCount", "I", false)
def tt_AL : Nat → FieldType := fun k => match k with
  | 0 => (.array (.object "java/lang/Object"))
  | 1 => .int
  | _ => .int
theorem nm_AL : ∀ a, a < 3 → ∀ b, b < 3 → a ≠ b → (T_AL a).2.1 ≠ (T_AL b).2.1 := by decide +kernel
theorem ty_AL : ∀ k, k < 3 → parseFieldDescriptor (T_AL k).2.2.1 = some (tt_AL k) := by decide +kernel
def kc : List vw_C := [(R_C, T_C, 10), (R_Cd, T_Cd, 3), (R_Dr, T_Dr, 10), (R_Fi, T_Fi, 3), (R_Kn, T_Kn, 4), (R_Ne, T_Ne, 2), (R_Pe, T_Pe, 2), (R_Ri, T_Ri, 5), (R_Ro, T_Ro, 2), (R_Rw, T_Rw, 3), (R_Us, T_Us, 2), (R_M, T_M, 41), (R_AL, T_AL, 3)]
abbrev c_C_init : ByteArray := prog_1_method_1_code
def y_C_init : MethodName := { cls := "CardRights", name := "<init>", desc := "()V" }
abbrev cw_C_init : Cond := .code y_C_init c_C_init 1 (Option.none : Option FieldType)
abbrev c_AL_init : ByteArray := prog_27_method_2_code
def y_AL_init : MethodName := { cls := "java/util/ArrayList", name := "<init>", desc := "()V" }
abbrev cw_AL_init : Cond := .code y_AL_init c_AL_init 1 (Option.none : Option FieldType)
abbrev c_AbL_init : ByteArray := prog_26_method_1_code
def y_AbL_init : MethodName := { cls := "java/util/AbstractList", name := "<init>", desc := "()V" }
abbrev cw_AbL_init : Cond := .code y_AbL_init c_AbL_init 1 (Option.none : Option FieldType)
abbrev c_AbC_init : ByteArray := prog_25_method_1_code
def y_AbC_init : MethodName := { cls := "java/util/AbstractCollection", name := "<init>", desc := "()V" }
abbrev cw_AbC_init : Cond := .code y_AbC_init c_AbC_init 1 (Option.none : Option FieldType)
abbrev c_Kn_init : ByteArray := prog_5_method_1_code
def y_Kn_init : MethodName := { cls := "CardRights$Knowledge", name := "<init>", desc := "()V" }
abbrev cw_Kn_init : Cond := .code y_Kn_init c_Kn_init 1 (Option.none : Option FieldType)
abbrev c_Ar_fill : ByteArray := prog_28_method_103_code
def y_Ar_fill : MethodName := { cls := "java/util/Arrays", name := "fill", desc := "([II)V" }
abbrev cw_Ar_fill : Cond := .code y_Ar_fill c_Ar_fill 4 (Option.none : Option FieldType)
abbrev c_Fi_init : ByteArray := prog_4_method_1_code
def y_Fi_init : MethodName := { cls := "CardRights$Findings", name := "<init>", desc := "()V" }
abbrev cw_Fi_init : Cond := .code y_Fi_init c_Fi_init 1 (Option.none : Option FieldType)
abbrev c_Us_init : ByteArray := prog_11_method_1_code
def y_Us_init : MethodName := { cls := "CardRights$Uses", name := "<init>", desc := "()V" }
abbrev cw_Us_init : Cond := .code y_Us_init c_Us_init 1 (Option.none : Option FieldType)
abbrev c_Ne_init : ByteArray := prog_6_method_1_code
def y_Ne_init : MethodName := { cls := "CardRights$Needs", name := "<init>", desc := "()V" }
abbrev cw_Ne_init : Cond := .code y_Ne_init c_Ne_init 1 (Option.none : Option FieldType)
abbrev c_C_against : ByteArray := prog_1_method_18_code
def y_C_against : MethodName := { cls := "CardRights", name := "against", desc := "()I" }
abbrev cw_C_against : Cond := .code y_C_against c_C_against 1 (Option.some FieldType.int)
abbrev c_C_uses : ByteArray := prog_1_method_20_code
def y_C_uses : MethodName := { cls := "CardRights", name := "uses", desc := "()I" }
abbrev cw_C_uses : Cond := .code y_C_uses c_C_uses 1 (Option.some FieldType.int)
abbrev c_C_fewest : ByteArray := prog_1_method_21_code
def y_C_fewest : MethodName := { cls := "CardRights", name := "fewest", desc := "()I" }
abbrev cw_C_fewest : Cond := .code y_C_fewest c_C_fewest 5 (Option.some FieldType.int)
abbrev c_Ne_clear : ByteArray := prog_6_method_2_code
def y_Ne_clear : MethodName := { cls := "CardRights$Needs", name := "clear", desc := "()V" }
abbrev cw_Ne_clear : Cond := .code y_Ne_clear c_Ne_clear 1 (Option.none : Option FieldType)
abbrev c_C_rightsThatHave : ByteArray := prog_1_method_41_code
def y_C_rightsThatHave : MethodName := { cls := "CardRights", name := "rightsThatHave", desc := "(I)I" }
abbrev cw_C_rightsThatHave : Cond := .code y_C_rightsThatHave c_C_rightsThatHave 7 (Option.some FieldType.int)
abbrev c_Us_groupOf : ByteArray := prog_11_method_3_code
def y_Us_groupOf : MethodName := { cls := "CardRights$Uses", name := "groupOf", desc := "(I)I" }
abbrev cw_Us_groupOf : Cond := .code y_Us_groupOf c_Us_groupOf 1 (Option.some FieldType.int)
abbrev c_Us_zoneOf : ByteArray := prog_11_method_4_code
def y_Us_zoneOf : MethodName := { cls := "CardRights$Uses", name := "zoneOf", desc := "(I)I" }
abbrev cw_Us_zoneOf : Cond := .code y_Us_zoneOf c_Us_zoneOf 1 (Option.some FieldType.int)
abbrev c_Us_timeOf : ByteArray := prog_11_method_5_code
def y_Us_timeOf : MethodName := { cls := "CardRights$Uses", name := "timeOf", desc := "(I)I" }
abbrev cw_Us_timeOf : Cond := .code y_Us_timeOf c_Us_timeOf 1 (Option.some FieldType.int)
abbrev c_AL_size : ByteArray := prog_27_method_8_code
def y_AL_size : MethodName := { cls := "java/util/ArrayList", name := "size", desc := "()I" }
abbrev cw_AL_size : Cond := .code y_AL_size c_AL_size 1 (Option.some FieldType.int)
abbrev c_AL_get : ByteArray := prog_27_method_20_code
def y_AL_get : MethodName := { cls := "java/util/ArrayList", name := "get", desc := "(I)Ljava/lang/Object;" }
abbrev cw_AL_get : Cond := .code y_AL_get c_AL_get 2 (Option.some (FieldType.object "java/lang/Object"))
abbrev c_Ob_checkIndex : ByteArray := prog_31_method_17_code
def y_Ob_checkIndex : MethodName := { cls := "java/util/Objects", name := "checkIndex", desc := "(II)I" }
abbrev cw_Ob_checkIndex : Cond := .code y_Ob_checkIndex c_Ob_checkIndex 2 (Option.some FieldType.int)
abbrev c_Pr_checkIndex : ByteArray := prog_35_method_11_code
def y_Pr_checkIndex : MethodName := { cls := "jdk/internal/util/Preconditions", name := "checkIndex", desc := "(IILjava/util/function/BiFunction;)I" }
abbrev cw_Pr_checkIndex : Cond := .code y_Pr_checkIndex c_Pr_checkIndex 3 (Option.some FieldType.int)
abbrev c_AL_elementData : ByteArray := prog_27_method_18_code
def y_AL_elementData : MethodName := { cls := "java/util/ArrayList", name := "elementData", desc := "(I)Ljava/lang/Object;" }
abbrev cw_AL_elementData : Cond := .code y_AL_elementData c_AL_elementData 2 (Option.some (FieldType.object "java/lang/Object"))
abbrev c_Ri_isFor : ByteArray := prog_8_method_2_code
def y_Ri_isFor : MethodName := { cls := "CardRights$Right", name := "isFor", desc := "(III)Z" }
abbrev cw_Ri_isFor : Cond := .code y_Ri_isFor c_Ri_isFor 4 (Option.some FieldType.boolean)
abbrev c_Ri_spans : ByteArray := prog_8_method_3_code
def y_Ri_spans : MethodName := { cls := "CardRights$Right", name := "spans", desc := "(I)Z" }
abbrev cw_Ri_spans : Cond := .code y_Ri_spans c_Ri_spans 2 (Option.some FieldType.boolean)
abbrev c_Ne_add : ByteArray := prog_6_method_3_code
def y_Ne_add : MethodName := { cls := "CardRights$Needs", name := "add", desc := "(I)V" }
abbrev cw_Ne_add : Cond := .code y_Ne_add c_Ne_add 3 (Option.none : Option FieldType)
abbrev c_Ne_leastOfTheFewest : ByteArray := prog_6_method_4_code
def y_Ne_leastOfTheFewest : MethodName := { cls := "CardRights$Needs", name := "leastOfTheFewest", desc := "()I" }
abbrev cw_Ne_leastOfTheFewest : Cond := .code y_Ne_leastOfTheFewest c_Ne_leastOfTheFewest 3 (Option.some FieldType.int)
abbrev c_Ne_leastWith : ByteArray := prog_6_method_5_code
def y_Ne_leastWith : MethodName := { cls := "CardRights$Needs", name := "leastWith", desc := "(III)I" }
abbrev cw_Ne_leastWith : Cond := .code y_Ne_leastWith c_Ne_leastWith 6 (Option.some FieldType.int)
abbrev c_Ne_canBeMet : ByteArray := prog_6_method_6_code
def y_Ne_canBeMet : MethodName := { cls := "CardRights$Needs", name := "canBeMet", desc := "(III)Z" }
abbrev cw_Ne_canBeMet : Cond := .code y_Ne_canBeMet c_Ne_canBeMet 8 (Option.some FieldType.boolean)
abbrev c_C_now : ByteArray := prog_1_method_22_code
def y_C_now : MethodName := { cls := "CardRights", name := "now", desc := "()I" }
abbrev cw_C_now : Cond := .code y_C_now c_C_now 1 (Option.some FieldType.int)
abbrev c_C_room : ByteArray := prog_1_method_2_code
def y_C_room : MethodName := { cls := "CardRights", name := "room", desc := "(I)I" }
abbrev cw_C_room : Cond := .code y_C_room c_C_room 3 (Option.some FieldType.int)
abbrev c_C_checkZone : ByteArray := prog_1_method_23_code
def y_C_checkZone : MethodName := { cls := "CardRights", name := "checkZone", desc := "(I)V" }
abbrev cw_C_checkZone : Cond := .code y_C_checkZone c_C_checkZone 1 (Option.none : Option FieldType)
abbrev c_Ro_init : ByteArray := prog_9_method_1_code
def y_Ro_init : MethodName := { cls := "CardRights$Room", name := "<init>", desc := "(II)V" }
abbrev cw_Ro_init : Cond := .code y_Ro_init c_Ro_init 3 (Option.none : Option FieldType)
abbrev c_AL_add0 : ByteArray := prog_27_method_25_code
def y_AL_add0 : MethodName := { cls := "java/util/ArrayList", name := "add", desc := "(Ljava/lang/Object;)Z" }
abbrev cw_AL_add0 : Cond := .code y_AL_add0 c_AL_add0 2 (Option.some FieldType.boolean)
abbrev c_AL_add1 : ByteArray := prog_27_method_24_code
def y_AL_add1 : MethodName := { cls := "java/util/ArrayList", name := "add", desc := "(Ljava/lang/Object;[Ljava/lang/Object;I)V" }
abbrev cw_AL_add1 : Cond := .code y_AL_add1 c_AL_add1 4 (Option.none : Option FieldType)
abbrev c_AL_grow0 : ByteArray := prog_27_method_7_code
def y_AL_grow0 : MethodName := { cls := "java/util/ArrayList", name := "grow", desc := "()[Ljava/lang/Object;" }
abbrev cw_AL_grow0 : Cond := .code y_AL_grow0 c_AL_grow0 1 (Option.some (FieldType.array (FieldType.object "java/lang/Object")))
abbrev c_AL_grow1 : ByteArray := prog_27_method_6_code
def y_AL_grow1 : MethodName := { cls := "java/util/ArrayList", name := "grow", desc := "(I)[Ljava/lang/Object;" }
abbrev cw_AL_grow1 : Cond := .code y_AL_grow1 c_AL_grow1 4 (Option.some (FieldType.array (FieldType.object "java/lang/Object")))
abbrev c_As_newLength : ByteArray := prog_34_method_27_code
def y_As_newLength : MethodName := { cls := "jdk/internal/util/ArraysSupport", name := "newLength", desc := "(III)I" }
abbrev cw_As_newLength : Cond := .code y_As_newLength c_As_newLength 4 (Option.some FieldType.int)
abbrev c_Ma_max : ByteArray := prog_20_method_65_code
def y_Ma_max : MethodName := { cls := "java/lang/Math", name := "max", desc := "(II)I" }
abbrev cw_Ma_max : Cond := .code y_Ma_max c_Ma_max 2 (Option.some FieldType.int)
abbrev c_As_hugeLength : ByteArray := prog_34_method_28_code
def y_As_hugeLength : MethodName := { cls := "jdk/internal/util/ArraysSupport", name := "hugeLength", desc := "(II)I" }
abbrev cw_As_hugeLength : Cond := .code y_As_hugeLength c_As_hugeLength 3 (Option.some FieldType.int)
abbrev c_Ar_copyOf0 : ByteArray := prog_28_method_119_code
def y_Ar_copyOf0 : MethodName := { cls := "java/util/Arrays", name := "copyOf", desc := "([Ljava/lang/Object;I)[Ljava/lang/Object;" }
abbrev cw_Ar_copyOf0 : Cond := .code y_Ar_copyOf0 c_Ar_copyOf0 2 (Option.some (FieldType.array (FieldType.object "java/lang/Object")))
abbrev c_Ar_copyOf1 : ByteArray := prog_28_method_120_code
def y_Ar_copyOf1 : MethodName := { cls := "java/util/Arrays", name := "copyOf", desc := "([Ljava/lang/Object;ILjava/lang/Class;)[Ljava/lang/Object;" }
abbrev cw_Ar_copyOf1 : Cond := .code y_Ar_copyOf1 c_Ar_copyOf1 4 (Option.some (FieldType.array (FieldType.object "java/lang/Object")))
abbrev c_Ma_min : ByteArray := prog_20_method_69_code
def y_Ma_min : MethodName := { cls := "java/lang/Math", name := "min", desc := "(II)I" }
abbrev cw_Ma_min : Cond := .code y_Ma_min c_Ma_min 2 (Option.some FieldType.int)
abbrev c_C_door : ByteArray := prog_1_method_3_code
def y_C_door : MethodName := { cls := "CardRights", name := "door", desc := "(II)I" }
abbrev cw_C_door : Cond := .code y_C_door c_C_door 6 (Option.some FieldType.int)
abbrev c_C_roomNumbered : ByteArray := prog_1_method_29_code
def y_C_roomNumbered : MethodName := { cls := "CardRights", name := "roomNumbered", desc := "(I)LCardRights$Room;" }
abbrev cw_C_roomNumbered : Cond := .code y_C_roomNumbered c_C_roomNumbered 2 (Option.some (FieldType.object "CardRights$Room"))
abbrev c_Dr_init : ByteArray := prog_3_method_1_code
def y_Dr_init : MethodName := { cls := "CardRights$Door", name := "<init>", desc := "(ILCardRights$Room;LCardRights$Room;)V" }
abbrev cw_Dr_init : Cond := .code y_Dr_init c_Dr_init 4 (Option.none : Option FieldType)
abbrev c_C_person : ByteArray := prog_1_method_4_code
def y_C_person : MethodName := { cls := "CardRights", name := "person", desc := "(I)I" }
abbrev cw_C_person : Cond := .code y_C_person c_C_person 2 (Option.some FieldType.int)
abbrev c_C_checkGroup : ByteArray := prog_1_method_24_code
def y_C_checkGroup : MethodName := { cls := "CardRights", name := "checkGroup", desc := "(I)V" }
abbrev cw_C_checkGroup : Cond := .code y_C_checkGroup c_C_checkGroup 1 (Option.none : Option FieldType)
abbrev c_AL_isEmpty : ByteArray := prog_27_method_9_code
def y_AL_isEmpty : MethodName := { cls := "java/util/ArrayList", name := "isEmpty", desc := "()Z" }
abbrev cw_AL_isEmpty : Cond := .code y_AL_isEmpty c_AL_isEmpty 1 (Option.some FieldType.boolean)
abbrev c_Pe_init : ByteArray := prog_7_method_1_code
def y_Pe_init : MethodName := { cls := "CardRights$Person", name := "<init>", desc := "(ILCardRights$Room;)V" }
abbrev cw_Pe_init : Cond := .code y_Pe_init c_Pe_init 3 (Option.none : Option FieldType)
abbrev c_C_card : ByteArray := prog_1_method_5_code
def y_C_card : MethodName := { cls := "CardRights", name := "card", desc := "(II)I" }
abbrev cw_C_card : Cond := .code y_C_card c_C_card 5 (Option.some FieldType.int)
abbrev c_C_personNumbered : ByteArray := prog_1_method_32_code
def y_C_personNumbered : MethodName := { cls := "CardRights", name := "personNumbered", desc := "(I)LCardRights$Person;" }
abbrev cw_C_personNumbered : Cond := .code y_C_personNumbered c_C_personNumbered 2 (Option.some (FieldType.object "CardRights$Person"))
abbrev c_C_checkMinute : ByteArray := prog_1_method_26_code
def y_C_checkMinute : MethodName := { cls := "CardRights", name := "checkMinute", desc := "(I)V" }
abbrev cw_C_checkMinute : Cond := .code y_C_checkMinute c_C_checkMinute 1 (Option.none : Option FieldType)
abbrev c_Cd_init : ByteArray := prog_2_method_1_code
def y_Cd_init : MethodName := { cls := "CardRights$Card", name := "<init>", desc := "(ILCardRights$Person;I)V" }
abbrev cw_Cd_init : Cond := .code y_Cd_init c_Cd_init 4 (Option.none : Option FieldType)
abbrev c_C_right : ByteArray := prog_1_method_6_code
def y_C_right : MethodName := { cls := "CardRights", name := "right", desc := "(IIIII)I" }
abbrev cw_C_right : Cond := .code y_C_right c_C_right 6 (Option.some FieldType.int)
abbrev c_C_checkTimeOfDay : ByteArray := prog_1_method_25_code
def y_C_checkTimeOfDay : MethodName := { cls := "CardRights", name := "checkTimeOfDay", desc := "(I)V" }
abbrev cw_C_checkTimeOfDay : Cond := .code y_C_checkTimeOfDay c_C_checkTimeOfDay 1 (Option.none : Option FieldType)
abbrev c_Ri_init : ByteArray := prog_8_method_1_code
def y_Ri_init : MethodName := { cls := "CardRights$Right", name := "<init>", desc := "(IIIII)V" }
abbrev cw_Ri_init : Cond := .code y_Ri_init c_Ri_init 6 (Option.none : Option FieldType)
abbrev c_C_end : ByteArray := prog_1_method_7_code
def y_C_end : MethodName := { cls := "CardRights", name := "end", desc := "(II)I" }
abbrev cw_C_end : Cond := .code y_C_end c_C_end 4 (Option.some FieldType.int)
abbrev c_C_lost : ByteArray := prog_1_method_8_code
def y_C_lost : MethodName := { cls := "CardRights", name := "lost", desc := "(II)I" }
abbrev cw_C_lost : Cond := .code y_C_lost c_C_lost 5 (Option.some FieldType.int)
abbrev c_C_cardNumbered : ByteArray := prog_1_method_33_code
def y_C_cardNumbered : MethodName := { cls := "CardRights", name := "cardNumbered", desc := "(I)LCardRights$Card;" }
abbrev cw_C_cardNumbered : Cond := .code y_C_cardNumbered c_C_cardNumbered 2 (Option.some (FieldType.object "CardRights$Card"))
abbrev c_C_two : ByteArray := prog_1_method_9_code
def y_C_two : MethodName := { cls := "CardRights", name := "two", desc := "(IZ)Z" }
abbrev cw_C_two : Cond := .code y_C_two c_C_two 5 (Option.some FieldType.boolean)
abbrev c_C_doorNumbered : ByteArray := prog_1_method_31_code
def y_C_doorNumbered : MethodName := { cls := "CardRights", name := "doorNumbered", desc := "(I)LCardRights$Door;" }
abbrev cw_C_doorNumbered : Cond := .code y_C_doorNumbered c_C_doorNumbered 2 (Option.some (FieldType.object "CardRights$Door"))
abbrev c_C_airlock : ByteArray := prog_1_method_10_code
def y_C_airlock : MethodName := { cls := "CardRights", name := "airlock", desc := "(IIZ)Z" }
abbrev cw_C_airlock : Cond := .code y_C_airlock c_C_airlock 7 (Option.some FieldType.boolean)
abbrev c_Dr_isAirlockWith : ByteArray := prog_3_method_3_code
def y_Dr_isAirlockWith : MethodName := { cls := "CardRights$Door", name := "isAirlockWith", desc := "(LCardRights$Door;)Z" }
abbrev cw_Dr_isAirlockWith : Cond := .code y_Dr_isAirlockWith c_Dr_isAirlockWith 2 (Option.some FieldType.boolean)
abbrev c_Dr_setAirlockWith : ByteArray := prog_3_method_4_code
def y_Dr_setAirlockWith : MethodName := { cls := "CardRights$Door", name := "setAirlockWith", desc := "(LCardRights$Door;Z)V" }
abbrev cw_Dr_setAirlockWith : Cond := .code y_Dr_setAirlockWith c_Dr_setAirlockWith 3 (Option.none : Option FieldType)
abbrev c_C_state : ByteArray := prog_1_method_11_code
def y_C_state : MethodName := { cls := "CardRights", name := "state", desc := "(IZI)I" }
abbrev cw_C_state : Cond := .code y_C_state c_C_state 6 (Option.some FieldType.int)
abbrev c_C_checkMinuteFromNow : ByteArray := prog_1_method_27_code
def y_C_checkMinuteFromNow : MethodName := { cls := "CardRights", name := "checkMinuteFromNow", desc := "(I)V" }
abbrev cw_C_checkMinuteFromNow : Cond := .code y_C_checkMinuteFromNow c_C_checkMinuteFromNow 2 (Option.none : Option FieldType)
abbrev c_C_off : ByteArray := prog_1_method_12_code
def y_C_off : MethodName := { cls := "CardRights", name := "off", desc := "(IZ)I" }
abbrev cw_C_off : Cond := .code y_C_off c_C_off 4 (Option.some FieldType.int)
abbrev c_Kn_copyFrom : ByteArray := prog_5_method_2_code
def y_Kn_copyFrom : MethodName := { cls := "CardRights$Knowledge", name := "copyFrom", desc := "(LCardRights$Knowledge;)V" }
abbrev cw_Kn_copyFrom : Cond := .code y_Kn_copyFrom c_Kn_copyFrom 2 (Option.none : Option FieldType)
abbrev c_C_goThroughRows : ByteArray := prog_1_method_39_code
def y_C_goThroughRows : MethodName := { cls := "CardRights", name := "goThroughRows", desc := "(LCardRights$Door;)I" }
abbrev cw_C_goThroughRows : Cond := .code y_C_goThroughRows c_C_goThroughRows 6 (Option.some FieldType.int)
abbrev c_C_refusalLookingBack : ByteArray := prog_1_method_40_code
def y_C_refusalLookingBack : MethodName := { cls := "CardRights", name := "refusalLookingBack", desc := "(LCardRights$Row;)I" }
abbrev cw_C_refusalLookingBack : Cond := .code y_C_refusalLookingBack c_C_refusalLookingBack 3 (Option.some FieldType.int)
abbrev c_C_refusalOfCard : ByteArray := prog_1_method_35_code
def y_C_refusalOfCard : MethodName := { cls := "CardRights", name := "refusalOfCard", desc := "(LCardRights$Knowledge;LCardRights$Card;I)I" }
abbrev cw_C_refusalOfCard : Cond := .code y_C_refusalOfCard c_C_refusalOfCard 3 (Option.some FieldType.int)
abbrev c_Kn_knowsCard : ByteArray := prog_5_method_3_code
def y_Kn_knowsCard : MethodName := { cls := "CardRights$Knowledge", name := "knowsCard", desc := "(I)Z" }
abbrev cw_Kn_knowsCard : Cond := .code y_Kn_knowsCard c_Kn_knowsCard 2 (Option.some FieldType.boolean)
abbrev c_Kn_isLost : ByteArray := prog_5_method_4_code
def y_Kn_isLost : MethodName := { cls := "CardRights$Knowledge", name := "isLost", desc := "(II)Z" }
abbrev cw_Kn_isLost : Cond := .code y_Kn_isLost c_Kn_isLost 3 (Option.some FieldType.boolean)
abbrev c_Kn_isFrom : ByteArray := prog_5_method_6_code
def y_Kn_isFrom : MethodName := { cls := "CardRights$Knowledge", name := "isFrom", desc := "(II)Z" }
abbrev cw_Kn_isFrom : Cond := .code y_Kn_isFrom c_Kn_isFrom 2 (Option.some FieldType.boolean)
abbrev c_C_hasRight : ByteArray := prog_1_method_36_code
def y_C_hasRight : MethodName := { cls := "CardRights", name := "hasRight", desc := "(LCardRights$Knowledge;III)Z" }
abbrev cw_C_hasRight : Cond := .code y_C_hasRight c_C_hasRight 7 (Option.some FieldType.boolean)
abbrev c_Kn_isEnded : ByteArray := prog_5_method_5_code
def y_Kn_isEnded : MethodName := { cls := "CardRights$Knowledge", name := "isEnded", desc := "(II)Z" }
abbrev cw_Kn_isEnded : Cond := .code y_Kn_isEnded c_Kn_isEnded 3 (Option.some FieldType.boolean)
abbrev c_Fi_add : ByteArray := prog_4_method_2_code
def y_Fi_add : MethodName := { cls := "CardRights$Findings", name := "add", desc := "(IIII)V" }
abbrev cw_Fi_add : Cond := .code y_Fi_add c_Fi_add 6 (Option.none : Option FieldType)
abbrev c_AL_clear : ByteArray := prog_27_method_40_code
def y_AL_clear : MethodName := { cls := "java/util/ArrayList", name := "clear", desc := "()V" }
abbrev cw_AL_clear : Cond := .code y_AL_clear c_AL_clear 4 (Option.none : Option FieldType)
abbrev c_C_asks : ByteArray := prog_1_method_13_code
def y_C_asks : MethodName := { cls := "CardRights", name := "asks", desc := "(IIII)I" }
abbrev cw_C_asks : Cond := .code y_C_asks c_C_asks 9 (Option.some FieldType.int)
abbrev c_C_roomOfDoor : ByteArray := prog_1_method_30_code
def y_C_roomOfDoor : MethodName := { cls := "CardRights", name := "roomOfDoor", desc := "(LCardRights$Door;I)LCardRights$Room;" }
abbrev cw_C_roomOfDoor : Cond := .code y_C_roomOfDoor c_C_roomOfDoor 2 (Option.some (FieldType.object "CardRights$Room"))
abbrev c_C_checkSpaceForRows : ByteArray := prog_1_method_28_code
def y_C_checkSpaceForRows : MethodName := { cls := "CardRights", name := "checkSpaceForRows", desc := "(LCardRights$Door;I)V" }
abbrev cw_C_checkSpaceForRows : Cond := .code y_C_checkSpaceForRows c_C_checkSpaceForRows 2 (Option.none : Option FieldType)
abbrev c_C_refusalByItself : ByteArray := prog_1_method_34_code
def y_C_refusalByItself : MethodName := { cls := "CardRights", name := "refusalByItself", desc := "(LCardRights$Card;LCardRights$Door;LCardRights$Room;I)I" }
abbrev cw_C_refusalByItself : Cond := .code y_C_refusalByItself c_C_refusalByItself 7 (Option.some FieldType.int)
abbrev c_Dr_otherRoom : ByteArray := prog_3_method_2_code
def y_Dr_otherRoom : MethodName := { cls := "CardRights$Door", name := "otherRoom", desc := "(LCardRights$Room;)LCardRights$Room;" }
abbrev cw_Dr_otherRoom : Cond := .code y_Dr_otherRoom c_Dr_otherRoom 2 (Option.some (FieldType.object "CardRights$Room"))
abbrev c_C_isAirlockOpen : ByteArray := prog_1_method_37_code
def y_C_isAirlockOpen : MethodName := { cls := "CardRights", name := "isAirlockOpen", desc := "(LCardRights$Door;)Z" }
abbrev cw_C_isAirlockOpen : Cond := .code y_C_isAirlockOpen c_C_isAirlockOpen 4 (Option.some FieldType.boolean)
abbrev c_C_letIn : ByteArray := prog_1_method_38_code
def y_C_letIn : MethodName := { cls := "CardRights", name := "letIn", desc := "(LCardRights$Card;LCardRights$Door;LCardRights$Room;I)V" }
abbrev cw_C_letIn : Cond := .code y_C_letIn c_C_letIn 5 (Option.none : Option FieldType)
abbrev c_Us_mark : ByteArray := prog_11_method_2_code
def y_Us_mark : MethodName := { cls := "CardRights$Uses", name := "mark", desc := "(III)V" }
abbrev cw_Us_mark : Cond := .code y_Us_mark c_Us_mark 7 (Option.none : Option FieldType)
abbrev c_Rw_init : ByteArray := prog_10_method_1_code
def y_Rw_init : MethodName := { cls := "CardRights$Row", name := "<init>", desc := "(LCardRights$Card;LCardRights$Room;I)V" }
abbrev cw_Rw_init : Cond := .code y_Rw_init c_Rw_init 4 (Option.none : Option FieldType)
abbrev c_C_both : ByteArray := prog_1_method_14_code
def y_C_both : MethodName := { cls := "CardRights", name := "both", desc := "(IIIII)I" }
abbrev cw_C_both : Cond := .code y_C_both c_C_both 11 (Option.some FieldType.int)
abbrev c_C_where : ByteArray := prog_1_method_15_code
def y_C_where : MethodName := { cls := "CardRights", name := "where", desc := "(I)I" }
abbrev cw_C_where : Cond := .code y_C_where c_C_where 2 (Option.some FieldType.int)
abbrev c_C_inside : ByteArray := prog_1_method_16_code
def y_C_inside : MethodName := { cls := "CardRights", name := "inside", desc := "(I)I" }
abbrev cw_C_inside : Cond := .code y_C_inside c_C_inside 4 (Option.some FieldType.int)
abbrev c_C_muster : ByteArray := prog_1_method_17_code
def y_C_muster : MethodName := { cls := "CardRights", name := "muster", desc := "(II)I" }
abbrev cw_C_muster : Cond := .code y_C_muster c_C_muster 5 (Option.some FieldType.int)
abbrev c_C_found : ByteArray := prog_1_method_19_code
def y_C_found : MethodName := { cls := "CardRights", name := "found", desc := "(II)I" }
abbrev cw_C_found : Cond := .code y_C_found c_C_found 3 (Option.some FieldType.int)
abbrev c_M_init : ByteArray := prog_13_method_1_code
def y_M_init : MethodName := { cls := "CardRightsModel", name := "<init>", desc := "()V" }
abbrev cw_M_init : Cond := .code y_M_init c_M_init 1 (Option.none : Option FieldType)
abbrev c_M_thrown : ByteArray := prog_13_method_2_code
def y_M_thrown : MethodName := { cls := "CardRightsModel", name := "thrown", desc := "()I" }
abbrev cw_M_thrown : Cond := .code y_M_thrown c_M_thrown 1 (Option.some FieldType.int)
abbrev c_M_room : ByteArray := prog_13_method_8_code
def y_M_room : MethodName := { cls := "CardRightsModel", name := "room", desc := "(I)I" }
abbrev cw_M_room : Cond := .code y_M_room c_M_room 2 (Option.some FieldType.int)
abbrev c_M_isIn : ByteArray := prog_13_method_4_code
def y_M_isIn : MethodName := { cls := "CardRightsModel", name := "isIn", desc := "(II)Z" }
abbrev cw_M_isIn : Cond := .code y_M_isIn c_M_isIn 2 (Option.some FieldType.boolean)
abbrev c_M_goes : ByteArray := prog_13_method_3_code
def y_M_goes : MethodName := { cls := "CardRightsModel", name := "goes", desc := "(ZZ)Z" }
abbrev cw_M_goes : Cond := .code y_M_goes c_M_goes 3 (Option.some FieldType.boolean)
abbrev c_M_door : ByteArray := prog_13_method_9_code
def y_M_door : MethodName := { cls := "CardRightsModel", name := "door", desc := "(II)I" }
abbrev cw_M_door : Cond := .code y_M_door c_M_door 3 (Option.some FieldType.int)
abbrev c_M_person : ByteArray := prog_13_method_10_code
def y_M_person : MethodName := { cls := "CardRightsModel", name := "person", desc := "(I)I" }
abbrev cw_M_person : Cond := .code y_M_person c_M_person 2 (Option.some FieldType.int)
abbrev c_M_card : ByteArray := prog_13_method_11_code
def y_M_card : MethodName := { cls := "CardRightsModel", name := "card", desc := "(II)I" }
abbrev cw_M_card : Cond := .code y_M_card c_M_card 3 (Option.some FieldType.int)
abbrev c_M_isMinute : ByteArray := prog_13_method_5_code
def y_M_isMinute : MethodName := { cls := "CardRightsModel", name := "isMinute", desc := "(I)Z" }
abbrev cw_M_isMinute : Cond := .code y_M_isMinute c_M_isMinute 1 (Option.some FieldType.boolean)
abbrev c_M_tell : ByteArray := prog_13_method_6_code
def y_M_tell : MethodName := { cls := "CardRightsModel", name := "tell", desc := "(III)V" }
abbrev cw_M_tell : Cond := .code y_M_tell c_M_tell 4 (Option.none : Option FieldType)
abbrev c_M_right : ByteArray := prog_13_method_12_code
def y_M_right : MethodName := { cls := "CardRightsModel", name := "right", desc := "(IIIII)I" }
abbrev cw_M_right : Cond := .code y_M_right c_M_right 7 (Option.some FieldType.int)
abbrev c_M_end : ByteArray := prog_13_method_13_code
def y_M_end : MethodName := { cls := "CardRightsModel", name := "end", desc := "(II)I" }
abbrev cw_M_end : Cond := .code y_M_end c_M_end 4 (Option.some FieldType.int)
abbrev c_M_told : ByteArray := prog_13_method_7_code
def y_M_told : MethodName := { cls := "CardRightsModel", name := "told", desc := "(III)I" }
abbrev cw_M_told : Cond := .code y_M_told c_M_told 5 (Option.some FieldType.int)
abbrev c_M_lost : ByteArray := prog_13_method_14_code
def y_M_lost : MethodName := { cls := "CardRightsModel", name := "lost", desc := "(II)I" }
abbrev cw_M_lost : Cond := .code y_M_lost c_M_lost 4 (Option.some FieldType.int)
abbrev c_M_two : ByteArray := prog_13_method_15_code
def y_M_two : MethodName := { cls := "CardRightsModel", name := "two", desc := "(IZ)Z" }
abbrev cw_M_two : Cond := .code y_M_two c_M_two 4 (Option.some FieldType.boolean)
abbrev c_M_airlock : ByteArray := prog_13_method_16_code
def y_M_airlock : MethodName := { cls := "CardRightsModel", name := "airlock", desc := "(IIZ)Z" }
abbrev cw_M_airlock : Cond := .code y_M_airlock c_M_airlock 5 (Option.some FieldType.boolean)
abbrev c_M_state : ByteArray := prog_13_method_18_code
def y_M_state : MethodName := { cls := "CardRightsModel", name := "state", desc := "(IZI)I" }
abbrev cw_M_state : Cond := .code y_M_state c_M_state 5 (Option.some FieldType.int)
abbrev c_M_isLater : ByteArray := prog_13_method_17_code
def y_M_isLater : MethodName := { cls := "CardRightsModel", name := "isLater", desc := "(I)Z" }
abbrev cw_M_isLater : Cond := .code y_M_isLater c_M_isLater 2 (Option.some FieldType.boolean)
abbrev c_M_asks : ByteArray := prog_13_method_24_code
def y_M_asks : MethodName := { cls := "CardRightsModel", name := "asks", desc := "(IIII)I" }
abbrev cw_M_asks : Cond := .code y_M_asks c_M_asks 7 (Option.some FieldType.int)
abbrev c_M_isOf : ByteArray := prog_13_method_23_code
def y_M_isOf : MethodName := { cls := "CardRightsModel", name := "isOf", desc := "(II)Z" }
abbrev cw_M_isOf : Cond := .code y_M_isOf c_M_isOf 3 (Option.some FieldType.boolean)
abbrev c_M_refused : ByteArray := prog_13_method_21_code
def y_M_refused : MethodName := { cls := "CardRightsModel", name := "refused", desc := "(IIII)I" }
abbrev cw_M_refused : Cond := .code y_M_refused c_M_refused 8 (Option.some FieldType.int)
abbrev c_M_why : ByteArray := prog_13_method_20_code
def y_M_why : MethodName := { cls := "CardRightsModel", name := "why", desc := "(IIIII)I" }
abbrev cw_M_why : Cond := .code y_M_why c_M_why 11 (Option.some FieldType.int)
abbrev c_M_spans : ByteArray := prog_13_method_19_code
def y_M_spans : MethodName := { cls := "CardRightsModel", name := "spans", desc := "(IIII)Z" }
abbrev cw_M_spans : Cond := .code y_M_spans c_M_spans 8 (Option.some FieldType.boolean)
abbrev c_M_let : ByteArray := prog_13_method_22_code
def y_M_let : MethodName := { cls := "CardRightsModel", name := "let", desc := "(IIII)V" }
abbrev cw_M_let : Cond := .code y_M_let c_M_let 8 (Option.none : Option FieldType)
abbrev c_M_both : ByteArray := prog_13_method_25_code
def y_M_both : MethodName := { cls := "CardRightsModel", name := "both", desc := "(IIIII)I" }
abbrev cw_M_both : Cond := .code y_M_both c_M_both 8 (Option.some FieldType.int)
abbrev c_M_off : ByteArray := prog_13_method_26_code
def y_M_off : MethodName := { cls := "CardRightsModel", name := "off", desc := "(IZ)I" }
abbrev cw_M_off : Cond := .code y_M_off c_M_off 6 (Option.some FieldType.int)
abbrev c_M_where : ByteArray := prog_13_method_27_code
def y_M_where : MethodName := { cls := "CardRightsModel", name := "where", desc := "(I)I" }
abbrev cw_M_where : Cond := .code y_M_where c_M_where 2 (Option.some FieldType.int)
abbrev c_M_inside : ByteArray := prog_13_method_28_code
def y_M_inside : MethodName := { cls := "CardRightsModel", name := "inside", desc := "(I)I" }
abbrev cw_M_inside : Cond := .code y_M_inside c_M_inside 4 (Option.some FieldType.int)
abbrev c_M_muster : ByteArray := prog_13_method_29_code
def y_M_muster : MethodName := { cls := "CardRightsModel", name := "muster", desc := "(II)I" }
abbrev cw_M_muster : Cond := .code y_M_muster c_M_muster 5 (Option.some FieldType.int)
abbrev c_M_against : ByteArray := prog_13_method_30_code
def y_M_against : MethodName := { cls := "CardRightsModel", name := "against", desc := "()I" }
abbrev cw_M_against : Cond := .code y_M_against c_M_against 1 (Option.some FieldType.int)
abbrev c_M_found : ByteArray := prog_13_method_31_code
def y_M_found : MethodName := { cls := "CardRightsModel", name := "found", desc := "(II)I" }
abbrev cw_M_found : Cond := .code y_M_found c_M_found 3 (Option.some FieldType.int)
abbrev c_M_uses : ByteArray := prog_13_method_32_code
def y_M_uses : MethodName := { cls := "CardRightsModel", name := "uses", desc := "()I" }
abbrev cw_M_uses : Cond := .code y_M_uses c_M_uses 1 (Option.some FieldType.int)
abbrev c_M_fewest : ByteArray := prog_13_method_35_code
def y_M_fewest : MethodName := { cls := "CardRightsModel", name := "fewest", desc := "()I" }
abbrev cw_M_fewest : Cond := .code y_M_fewest c_M_fewest 6 (Option.some FieldType.int)
abbrev c_M_count : ByteArray := prog_13_method_33_code
def y_M_count : MethodName := { cls := "CardRightsModel", name := "count", desc := "(I)I" }
abbrev cw_M_count : Cond := .code y_M_count c_M_count 3 (Option.some FieldType.int)
abbrev c_M_meets : ByteArray := prog_13_method_34_code
def y_M_meets : MethodName := { cls := "CardRightsModel", name := "meets", desc := "(I[II)Z" }
abbrev cw_M_meets : Cond := .code y_M_meets c_M_meets 6 (Option.some FieldType.boolean)
abbrev c_M_now : ByteArray := prog_13_method_36_code
def y_M_now : MethodName := { cls := "CardRightsModel", name := "now", desc := "()I" }
abbrev cw_M_now : Cond := .code y_M_now c_M_now 1 (Option.some FieldType.int)
abbrev c_L_room : ByteArray := method_3_code
def y_L_room : MethodName := { cls := "CardRightsLaw", name := "room", desc := "(LCardRights;I[J)I" }
abbrev cw_L_room : Cond := .codeWith y_L_room c_L_room 4 (Option.some FieldType.int) [((0 : Nat), (9 : Nat), (12 : Nat), (13 : Nat)), ((0 : Nat), (9 : Nat), (15 : Nat), (15 : Nat))]
abbrev c_L_door : ByteArray := method_4_code
def y_L_door : MethodName := { cls := "CardRightsLaw", name := "door", desc := "(LCardRights;II[J)I" }
abbrev cw_L_door : Cond := .codeWith y_L_door c_L_door 5 (Option.some FieldType.int) [((0 : Nat), (10 : Nat), (13 : Nat), (13 : Nat)), ((0 : Nat), (10 : Nat), (17 : Nat), (15 : Nat))]
abbrev c_L_person : ByteArray := method_5_code
def y_L_person : MethodName := { cls := "CardRightsLaw", name := "person", desc := "(LCardRights;I[J)I" }
abbrev cw_L_person : Cond := .codeWith y_L_person c_L_person 4 (Option.some FieldType.int) [((0 : Nat), (9 : Nat), (12 : Nat), (13 : Nat)), ((0 : Nat), (9 : Nat), (15 : Nat), (15 : Nat))]
abbrev c_L_card : ByteArray := method_6_code
def y_L_card : MethodName := { cls := "CardRightsLaw", name := "card", desc := "(LCardRights;II[J)I" }
abbrev cw_L_card : Cond := .codeWith y_L_card c_L_card 5 (Option.some FieldType.int) [((0 : Nat), (10 : Nat), (13 : Nat), (13 : Nat)), ((0 : Nat), (10 : Nat), (17 : Nat), (15 : Nat))]
abbrev c_L_right : ByteArray := method_7_code
def y_L_right : MethodName := { cls := "CardRightsLaw", name := "right", desc := "(LCardRights;IIIII[J)I" }
abbrev cw_L_right : Cond := .codeWith y_L_right c_L_right 8 (Option.some FieldType.int) [((0 : Nat), (16 : Nat), (19 : Nat), (13 : Nat)), ((0 : Nat), (16 : Nat), (23 : Nat), (15 : Nat))]
abbrev c_L_end : ByteArray := method_8_code
def y_L_end : MethodName := { cls := "CardRightsLaw", name := "end", desc := "(LCardRights;II[J)I" }
abbrev cw_L_end : Cond := .codeWith y_L_end c_L_end 5 (Option.some FieldType.int) [((0 : Nat), (10 : Nat), (13 : Nat), (13 : Nat))]
abbrev c_L_lost : ByteArray := method_9_code
def y_L_lost : MethodName := { cls := "CardRightsLaw", name := "lost", desc := "(LCardRights;II[J)I" }
abbrev cw_L_lost : Cond := .codeWith y_L_lost c_L_lost 5 (Option.some FieldType.int) [((0 : Nat), (10 : Nat), (13 : Nat), (13 : Nat))]
abbrev c_L_two : ByteArray := method_10_code
def y_L_two : MethodName := { cls := "CardRightsLaw", name := "two", desc := "(LCardRights;IZ[J)I" }
abbrev cw_L_two : Cond := .codeWith y_L_two c_L_two 5 (Option.some FieldType.int) [((0 : Nat), (17 : Nat), (20 : Nat), (13 : Nat))]
abbrev c_L_airlock : ByteArray := method_11_code
def y_L_airlock : MethodName := { cls := "CardRightsLaw", name := "airlock", desc := "(LCardRights;IIZ[J)I" }
abbrev cw_L_airlock : Cond := .codeWith y_L_airlock c_L_airlock 6 (Option.some FieldType.int) [((0 : Nat), (19 : Nat), (22 : Nat), (13 : Nat))]
abbrev c_L_state : ByteArray := method_12_code
def y_L_state : MethodName := { cls := "CardRightsLaw", name := "state", desc := "(LCardRights;IZI[J)I" }
abbrev cw_L_state : Cond := .codeWith y_L_state c_L_state 6 (Option.some FieldType.int) [((0 : Nat), (12 : Nat), (15 : Nat), (13 : Nat))]
abbrev c_L_off : ByteArray := method_13_code
def y_L_off : MethodName := { cls := "CardRightsLaw", name := "off", desc := "(LCardRights;IZ[J)I" }
abbrev cw_L_off : Cond := .codeWith y_L_off c_L_off 5 (Option.some FieldType.int) [((0 : Nat), (10 : Nat), (13 : Nat), (13 : Nat))]
abbrev c_L_asks : ByteArray := method_14_code
def y_L_asks : MethodName := { cls := "CardRightsLaw", name := "asks", desc := "(LCardRights;IIII[J)I" }
abbrev cw_L_asks : Cond := .codeWith y_L_asks c_L_asks 7 (Option.some FieldType.int) [((0 : Nat), (14 : Nat), (17 : Nat), (13 : Nat)), ((0 : Nat), (14 : Nat), (21 : Nat), (15 : Nat))]
abbrev c_L_both : ByteArray := method_15_code
def y_L_both : MethodName := { cls := "CardRightsLaw", name := "both", desc := "(LCardRights;IIIII[J)I" }
abbrev cw_L_both : Cond := .codeWith y_L_both c_L_both 8 (Option.some FieldType.int) [((0 : Nat), (16 : Nat), (19 : Nat), (13 : Nat)), ((0 : Nat), (16 : Nat), (23 : Nat), (15 : Nat))]
abbrev c_L_where : ByteArray := method_16_code
def y_L_where : MethodName := { cls := "CardRightsLaw", name := "where", desc := "(LCardRights;I[J)I" }
abbrev cw_L_where : Cond := .codeWith y_L_where c_L_where 4 (Option.some FieldType.int) [((0 : Nat), (9 : Nat), (12 : Nat), (13 : Nat))]
abbrev c_L_inside : ByteArray := method_17_code
def y_L_inside : MethodName := { cls := "CardRightsLaw", name := "inside", desc := "(LCardRights;I[J)I" }
abbrev cw_L_inside : Cond := .codeWith y_L_inside c_L_inside 4 (Option.some FieldType.int) [((0 : Nat), (9 : Nat), (12 : Nat), (13 : Nat))]
abbrev c_L_muster : ByteArray := method_18_code
def y_L_muster : MethodName := { cls := "CardRightsLaw", name := "muster", desc := "(LCardRights;II[J)I" }
abbrev cw_L_muster : Cond := .codeWith y_L_muster c_L_muster 5 (Option.some FieldType.int) [((0 : Nat), (10 : Nat), (13 : Nat), (13 : Nat))]
abbrev c_L_found : ByteArray := method_19_code
def y_L_found : MethodName := { cls := "CardRightsLaw", name := "found", desc := "(LCardRights;II[J)I" }
abbrev cw_L_found : Cond := .codeWith y_L_found c_L_found 5 (Option.some FieldType.int) [((0 : Nat), (10 : Nat), (13 : Nat), (13 : Nat))]
