-- ===== PART A: goes FIRST, ahead of the names: the tables' words, and 'selects' of the private methods out of them =====
/-- a private method of a class that the tables say can be made, by its rows of tables_1 -/
def lw_okq (q : MethodName × Nat) : Prop := (q.1.cls ≠ "java/lang/invoke/MethodHandle" ∧ q.1.cls ≠ "java/lang/invoke/VarHandle") ∧ Cond.instantiable q.1.cls q.2 ∈ tables_1 ∧ Cond.privateMethod q.1 ∈ tables_1 ∧ Cond.instanceMethod q.1 ∈ tables_1
theorem lw_p0 : lw_okq (⟨"GlassRacks$Settings", "put", "(II)V"⟩, 5) := ⟨⟨by decide +kernel, by decide +kernel⟩, List.mem_of_getElem? (i := 27) (by decide +kernel), List.mem_of_getElem? (i := 312) (by decide +kernel), List.mem_of_getElem? (i := 313) (by decide +kernel)⟩
theorem lw_p1 : lw_okq (⟨"GlassRacks", "recorded", "(I)I"⟩, 6) := ⟨⟨by decide +kernel, by decide +kernel⟩, List.mem_of_getElem? (i := 13) (by decide +kernel), List.mem_of_getElem? (i := 316) (by decide +kernel), List.mem_of_getElem? (i := 317) (by decide +kernel)⟩
theorem lw_p2 : lw_okq (⟨"GlassRacks$History", "dropOldest", "()V"⟩, 2) := ⟨⟨by decide +kernel, by decide +kernel⟩, List.mem_of_getElem? (i := 181) (by decide +kernel), List.mem_of_getElem? (i := 324) (by decide +kernel), List.mem_of_getElem? (i := 325) (by decide +kernel)⟩
theorem lw_p3 : lw_okq (⟨"GlassRacks$History", "stateAt", "(I)LGlassRacks$State;"⟩, 2) := ⟨⟨by decide +kernel, by decide +kernel⟩, List.mem_of_getElem? (i := 181) (by decide +kernel), List.mem_of_getElem? (i := 328) (by decide +kernel), List.mem_of_getElem? (i := 329) (by decide +kernel)⟩
theorem lw_p4 : lw_okq (⟨"GlassRacks$State", "takeOut", "(I)Z"⟩, 11) := ⟨⟨by decide +kernel, by decide +kernel⟩, List.mem_of_getElem? (i := 21) (by decide +kernel), List.mem_of_getElem? (i := 346) (by decide +kernel), List.mem_of_getElem? (i := 347) (by decide +kernel)⟩
theorem lw_p5 : lw_okq (⟨"GlassRacks$State", "breakSheet", "(I)V"⟩, 11) := ⟨⟨by decide +kernel, by decide +kernel⟩, List.mem_of_getElem? (i := 21) (by decide +kernel), List.mem_of_getElem? (i := 358) (by decide +kernel), List.mem_of_getElem? (i := 359) (by decide +kernel)⟩
theorem lw_p6 : lw_okq (⟨"GlassRacks$Cutting", "splitSheet", "(IILGlassRacks$Sheet;LGlassRacks$Settings;)V"⟩, 10) := ⟨⟨by decide +kernel, by decide +kernel⟩, List.mem_of_getElem? (i := 87) (by decide +kernel), List.mem_of_getElem? (i := 387) (by decide +kernel), List.mem_of_getElem? (i := 388) (by decide +kernel)⟩
theorem lw_p7 : lw_okq (⟨"GlassRacks$Cutting", "sumUp", "(II)V"⟩, 10) := ⟨⟨by decide +kernel, by decide +kernel⟩, List.mem_of_getElem? (i := 87) (by decide +kernel), List.mem_of_getElem? (i := 396) (by decide +kernel), List.mem_of_getElem? (i := 397) (by decide +kernel)⟩
theorem lw_p8 : lw_okq (⟨"GlassRacks$State", "cutOpenOrder", "(LGlassRacks$Order;LGlassRacks$Sheet;)I"⟩, 11) := ⟨⟨by decide +kernel, by decide +kernel⟩, List.mem_of_getElem? (i := 21) (by decide +kernel), List.mem_of_getElem? (i := 403) (by decide +kernel), List.mem_of_getElem? (i := 404) (by decide +kernel)⟩
theorem lw_p9 : lw_okq (⟨"GlassRacks$State", "keepOrScrap", "(IILGlassRacks$Sheet;I)I"⟩, 11) := ⟨⟨by decide +kernel, by decide +kernel⟩, List.mem_of_getElem? (i := 21) (by decide +kernel), List.mem_of_getElem? (i := 459) (by decide +kernel), List.mem_of_getElem? (i := 460) (by decide +kernel)⟩
theorem lw_p10 : lw_okq (⟨"GlassRacks$State", "measureOf", "(LGlassRacks$Sheet;II)I"⟩, 11) := ⟨⟨by decide +kernel, by decide +kernel⟩, List.mem_of_getElem? (i := 21) (by decide +kernel), List.mem_of_getElem? (i := 532) (by decide +kernel), List.mem_of_getElem? (i := 533) (by decide +kernel)⟩
theorem lw_p11 : lw_okq (⟨"GlassRacks$CommandText", "expect", "(I)V"⟩, 12) := ⟨⟨by decide +kernel, by decide +kernel⟩, List.mem_of_getElem? (i := 198) (by decide +kernel), List.mem_of_getElem? (i := 552) (by decide +kernel), List.mem_of_getElem? (i := 553) (by decide +kernel)⟩
theorem lw_p12 : lw_okq (⟨"GlassRacks$CommandText", "here", "()I"⟩, 12) := ⟨⟨by decide +kernel, by decide +kernel⟩, List.mem_of_getElem? (i := 198) (by decide +kernel), List.mem_of_getElem? (i := 556) (by decide +kernel), List.mem_of_getElem? (i := 557) (by decide +kernel)⟩
theorem lw_p13 : lw_okq (⟨"GlassRacks$CommandText", "readPurchase", "()V"⟩, 12) := ⟨⟨by decide +kernel, by decide +kernel⟩, List.mem_of_getElem? (i := 198) (by decide +kernel), List.mem_of_getElem? (i := 560) (by decide +kernel), List.mem_of_getElem? (i := 561) (by decide +kernel)⟩
theorem lw_p14 : lw_okq (⟨"GlassRacks$CommandText", "numberBehind", "(III)I"⟩, 12) := ⟨⟨by decide +kernel, by decide +kernel⟩, List.mem_of_getElem? (i := 198) (by decide +kernel), List.mem_of_getElem? (i := 564) (by decide +kernel), List.mem_of_getElem? (i := 565) (by decide +kernel)⟩
theorem lw_p15 : lw_okq (⟨"GlassRacks$CommandText", "digitHere", "()I"⟩, 12) := ⟨⟨by decide +kernel, by decide +kernel⟩, List.mem_of_getElem? (i := 198) (by decide +kernel), List.mem_of_getElem? (i := 568) (by decide +kernel), List.mem_of_getElem? (i := 569) (by decide +kernel)⟩
def lw_privs_1 : List (MethodName × Nat) := [(⟨"GlassRacks$Settings", "put", "(II)V"⟩, 5), (⟨"GlassRacks", "recorded", "(I)I"⟩, 6), (⟨"GlassRacks$History", "dropOldest", "()V"⟩, 2), (⟨"GlassRacks$History", "stateAt", "(I)LGlassRacks$State;"⟩, 2), (⟨"GlassRacks$State", "takeOut", "(I)Z"⟩, 11), (⟨"GlassRacks$State", "breakSheet", "(I)V"⟩, 11), (⟨"GlassRacks$Cutting", "splitSheet", "(IILGlassRacks$Sheet;LGlassRacks$Settings;)V"⟩, 10), (⟨"GlassRacks$Cutting", "sumUp", "(II)V"⟩, 10), (⟨"GlassRacks$State", "cutOpenOrder", "(LGlassRacks$Order;LGlassRacks$Sheet;)I"⟩, 11), (⟨"GlassRacks$State", "keepOrScrap", "(IILGlassRacks$Sheet;I)I"⟩, 11), (⟨"GlassRacks$State", "measureOf", "(LGlassRacks$Sheet;II)I"⟩, 11), (⟨"GlassRacks$CommandText", "expect", "(I)V"⟩, 12), (⟨"GlassRacks$CommandText", "here", "()I"⟩, 12), (⟨"GlassRacks$CommandText", "readPurchase", "()V"⟩, 12), (⟨"GlassRacks$CommandText", "numberBehind", "(III)I"⟩, 12), (⟨"GlassRacks$CommandText", "digitHere", "()I"⟩, 12)]
theorem lw_r1 : ∀ q ∈ lw_privs_1, lw_okq q := List.forall_mem_cons.mpr ⟨lw_p0, List.forall_mem_cons.mpr ⟨lw_p1, List.forall_mem_cons.mpr ⟨lw_p2, List.forall_mem_cons.mpr ⟨lw_p3, List.forall_mem_cons.mpr ⟨lw_p4, List.forall_mem_cons.mpr ⟨lw_p5, List.forall_mem_cons.mpr ⟨lw_p6, List.forall_mem_cons.mpr ⟨lw_p7, List.forall_mem_cons.mpr ⟨lw_p8, List.forall_mem_cons.mpr ⟨lw_p9, List.forall_mem_cons.mpr ⟨lw_p10, List.forall_mem_cons.mpr ⟨lw_p11, List.forall_mem_cons.mpr ⟨lw_p12, List.forall_mem_cons.mpr ⟨lw_p13, List.forall_mem_cons.mpr ⟨lw_p14, List.forall_mem_cons.mpr ⟨lw_p15, fun _ h => absurd h List.not_mem_nil⟩⟩⟩⟩⟩⟩⟩⟩⟩⟩⟩⟩⟩⟩⟩⟩
theorem lw_p16 : lw_okq (⟨"GlassRacks$CommandText", "readOrder", "()V"⟩, 12) := ⟨⟨by decide +kernel, by decide +kernel⟩, List.mem_of_getElem? (i := 198) (by decide +kernel), List.mem_of_getElem? (i := 572) (by decide +kernel), List.mem_of_getElem? (i := 573) (by decide +kernel)⟩
theorem lw_p17 : lw_okq (⟨"GlassRacks", "runCommand", "()I"⟩, 6) := ⟨⟨by decide +kernel, by decide +kernel⟩, List.mem_of_getElem? (i := 13) (by decide +kernel), List.mem_of_getElem? (i := 578) (by decide +kernel), List.mem_of_getElem? (i := 579) (by decide +kernel)⟩
def lw_privs_2 : List (MethodName × Nat) := [(⟨"GlassRacks$CommandText", "readOrder", "()V"⟩, 12), (⟨"GlassRacks", "runCommand", "()I"⟩, 6)]
theorem lw_r2 : ∀ q ∈ lw_privs_2, lw_okq q := List.forall_mem_cons.mpr ⟨lw_p16, List.forall_mem_cons.mpr ⟨lw_p17, fun _ h => absurd h List.not_mem_nil⟩⟩
def lw_privs : List (MethodName × Nat) := lw_privs_1 ++ (lw_privs_2)
def lw_tbl : List Cond := k2_sels lw_privs ++ tables_1
theorem lw_privs_ok : ∀ q ∈ lw_privs, lw_okq q := by
  show ∀ q ∈ lw_privs_1 ++ (lw_privs_2), lw_okq q
  exact List.forall_mem_append.mpr ⟨lw_r1, lw_r2⟩
/-! ===== BEGIN words of one list among another's, by their places ===== -/
/-! ===== END ===== -/

/-! ===== BEGIN printed: names, fields, word lists, decode rows ===== -/
def RX0 : String := "GlassRacks$CommandText"
def TX0 : u_T := fun k => match k with
  | 0 => ("GlassRacks$CommandText", "characters", "[C", true)
  | 1 => ("GlassRacks$CommandText", "length", "I", false)
  | 2 => ("GlassRacks$CommandText", "position", "I", false)
  | 3 => ("GlassRacks$CommandText", "faulty", "Z", false)
  | 4 => ("GlassRacks$CommandText", "command", "I", false)
  | 5 => ("GlassRacks$CommandText", "rack", "I", false)
  | 6 => ("GlassRacks$CommandText", "sort", "I", false)
  | 7 => ("GlassRacks$CommandText", "width", "I", false)
  | 8 => ("GlassRacks$CommandText", "height", "I", false)
  | 9 => ("GlassRacks$CommandText", "day", "I", false)
  | 10 => ("GlassRacks$CommandText", "choice", "I", false)
  | _ => ("GlassRacks$CommandText", "days", "I", false)
def tyX0 : Nat → FieldType := fun k => match k with
  | 0 => .array .char
  | 1 => .int
  | 2 => .int
  | 3 => .boolean
  | 4 => .int
  | 5 => .int
  | 6 => .int
  | 7 => .int
  | 8 => .int
  | 9 => .int
  | 10 => .int
  | _ => .int
abbrev wsX00 : List Cond := u_ws RX0 TX0 12
theorem nmX0 : ∀ a, a < 12 → ∀ b, b < 12 → a ≠ b → (TX0 a).2.1 ≠ (TX0 b).2.1 := by decide +kernel
theorem tyX0_ok : ∀ k, k < 12 → parseFieldDescriptor (TX0 k).2.2.1 = some (tyX0 k) := by decide +kernel
abbrev cX0_init : ByteArray := prog_2_method_1_code
def yX0_init : MethodName := ⟨RX0, "<init>", "()V"⟩
abbrev cX0_commandsOrFault : ByteArray := prog_2_method_4_code
def yX0_commandsOrFault : MethodName := ⟨RX0, "commandsOrFault", "()I"⟩
abbrev cX0_rewind : ByteArray := prog_2_method_5_code
def yX0_rewind : MethodName := ⟨RX0, "rewind", "()V"⟩
abbrev cX0_readCommand : ByteArray := prog_2_method_6_code
def yX0_readCommand : MethodName := ⟨RX0, "readCommand", "()V"⟩
abbrev cX0_readPurchase : ByteArray := prog_2_method_7_code
def yX0_readPurchase : MethodName := ⟨RX0, "readPurchase", "()V"⟩
abbrev cX0_readOrder : ByteArray := prog_2_method_8_code
def yX0_readOrder : MethodName := ⟨RX0, "readOrder", "()V"⟩
abbrev cX0_numberBehind : ByteArray := prog_2_method_9_code
def yX0_numberBehind : MethodName := ⟨RX0, "numberBehind", "(III)I"⟩
abbrev cX0_expect : ByteArray := prog_2_method_10_code
def yX0_expect : MethodName := ⟨RX0, "expect", "(I)V"⟩
abbrev cX0_digitHere : ByteArray := prog_2_method_11_code
def yX0_digitHere : MethodName := ⟨RX0, "digitHere", "()I"⟩
abbrev cX0_here : ByteArray := prog_2_method_12_code
def yX0_here : MethodName := ⟨RX0, "here", "()I"⟩
def RX1 : String := "GlassRacks$Cutting"
def TX1 : u_T := fun k => match k with
  | 0 => ("GlassRacks$Cutting", "turned", "Z", false)
  | 1 => ("GlassRacks$Cutting", "besideWidth", "I", false)
  | 2 => ("GlassRacks$Cutting", "besideHeight", "I", false)
  | 3 => ("GlassRacks$Cutting", "besideArea", "I", false)
  | 4 => ("GlassRacks$Cutting", "aboveWidth", "I", false)
  | 5 => ("GlassRacks$Cutting", "aboveHeight", "I", false)
  | 6 => ("GlassRacks$Cutting", "aboveArea", "I", false)
  | 7 => ("GlassRacks$Cutting", "keptArea", "I", false)
  | 8 => ("GlassRacks$Cutting", "scrapArea", "I", false)
  | _ => ("GlassRacks$Cutting", "lostArea", "I", false)
def tyX1 : Nat → FieldType := fun k => match k with
  | 0 => .boolean
  | 1 => .int
  | 2 => .int
  | 3 => .int
  | 4 => .int
  | 5 => .int
  | 6 => .int
  | 7 => .int
  | 8 => .int
  | _ => .int
abbrev wsX10 : List Cond := u_ws RX1 TX1 10
theorem nmX1 : ∀ a, a < 10 → ∀ b, b < 10 → a ≠ b → (TX1 a).2.1 ≠ (TX1 b).2.1 := by decide +kernel
theorem tyX1_ok : ∀ k, k < 10 → parseFieldDescriptor (TX1 k).2.2.1 = some (tyX1 k) := by decide +kernel
abbrev cX1_init : ByteArray := prog_3_method_1_code
def yX1_init : MethodName := ⟨RX1, "<init>", "()V"⟩
abbrev cX1_layOut : ByteArray := prog_3_method_2_code
def yX1_layOut : MethodName := ⟨RX1, "layOut", "(LGlassRacks$Order;LGlassRacks$Sheet;LGlassRacks$Settings;)Z"⟩
abbrev cX1_splitSheet : ByteArray := prog_3_method_3_code
def yX1_splitSheet : MethodName := ⟨RX1, "splitSheet", "(IILGlassRacks$Sheet;LGlassRacks$Settings;)V"⟩
abbrev cX1_sumUp : ByteArray := prog_3_method_4_code
def yX1_sumUp : MethodName := ⟨RX1, "sumUp", "(II)V"⟩
def RX2 : String := "GlassRacks$History"
def TX2 : u_T := fun k => match k with
  | 0 => ("GlassRacks$History", "states", "[LGlassRacks$State;", true)
  | _ => ("GlassRacks$History", "recorded", "I", false)
def tyX2 : Nat → FieldType := fun k => match k with
  | 0 => .array (.object "GlassRacks$State")
  | _ => .int
abbrev wsX20 : List Cond := u_ws RX2 TX2 2
theorem nmX2 : ∀ a, a < 2 → ∀ b, b < 2 → a ≠ b → (TX2 a).2.1 ≠ (TX2 b).2.1 := by decide +kernel
theorem tyX2_ok : ∀ k, k < 2 → parseFieldDescriptor (TX2 k).2.2.1 = some (tyX2 k) := by decide +kernel
abbrev cX2_init : ByteArray := prog_4_method_1_code
def yX2_init : MethodName := ⟨RX2, "<init>", "()V"⟩
abbrev cX2_record : ByteArray := prog_4_method_2_code
def yX2_record : MethodName := ⟨RX2, "record", "(LGlassRacks$State;)V"⟩
abbrev cX2_takeBack : ByteArray := prog_4_method_3_code
def yX2_takeBack : MethodName := ⟨RX2, "takeBack", "(LGlassRacks$State;)I"⟩
abbrev cX2_stateAt : ByteArray := prog_4_method_4_code
def yX2_stateAt : MethodName := ⟨RX2, "stateAt", "(I)LGlassRacks$State;"⟩
abbrev cX2_dropOldest : ByteArray := prog_4_method_5_code
def yX2_dropOldest : MethodName := ⟨RX2, "dropOldest", "()V"⟩
def RX3 : String := "GlassRacks$Order"
def TX3 : u_T := fun k => match k with
  | 0 => ("GlassRacks$Order", "number", "I", true)
  | 1 => ("GlassRacks$Order", "sort", "I", true)
  | 2 => ("GlassRacks$Order", "width", "I", true)
  | 3 => ("GlassRacks$Order", "height", "I", true)
  | 4 => ("GlassRacks$Order", "day", "I", true)
  | 5 => ("GlassRacks$Order", "status", "I", false)
  | 6 => ("GlassRacks$Order", "source", "I", false)
  | _ => ("GlassRacks$Order", "cutDay", "I", false)
def tyX3 : Nat → FieldType := fun k => match k with
  | 0 => .int
  | 1 => .int
  | 2 => .int
  | 3 => .int
  | 4 => .int
  | 5 => .int
  | 6 => .int
  | _ => .int
abbrev wsX30 : List Cond := u_ws RX3 TX3 8
theorem nmX3 : ∀ a, a < 8 → ∀ b, b < 8 → a ≠ b → (TX3 a).2.1 ≠ (TX3 b).2.1 := by decide +kernel
theorem tyX3_ok : ∀ k, k < 8 → parseFieldDescriptor (TX3 k).2.2.1 = some (tyX3 k) := by decide +kernel
abbrev cX3_init : ByteArray := prog_5_method_1_code
def yX3_init : MethodName := ⟨RX3, "<init>", "(IIIII)V"⟩
abbrev cX3_asCut : ByteArray := prog_5_method_2_code
def yX3_asCut : MethodName := ⟨RX3, "asCut", "(II)LGlassRacks$Order;"⟩
abbrev cX3_asCancelled : ByteArray := prog_5_method_3_code
def yX3_asCancelled : MethodName := ⟨RX3, "asCancelled", "()LGlassRacks$Order;"⟩
abbrev cX3_area : ByteArray := prog_5_method_4_code
def yX3_area : MethodName := ⟨RX3, "area", "()I"⟩
abbrev cX3_isOpen : ByteArray := prog_5_method_5_code
def yX3_isOpen : MethodName := ⟨RX3, "isOpen", "()Z"⟩
abbrev cX3_isLate : ByteArray := prog_5_method_6_code
def yX3_isLate : MethodName := ⟨RX3, "isLate", "(I)Z"⟩
abbrev cX3_goesBefore : ByteArray := prog_5_method_7_code
def yX3_goesBefore : MethodName := ⟨RX3, "goesBefore", "(LGlassRacks$Order;)Z"⟩
def RX4 : String := "GlassRacks$Orders"
def TX4 : u_T := fun k => match k with
  | 0 => ("GlassRacks$Orders", "list", "[LGlassRacks$Order;", true)
  | _ => ("GlassRacks$Orders", "taken", "I", false)
def tyX4 : Nat → FieldType := fun k => match k with
  | 0 => .array (.object "GlassRacks$Order")
  | _ => .int
abbrev wsX40 : List Cond := u_ws RX4 TX4 2
theorem nmX4 : ∀ a, a < 2 → ∀ b, b < 2 → a ≠ b → (TX4 a).2.1 ≠ (TX4 b).2.1 := by decide +kernel
theorem tyX4_ok : ∀ k, k < 2 → parseFieldDescriptor (TX4 k).2.2.1 = some (tyX4 k) := by decide +kernel
abbrev cX4_init : ByteArray := prog_6_method_1_code
def yX4_init : MethodName := ⟨RX4, "<init>", "()V"⟩
abbrev cX4_copyFrom : ByteArray := prog_6_method_2_code
def yX4_copyFrom : MethodName := ⟨RX4, "copyFrom", "(LGlassRacks$Orders;)V"⟩
abbrev cX4_numbered : ByteArray := prog_6_method_3_code
def yX4_numbered : MethodName := ⟨RX4, "numbered", "(I)LGlassRacks$Order;"⟩
abbrev cX4_isFull : ByteArray := prog_6_method_4_code
def yX4_isFull : MethodName := ⟨RX4, "isFull", "()Z"⟩
abbrev cX4_addNew : ByteArray := prog_6_method_5_code
def yX4_addNew : MethodName := ⟨RX4, "addNew", "(IIII)I"⟩
abbrev cX4_replace : ByteArray := prog_6_method_6_code
def yX4_replace : MethodName := ⟨RX4, "replace", "(LGlassRacks$Order;)V"⟩
abbrev cX4_openOnes : ByteArray := prog_6_method_7_code
def yX4_openOnes : MethodName := ⟨RX4, "openOnes", "()I"⟩
abbrev cX4_lateOnes : ByteArray := prog_6_method_8_code
def yX4_lateOnes : MethodName := ⟨RX4, "lateOnes", "(I)I"⟩
abbrev cX4_nextOpen : ByteArray := prog_6_method_9_code
def yX4_nextOpen : MethodName := ⟨RX4, "nextOpen", "(LGlassRacks$Order;)LGlassRacks$Order;"⟩
abbrev cX4_openAtRank : ByteArray := prog_6_method_10_code
def yX4_openAtRank : MethodName := ⟨RX4, "openAtRank", "(I)LGlassRacks$Order;"⟩
def RX5 : String := "GlassRacks$Racks"
def TX5 : u_T := fun k => match k with
  | 0 => ("GlassRacks$Racks", "slots", "[LGlassRacks$Sheet;", true)
  | _ => ("GlassRacks$Racks", "sheetsMade", "I", false)
def tyX5 : Nat → FieldType := fun k => match k with
  | 0 => .array (.object "GlassRacks$Sheet")
  | _ => .int
abbrev wsX50 : List Cond := u_ws RX5 TX5 2
theorem nmX5 : ∀ a, a < 2 → ∀ b, b < 2 → a ≠ b → (TX5 a).2.1 ≠ (TX5 b).2.1 := by decide +kernel
theorem tyX5_ok : ∀ k, k < 2 → parseFieldDescriptor (TX5 k).2.2.1 = some (tyX5 k) := by decide +kernel
abbrev cX5_init : ByteArray := prog_7_method_1_code
def yX5_init : MethodName := ⟨RX5, "<init>", "()V"⟩
abbrev cX5_copyFrom : ByteArray := prog_7_method_2_code
def yX5_copyFrom : MethodName := ⟨RX5, "copyFrom", "(LGlassRacks$Racks;)V"⟩
abbrev cX5_inSlot : ByteArray := prog_7_method_3_code
def yX5_inSlot : MethodName := ⟨RX5, "inSlot", "(I)LGlassRacks$Sheet;"⟩
abbrev cX5_slotOf : ByteArray := prog_7_method_4_code
def yX5_slotOf : MethodName := ⟨RX5, "slotOf", "(I)I"⟩
abbrev cX5_filled : ByteArray := prog_7_method_5_code
def yX5_filled : MethodName := ⟨RX5, "filled", "(I)I"⟩
abbrev cX5_isFull : ByteArray := prog_7_method_6_code
def yX5_isFull : MethodName := ⟨RX5, "isFull", "(I)Z"⟩
abbrev cX5_hasRoom : ByteArray := prog_7_method_7_code
def yX5_hasRoom : MethodName := ⟨RX5, "hasRoom", "(I)Z"⟩
abbrev cX5_sheetsBefore : ByteArray := prog_7_method_8_code
def yX5_sheetsBefore : MethodName := ⟨RX5, "sheetsBefore", "(I)I"⟩
abbrev cX5_atPlace : ByteArray := prog_7_method_9_code
def yX5_atPlace : MethodName := ⟨RX5, "atPlace", "(II)LGlassRacks$Sheet;"⟩
abbrev cX5_addNew : ByteArray := prog_7_method_10_code
def yX5_addNew : MethodName := ⟨RX5, "addNew", "(IIIII)I"⟩
abbrev cX5_putInFront : ByteArray := prog_7_method_11_code
def yX5_putInFront : MethodName := ⟨RX5, "putInFront", "(LGlassRacks$Sheet;I)V"⟩
abbrev cX5_removeFrom : ByteArray := prog_7_method_12_code
def yX5_removeFrom : MethodName := ⟨RX5, "removeFrom", "(I)V"⟩
abbrev cX5_sheetsThere : ByteArray := prog_7_method_13_code
def yX5_sheetsThere : MethodName := ⟨RX5, "sheetsThere", "()I"⟩
abbrev cX5_areaThere : ByteArray := prog_7_method_14_code
def yX5_areaThere : MethodName := ⟨RX5, "areaThere", "()I"⟩
def RX6 : String := "GlassRacks$Settings"
def TX6 : u_T := fun k => match k with
  | 0 => ("GlassRacks$Settings", "cutWidth", "I", false)
  | 1 => ("GlassRacks$Settings", "leastSide", "I", false)
  | 2 => ("GlassRacks$Settings", "manner", "I", false)
  | 3 => ("GlassRacks$Settings", "fragility", "I", false)
  | _ => ("GlassRacks$Settings", "turning", "I", false)
def tyX6 : Nat → FieldType := fun k => match k with
  | 0 => .int
  | 1 => .int
  | 2 => .int
  | 3 => .int
  | _ => .int
abbrev wsX60 : List Cond := u_ws RX6 TX6 5
theorem nmX6 : ∀ a, a < 5 → ∀ b, b < 5 → a ≠ b → (TX6 a).2.1 ≠ (TX6 b).2.1 := by decide +kernel
theorem tyX6_ok : ∀ k, k < 5 → parseFieldDescriptor (TX6 k).2.2.1 = some (tyX6 k) := by decide +kernel
abbrev cX6_init : ByteArray := prog_8_method_1_code
def yX6_init : MethodName := ⟨RX6, "<init>", "()V"⟩
abbrev cX6_copyFrom : ByteArray := prog_8_method_2_code
def yX6_copyFrom : MethodName := ⟨RX6, "copyFrom", "(LGlassRacks$Settings;)V"⟩
abbrev cX6_change : ByteArray := prog_8_method_3_code
def yX6_change : MethodName := ⟨RX6, "change", "(II)I"⟩
abbrev cX6_value : ByteArray := prog_8_method_4_code
def yX6_value : MethodName := ⟨RX6, "value", "(I)I"⟩
abbrev cX6_put : ByteArray := prog_8_method_5_code
def yX6_put : MethodName := ⟨RX6, "put", "(II)V"⟩
abbrev cX6_isAllowed : ByteArray := prog_8_method_6_code
def yX6_isAllowed : MethodName := ⟨RX6, "isAllowed", "(II)Z"⟩
def RX7 : String := "GlassRacks$Sheet"
def TX7 : u_T := fun k => match k with
  | 0 => ("GlassRacks$Sheet", "number", "I", true)
  | 1 => ("GlassRacks$Sheet", "sort", "I", true)
  | 2 => ("GlassRacks$Sheet", "width", "I", true)
  | 3 => ("GlassRacks$Sheet", "height", "I", true)
  | _ => ("GlassRacks$Sheet", "source", "I", true)
def tyX7 : Nat → FieldType := fun k => match k with
  | 0 => .int
  | 1 => .int
  | 2 => .int
  | 3 => .int
  | _ => .int
abbrev wsX70 : List Cond := u_ws RX7 TX7 5
theorem nmX7 : ∀ a, a < 5 → ∀ b, b < 5 → a ≠ b → (TX7 a).2.1 ≠ (TX7 b).2.1 := by decide +kernel
theorem tyX7_ok : ∀ k, k < 5 → parseFieldDescriptor (TX7 k).2.2.1 = some (tyX7 k) := by decide +kernel
abbrev cX7_init : ByteArray := prog_9_method_1_code
def yX7_init : MethodName := ⟨RX7, "<init>", "(IIIII)V"⟩
abbrev cX7_area : ByteArray := prog_9_method_2_code
def yX7_area : MethodName := ⟨RX7, "area", "()I"⟩
def RX8 : String := "GlassRacks$State"
def TX8 : u_T := fun k => match k with
  | 0 => ("GlassRacks$State", "settings", "LGlassRacks$Settings;", true)
  | 1 => ("GlassRacks$State", "racks", "LGlassRacks$Racks;", true)
  | 2 => ("GlassRacks$State", "orders", "LGlassRacks$Orders;", true)
  | 3 => ("GlassRacks$State", "cutting", "LGlassRacks$Cutting;", true)
  | 4 => ("GlassRacks$State", "day", "I", false)
  | 5 => ("GlassRacks$State", "boughtArea", "I", false)
  | 6 => ("GlassRacks$State", "paneArea", "I", false)
  | 7 => ("GlassRacks$State", "scrapArea", "I", false)
  | 8 => ("GlassRacks$State", "brokenArea", "I", false)
  | 9 => ("GlassRacks$State", "lostArea", "I", false)
  | _ => ("GlassRacks$State", "liftings", "I", false)
def tyX8 : Nat → FieldType := fun k => match k with
  | 0 => .object "GlassRacks$Settings"
  | 1 => .object "GlassRacks$Racks"
  | 2 => .object "GlassRacks$Orders"
  | 3 => .object "GlassRacks$Cutting"
  | 4 => .int
  | 5 => .int
  | 6 => .int
  | 7 => .int
  | 8 => .int
  | 9 => .int
  | _ => .int
abbrev wsX80 : List Cond := u_ws RX8 TX8 11
theorem nmX8 : ∀ a, a < 11 → ∀ b, b < 11 → a ≠ b → (TX8 a).2.1 ≠ (TX8 b).2.1 := by decide +kernel
theorem tyX8_ok : ∀ k, k < 11 → parseFieldDescriptor (TX8 k).2.2.1 = some (tyX8 k) := by decide +kernel
abbrev cX8_init : ByteArray := prog_10_method_1_code
def yX8_init : MethodName := ⟨RX8, "<init>", "()V"⟩
abbrev cX8_copyFrom : ByteArray := prog_10_method_2_code
def yX8_copyFrom : MethodName := ⟨RX8, "copyFrom", "(LGlassRacks$State;)V"⟩
abbrev cX8_buySheet : ByteArray := prog_10_method_3_code
def yX8_buySheet : MethodName := ⟨RX8, "buySheet", "(IIII)I"⟩
abbrev cX8_moveSheet : ByteArray := prog_10_method_4_code
def yX8_moveSheet : MethodName := ⟨RX8, "moveSheet", "(II)I"⟩
abbrev cX8_scrapSheet : ByteArray := prog_10_method_5_code
def yX8_scrapSheet : MethodName := ⟨RX8, "scrapSheet", "(I)I"⟩
abbrev cX8_takeOrder : ByteArray := prog_10_method_6_code
def yX8_takeOrder : MethodName := ⟨RX8, "takeOrder", "(IIII)I"⟩
abbrev cX8_cancelOrder : ByteArray := prog_10_method_7_code
def yX8_cancelOrder : MethodName := ⟨RX8, "cancelOrder", "(I)I"⟩
abbrev cX8_cutOrder : ByteArray := prog_10_method_8_code
def yX8_cutOrder : MethodName := ⟨RX8, "cutOrder", "(II)I"⟩
abbrev cX8_planDay : ByteArray := prog_10_method_9_code
def yX8_planDay : MethodName := ⟨RX8, "planDay", "(I)I"⟩
abbrev cX8_passDays : ByteArray := prog_10_method_10_code
def yX8_passDays : MethodName := ⟨RX8, "passDays", "(I)I"⟩
abbrev cX8_chosenSheet : ByteArray := prog_10_method_11_code
def yX8_chosenSheet : MethodName := ⟨RX8, "chosenSheet", "(LGlassRacks$Order;I)LGlassRacks$Sheet;"⟩
abbrev cX8_measureOf : ByteArray := prog_10_method_12_code
def yX8_measureOf : MethodName := ⟨RX8, "measureOf", "(LGlassRacks$Sheet;II)I"⟩
abbrev cX8_cutOpenOrder : ByteArray := prog_10_method_13_code
def yX8_cutOpenOrder : MethodName := ⟨RX8, "cutOpenOrder", "(LGlassRacks$Order;LGlassRacks$Sheet;)I"⟩
abbrev cX8_keepOrScrap : ByteArray := prog_10_method_14_code
def yX8_keepOrScrap : MethodName := ⟨RX8, "keepOrScrap", "(IILGlassRacks$Sheet;I)I"⟩
abbrev cX8_takeOut : ByteArray := prog_10_method_15_code
def yX8_takeOut : MethodName := ⟨RX8, "takeOut", "(I)Z"⟩
abbrev cX8_breakSheet : ByteArray := prog_10_method_16_code
def yX8_breakSheet : MethodName := ⟨RX8, "breakSheet", "(I)V"⟩
def RX9 : String := "GlassRacks"
def TX9 : u_T := fun k => match k with
  | 0 => ("GlassRacks", "now", "LGlassRacks$State;", true)
  | 1 => ("GlassRacks", "before", "LGlassRacks$State;", true)
  | 2 => ("GlassRacks", "snapshot", "LGlassRacks$State;", true)
  | 3 => ("GlassRacks", "snapshotTaken", "Z", false)
  | 4 => ("GlassRacks", "history", "LGlassRacks$History;", true)
  | _ => ("GlassRacks", "text", "LGlassRacks$CommandText;", true)
def tyX9 : Nat → FieldType := fun k => match k with
  | 0 => .object "GlassRacks$State"
  | 1 => .object "GlassRacks$State"
  | 2 => .object "GlassRacks$State"
  | 3 => .boolean
  | 4 => .object "GlassRacks$History"
  | _ => .object "GlassRacks$CommandText"
abbrev wsX90 : List Cond := u_ws RX9 TX9 6
theorem nmX9 : ∀ a, a < 6 → ∀ b, b < 6 → a ≠ b → (TX9 a).2.1 ≠ (TX9 b).2.1 := by decide +kernel
theorem tyX9_ok : ∀ k, k < 6 → parseFieldDescriptor (TX9 k).2.2.1 = some (tyX9 k) := by decide +kernel
abbrev cX9_init : ByteArray := prog_1_method_1_code
def yX9_init : MethodName := ⟨RX9, "<init>", "()V"⟩
abbrev cX9_set : ByteArray := prog_1_method_2_code
def yX9_set : MethodName := ⟨RX9, "set", "(II)I"⟩
abbrev cX9_buy : ByteArray := prog_1_method_3_code
def yX9_buy : MethodName := ⟨RX9, "buy", "(IIII)I"⟩
abbrev cX9_move : ByteArray := prog_1_method_4_code
def yX9_move : MethodName := ⟨RX9, "move", "(II)I"⟩
abbrev cX9_scrap : ByteArray := prog_1_method_5_code
def yX9_scrap : MethodName := ⟨RX9, "scrap", "(I)I"⟩
abbrev cX9_order : ByteArray := prog_1_method_6_code
def yX9_order : MethodName := ⟨RX9, "order", "(IIII)I"⟩
abbrev cX9_cancel : ByteArray := prog_1_method_7_code
def yX9_cancel : MethodName := ⟨RX9, "cancel", "(I)I"⟩
abbrev cX9_cut : ByteArray := prog_1_method_8_code
def yX9_cut : MethodName := ⟨RX9, "cut", "(II)I"⟩
abbrev cX9_plan : ByteArray := prog_1_method_9_code
def yX9_plan : MethodName := ⟨RX9, "plan", "(I)I"⟩
abbrev cX9_pass : ByteArray := prog_1_method_10_code
def yX9_pass : MethodName := ⟨RX9, "pass", "(I)I"⟩
abbrev cX9_perform : ByteArray := prog_1_method_11_code
def yX9_perform : MethodName := ⟨RX9, "perform", "()I"⟩
abbrev cX9_undo : ByteArray := prog_1_method_14_code
def yX9_undo : MethodName := ⟨RX9, "undo", "()I"⟩
abbrev cX9_restore : ByteArray := prog_1_method_16_code
def yX9_restore : MethodName := ⟨RX9, "restore", "()I"⟩
abbrev cX9_sheet : ByteArray := prog_1_method_17_code
def yX9_sheet : MethodName := ⟨RX9, "sheet", "(II)I"⟩
abbrev cX9_at : ByteArray := prog_1_method_18_code
def yX9_at : MethodName := ⟨RX9, "at", "(II)I"⟩
abbrev cX9_ordered : ByteArray := prog_1_method_19_code
def yX9_ordered : MethodName := ⟨RX9, "ordered", "(II)I"⟩
abbrev cX9_would : ByteArray := prog_1_method_20_code
def yX9_would : MethodName := ⟨RX9, "would", "(III)I"⟩
abbrev cX9_choice : ByteArray := prog_1_method_21_code
def yX9_choice : MethodName := ⟨RX9, "choice", "(II)I"⟩
abbrev cX9_next : ByteArray := prog_1_method_22_code
def yX9_next : MethodName := ⟨RX9, "next", "(I)I"⟩
abbrev cX9_wouldPlan : ByteArray := prog_1_method_23_code
def yX9_wouldPlan : MethodName := ⟨RX9, "wouldPlan", "(II)I"⟩
abbrev cX9_count : ByteArray := prog_1_method_24_code
def yX9_count : MethodName := ⟨RX9, "count", "(I)I"⟩
abbrev cX9_recorded : ByteArray := prog_1_method_25_code
def yX9_recorded : MethodName := ⟨RX9, "recorded", "(I)I"⟩
abbrev cX9_runCommand : ByteArray := prog_1_method_26_code
def yX9_runCommand : MethodName := ⟨RX9, "runCommand", "()I"⟩
abbrev cX9_isRack : ByteArray := prog_1_method_27_code
def yX9_isRack : MethodName := ⟨RX9, "isRack", "(I)Z"⟩
abbrev cX9_isSort : ByteArray := prog_1_method_28_code
def yX9_isSort : MethodName := ⟨RX9, "isSort", "(I)Z"⟩
abbrev cX9_isChoice : ByteArray := prog_1_method_29_code
def yX9_isChoice : MethodName := ⟨RX9, "isChoice", "(I)Z"⟩
abbrev cX9_isSide : ByteArray := prog_1_method_30_code
def yX9_isSide : MethodName := ⟨RX9, "isSide", "(I)Z"⟩
def RX10 : String := "GlassRacksModel"
def TX10 : u_T := fun k => match k with
  | _ => ("", "", "", false)
def tyX10 : Nat → FieldType := fun k => match k with
  | _ => .int
abbrev wsX100 : List Cond := u_ws RX10 TX10 0
theorem nmX10 : ∀ a, a < 0 → ∀ b, b < 0 → a ≠ b → (TX10 a).2.1 ≠ (TX10 b).2.1 := by decide +kernel
theorem tyX10_ok : ∀ k, k < 0 → parseFieldDescriptor (TX10 k).2.2.1 = some (tyX10 k) := by decide +kernel
def RJ9 : String := "java/lang/Math"
def TJ9 : u_T := fun k => match k with
  | _ => ("", "", "", false)
def tyJ9 : Nat → FieldType := fun k => match k with
  | _ => .int
abbrev wsJ90 : List Cond := u_ws RJ9 TJ9 0
theorem nmJ9 : ∀ a, a < 0 → ∀ b, b < 0 → a ≠ b → (TJ9 a).2.1 ≠ (TJ9 b).2.1 := by decide +kernel
theorem tyJ9_ok : ∀ k, k < 0 → parseFieldDescriptor (TJ9 k).2.2.1 = some (tyJ9 k) := by decide +kernel
abbrev cJ9_max_7cf53 : ByteArray := prog_13_method_65_code
def yJ9_max_7cf53 : MethodName := ⟨RJ9, "max", "(II)I"⟩
def RL : String := "GlassRacksLaw"
abbrev cL_cell : ByteArray := method_2_code
def yL_cell : MethodName := ⟨RL, "cell", "([II)I"⟩
abbrev cL_low : ByteArray := method_3_code
def yL_low : MethodName := ⟨RL, "low", "(II)I"⟩
abbrev cL_digest : ByteArray := method_4_code
def yL_digest : MethodName := ⟨RL, "digest", "(LGlassRacks;)J"⟩
abbrev cL_racks : ByteArray := method_5_code
def yL_racks : MethodName := ⟨RL, "racks", "(LGlassRacks;)Z"⟩
abbrev cL_orders : ByteArray := method_6_code
def yL_orders : MethodName := ⟨RL, "orders", "(LGlassRacks;)Z"⟩
abbrev cL_choices : ByteArray := method_7_code
def yL_choices : MethodName := ⟨RL, "choices", "(LGlassRacks;I)Z"⟩
abbrev cL_plans : ByteArray := method_8_code
def yL_plans : MethodName := ⟨RL, "plans", "(LGlassRacks;I)Z"⟩
abbrev cL_cuts : ByteArray := method_9_code
def yL_cuts : MethodName := ⟨RL, "cuts", "(LGlassRacks;II)Z"⟩
abbrev cL_moves : ByteArray := method_10_code
def yL_moves : MethodName := ⟨RL, "moves", "(LGlassRacks;II)Z"⟩
abbrev cL_passes : ByteArray := method_11_code
def yL_passes : MethodName := ⟨RL, "passes", "(LGlassRacks;I)Z"⟩
abbrev cL_buys : ByteArray := method_12_code
def yL_buys : MethodName := ⟨RL, "buys", "(LGlassRacks;II)Z"⟩
abbrev cL_does : ByteArray := method_13_code
def yL_does : MethodName := ⟨RL, "does", "(LGlassRacks;III)Z"⟩
abbrev cL_law : ByteArray := code
def yL_law : MethodName := ⟨RL, "law", "([I)Z"⟩
theorem inJ9 : ∀ w ∈ wsJ90, w ∈ lw_tbl := by decide +kernel
abbrev vwCl : List vw_C := [(RX0, TX0, 12), (RX1, TX1, 10), (RX2, TX2, 2), (RX3, TX3, 8), (RX4, TX4, 2), (RX5, TX5, 2), (RX6, TX6, 5), (RX7, TX7, 5), (RX8, TX8, 11), (RX9, TX9, 6)]
