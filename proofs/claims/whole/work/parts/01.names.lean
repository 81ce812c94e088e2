-- ===== PART A: goes FIRST, ahead of the names: the tables' words, and 'selects' of the private methods out of them =====
/-- a private method of a class that the tables say can be made, by its rows of tables_1 -/
def lw_okq (q : MethodName × Nat) : Prop := (q.1.cls ≠ "java/lang/invoke/MethodHandle" ∧ q.1.cls ≠ "java/lang/invoke/VarHandle") ∧ Cond.instantiable q.1.cls q.2 ∈ tables_1 ∧ Cond.privateMethod q.1 ∈ tables_1 ∧ Cond.instanceMethod q.1 ∈ tables_1
theorem lw_p0 : lw_okq (⟨"VoucherOffice", "find", "(I)LVoucherOffice$Plain;"⟩, 7) := ⟨⟨by decide +kernel, by decide +kernel⟩, List.mem_of_getElem? (i := 13) (by decide +kernel), List.mem_of_getElem? (i := 178) (by decide +kernel), List.mem_of_getElem? (i := 179) (by decide +kernel)⟩
theorem lw_p1 : lw_okq (⟨"VoucherOffice", "leftOfAll", "()I"⟩, 7) := ⟨⟨by decide +kernel, by decide +kernel⟩, List.mem_of_getElem? (i := 13) (by decide +kernel), List.mem_of_getElem? (i := 440) (by decide +kernel), List.mem_of_getElem? (i := 441) (by decide +kernel)⟩
theorem lw_p2 : lw_okq (⟨"VoucherOfficeModel", "isThere", "(I)Z"⟩, 13) := ⟨⟨by decide +kernel, by decide +kernel⟩, List.mem_of_getElem? (i := 444) (by decide +kernel), List.mem_of_getElem? (i := 508) (by decide +kernel), List.mem_of_getElem? (i := 509) (by decide +kernel)⟩
theorem lw_p3 : lw_okq (⟨"VoucherOfficeModel", "valueOf", "(II)I"⟩, 13) := ⟨⟨by decide +kernel, by decide +kernel⟩, List.mem_of_getElem? (i := 444) (by decide +kernel), List.mem_of_getElem? (i := 512) (by decide +kernel), List.mem_of_getElem? (i := 513) (by decide +kernel)⟩
theorem lw_p4 : lw_okq (⟨"VoucherOfficeModel", "isDated", "(I)Z"⟩, 13) := ⟨⟨by decide +kernel, by decide +kernel⟩, List.mem_of_getElem? (i := 444) (by decide +kernel), List.mem_of_getElem? (i := 516) (by decide +kernel), List.mem_of_getElem? (i := 517) (by decide +kernel)⟩
theorem lw_p5 : lw_okq (⟨"VoucherOfficeModel", "lastDay", "(I)I"⟩, 13) := ⟨⟨by decide +kernel, by decide +kernel⟩, List.mem_of_getElem? (i := 444) (by decide +kernel), List.mem_of_getElem? (i := 520) (by decide +kernel), List.mem_of_getElem? (i := 521) (by decide +kernel)⟩
theorem lw_p6 : lw_okq (⟨"VoucherOfficeModel", "hasPoints", "(I)Z"⟩, 13) := ⟨⟨by decide +kernel, by decide +kernel⟩, List.mem_of_getElem? (i := 444) (by decide +kernel), List.mem_of_getElem? (i := 524) (by decide +kernel), List.mem_of_getElem? (i := 525) (by decide +kernel)⟩
theorem lw_p7 : lw_okq (⟨"VoucherOfficeModel", "feeOf", "(II)I"⟩, 13) := ⟨⟨by decide +kernel, by decide +kernel⟩, List.mem_of_getElem? (i := 444) (by decide +kernel), List.mem_of_getElem? (i := 532) (by decide +kernel), List.mem_of_getElem? (i := 533) (by decide +kernel)⟩
theorem lw_p8 : lw_okq (⟨"VoucherOfficeModel", "sealOf", "(I)I"⟩, 13) := ⟨⟨by decide +kernel, by decide +kernel⟩, List.mem_of_getElem? (i := 444) (by decide +kernel), List.mem_of_getElem? (i := 544) (by decide +kernel), List.mem_of_getElem? (i := 545) (by decide +kernel)⟩
theorem lw_p9 : lw_okq (⟨"VoucherOfficeModel", "leftOfAll", "()I"⟩, 13) := ⟨⟨by decide +kernel, by decide +kernel⟩, List.mem_of_getElem? (i := 444) (by decide +kernel), List.mem_of_getElem? (i := 576) (by decide +kernel), List.mem_of_getElem? (i := 577) (by decide +kernel)⟩
def lw_privs_1 : List (MethodName × Nat) := [(⟨"VoucherOffice", "find", "(I)LVoucherOffice$Plain;"⟩, 7), (⟨"VoucherOffice", "leftOfAll", "()I"⟩, 7), (⟨"VoucherOfficeModel", "isThere", "(I)Z"⟩, 13), (⟨"VoucherOfficeModel", "valueOf", "(II)I"⟩, 13), (⟨"VoucherOfficeModel", "isDated", "(I)Z"⟩, 13), (⟨"VoucherOfficeModel", "lastDay", "(I)I"⟩, 13), (⟨"VoucherOfficeModel", "hasPoints", "(I)Z"⟩, 13), (⟨"VoucherOfficeModel", "feeOf", "(II)I"⟩, 13), (⟨"VoucherOfficeModel", "sealOf", "(I)I"⟩, 13), (⟨"VoucherOfficeModel", "leftOfAll", "()I"⟩, 13)]
theorem lw_r1 : ∀ q ∈ lw_privs_1, lw_okq q := List.forall_mem_cons.mpr ⟨lw_p0, List.forall_mem_cons.mpr ⟨lw_p1, List.forall_mem_cons.mpr ⟨lw_p2, List.forall_mem_cons.mpr ⟨lw_p3, List.forall_mem_cons.mpr ⟨lw_p4, List.forall_mem_cons.mpr ⟨lw_p5, List.forall_mem_cons.mpr ⟨lw_p6, List.forall_mem_cons.mpr ⟨lw_p7, List.forall_mem_cons.mpr ⟨lw_p8, List.forall_mem_cons.mpr ⟨lw_p9, fun _ h => absurd h List.not_mem_nil⟩⟩⟩⟩⟩⟩⟩⟩⟩⟩
def lw_privs : List (MethodName × Nat) := lw_privs_1
def lw_tbl : List Cond := k2_sels lw_privs ++ tables_1
theorem lw_privs_ok : ∀ q ∈ lw_privs, lw_okq q := lw_r1
def RX0 : String := "VoucherOffice$Club"
def TX0 : u_T := fun k => match k with
  | 0 => ("VoucherOffice$Plain", "kind", "I", true)
  | 1 => ("VoucherOffice$Plain", "from", "I", true)
  | 2 => ("VoucherOffice$Plain", "amount", "I", false)
  | _ => ("VoucherOffice$Plain", "left", "I", false)
def tyX0 : Nat → FieldType := fun k => match k with
  | 0 => .int
  | 1 => .int
  | 2 => .int
  | _ => .int
abbrev wsX00 : List Cond := u_ws RX0 TX0 4
theorem nmX0 : ∀ a, a < 4 → ∀ b, b < 4 → a ≠ b → (TX0 a).2.1 ≠ (TX0 b).2.1 := by decide +kernel
theorem tyX0_ok : ∀ k, k < 4 → parseFieldDescriptor (TX0 k).2.2.1 = some (tyX0 k) := by decide +kernel
abbrev cX0_init : ByteArray := prog_2_method_1_code
def yX0_init : MethodName := ⟨RX0, "<init>", "(III)V"⟩
abbrev cX0_markOf : ByteArray := prog_2_method_2_code
def yX0_markOf : MethodName := ⟨RX0, "markOf", "(I)I"⟩
def RX1 : String := "VoucherOffice$Crest"
def TX1 : u_T := fun k => match k with
  | 0 => ("VoucherOffice$House", "points", "I", false)
  | 1 => ("VoucherOffice$Plain", "kind", "I", true)
  | 2 => ("VoucherOffice$Plain", "from", "I", true)
  | 3 => ("VoucherOffice$Plain", "amount", "I", false)
  | _ => ("VoucherOffice$Plain", "left", "I", false)
def tyX1 : Nat → FieldType := fun k => match k with
  | 0 => .int
  | 1 => .int
  | 2 => .int
  | 3 => .int
  | _ => .int
abbrev wsX10 : List Cond := u_ws RX1 TX1 5
theorem nmX1 : ∀ a, a < 5 → ∀ b, b < 5 → a ≠ b → (TX1 a).2.1 ≠ (TX1 b).2.1 := by decide +kernel
theorem tyX1_ok : ∀ k, k < 5 → parseFieldDescriptor (TX1 k).2.2.1 = some (tyX1 k) := by decide +kernel
abbrev cX1_init : ByteArray := prog_3_method_1_code
def yX1_init : MethodName := ⟨RX1, "<init>", "(III)V"⟩
abbrev cX1_valueOn : ByteArray := prog_3_method_2_code
def yX1_valueOn : MethodName := ⟨RX1, "valueOn", "(I)I"⟩
abbrev cX1_feeOf : ByteArray := prog_3_method_3_code
def yX1_feeOf : MethodName := ⟨RX1, "feeOf", "(I)I"⟩
abbrev cX1_sealNow : ByteArray := prog_3_method_4_code
def yX1_sealNow : MethodName := ⟨RX1, "sealNow", "()I"⟩
def RX2 : String := "VoucherOffice$Gift"
def TX2 : u_T := fun k => match k with
  | 0 => ("VoucherOffice$Plain", "kind", "I", true)
  | 1 => ("VoucherOffice$Plain", "from", "I", true)
  | 2 => ("VoucherOffice$Plain", "amount", "I", false)
  | _ => ("VoucherOffice$Plain", "left", "I", false)
def tyX2 : Nat → FieldType := fun k => match k with
  | 0 => .int
  | 1 => .int
  | 2 => .int
  | _ => .int
abbrev wsX20 : List Cond := u_ws RX2 TX2 4
theorem nmX2 : ∀ a, a < 4 → ∀ b, b < 4 → a ≠ b → (TX2 a).2.1 ≠ (TX2 b).2.1 := by decide +kernel
theorem tyX2_ok : ∀ k, k < 4 → parseFieldDescriptor (TX2 k).2.2.1 = some (tyX2 k) := by decide +kernel
abbrev cX2_init : ByteArray := prog_4_method_1_code
def yX2_init : MethodName := ⟨RX2, "<init>", "(III)V"⟩
def RX3 : String := "VoucherOffice$House"
def TX3 : u_T := fun k => match k with
  | 0 => ("VoucherOffice$Plain", "kind", "I", true)
  | 1 => ("VoucherOffice$Plain", "from", "I", true)
  | 2 => ("VoucherOffice$Plain", "amount", "I", false)
  | 3 => ("VoucherOffice$Plain", "left", "I", false)
  | _ => ("VoucherOffice$House", "points", "I", false)
def tyX3 : Nat → FieldType := fun k => match k with
  | 0 => .int
  | 1 => .int
  | 2 => .int
  | 3 => .int
  | _ => .int
abbrev wsX30 : List Cond := u_ws RX3 TX3 5
theorem nmX3 : ∀ a, a < 5 → ∀ b, b < 5 → a ≠ b → (TX3 a).2.1 ≠ (TX3 b).2.1 := by decide +kernel
theorem tyX3_ok : ∀ k, k < 5 → parseFieldDescriptor (TX3 k).2.2.1 = some (tyX3 k) := by decide +kernel
abbrev cX3_init : ByteArray := prog_5_method_1_code
def yX3_init : MethodName := ⟨RX3, "<init>", "(III)V"⟩
abbrev cX3_valueOn : ByteArray := prog_5_method_2_code
def yX3_valueOn : MethodName := ⟨RX3, "valueOn", "(I)I"⟩
abbrev cX3_spendOn : ByteArray := prog_5_method_3_code
def yX3_spendOn : MethodName := ⟨RX3, "spendOn", "(II)I"⟩
abbrev cX3_pointsNow : ByteArray := prog_5_method_4_code
def yX3_pointsNow : MethodName := ⟨RX3, "pointsNow", "()I"⟩
abbrev cX3_takeIn : ByteArray := prog_5_method_5_code
def yX3_takeIn : MethodName := ⟨RX3, "takeIn", "(LVoucherOffice$Plain;)V"⟩
def RX4 : String := "VoucherOffice$Plain"
def TX4 : u_T := fun k => match k with
  | 0 => ("VoucherOffice$Plain", "kind", "I", true)
  | 1 => ("VoucherOffice$Plain", "from", "I", true)
  | 2 => ("VoucherOffice$Plain", "amount", "I", false)
  | _ => ("VoucherOffice$Plain", "left", "I", false)
def tyX4 : Nat → FieldType := fun k => match k with
  | 0 => .int
  | 1 => .int
  | 2 => .int
  | _ => .int
abbrev wsX40 : List Cond := u_ws RX4 TX4 4
theorem nmX4 : ∀ a, a < 4 → ∀ b, b < 4 → a ≠ b → (TX4 a).2.1 ≠ (TX4 b).2.1 := by decide +kernel
theorem tyX4_ok : ∀ k, k < 4 → parseFieldDescriptor (TX4 k).2.2.1 = some (tyX4 k) := by decide +kernel
abbrev cX4_init : ByteArray := prog_6_method_1_code
def yX4_init : MethodName := ⟨RX4, "<init>", "(III)V"⟩
abbrev cX4_valueOn : ByteArray := prog_6_method_2_code
def yX4_valueOn : MethodName := ⟨RX4, "valueOn", "(I)I"⟩
abbrev cX4_feeOf : ByteArray := prog_6_method_3_code
def yX4_feeOf : MethodName := ⟨RX4, "feeOf", "(I)I"⟩
abbrev cX4_spendOn : ByteArray := prog_6_method_4_code
def yX4_spendOn : MethodName := ⟨RX4, "spendOn", "(II)I"⟩
abbrev cX4_sealNow : ByteArray := prog_6_method_5_code
def yX4_sealNow : MethodName := ⟨RX4, "sealNow", "()I"⟩
abbrev cX4_markOf : ByteArray := prog_6_method_6_code
def yX4_markOf : MethodName := ⟨RX4, "markOf", "(I)I"⟩
abbrev cX4_daysLeftOn : ByteArray := prog_6_method_7_code
def yX4_daysLeftOn : MethodName := ⟨RX4, "daysLeftOn", "(I)I"⟩
abbrev cX4_lastDay : ByteArray := prog_6_method_8_code
def yX4_lastDay : MethodName := ⟨RX4, "lastDay", "()I"⟩
abbrev cX4_lapseOn : ByteArray := prog_6_method_9_code
def yX4_lapseOn : MethodName := ⟨RX4, "lapseOn", "(I)I"⟩
abbrev cX4_pointsNow : ByteArray := prog_6_method_10_code
def yX4_pointsNow : MethodName := ⟨RX4, "pointsNow", "()I"⟩
abbrev cX4_lastSpent : ByteArray := prog_6_method_11_code
def yX4_lastSpent : MethodName := ⟨RX4, "lastSpent", "()I"⟩
abbrev cX4_takeIn : ByteArray := prog_6_method_12_code
def yX4_takeIn : MethodName := ⟨RX4, "takeIn", "(LVoucherOffice$Plain;)V"⟩
def RX5 : String := "VoucherOffice$Round"
def TX5 : u_T := fun k => match k with
  | 0 => ("VoucherOffice$Plain", "kind", "I", true)
  | 1 => ("VoucherOffice$Plain", "from", "I", true)
  | 2 => ("VoucherOffice$Plain", "amount", "I", false)
  | _ => ("VoucherOffice$Plain", "left", "I", false)
def tyX5 : Nat → FieldType := fun k => match k with
  | 0 => .int
  | 1 => .int
  | 2 => .int
  | _ => .int
abbrev wsX50 : List Cond := u_ws RX5 TX5 4
theorem nmX5 : ∀ a, a < 4 → ∀ b, b < 4 → a ≠ b → (TX5 a).2.1 ≠ (TX5 b).2.1 := by decide +kernel
theorem tyX5_ok : ∀ k, k < 4 → parseFieldDescriptor (TX5 k).2.2.1 = some (tyX5 k) := by decide +kernel
abbrev cX5_init : ByteArray := prog_7_method_1_code
def yX5_init : MethodName := ⟨RX5, "<init>", "(III)V"⟩
abbrev cX5_valueOn : ByteArray := prog_7_method_2_code
def yX5_valueOn : MethodName := ⟨RX5, "valueOn", "(I)I"⟩
def RX6 : String := "VoucherOffice$Season"
def TX6 : u_T := fun k => match k with
  | 0 => ("VoucherOffice$Plain", "kind", "I", true)
  | 1 => ("VoucherOffice$Plain", "from", "I", true)
  | 2 => ("VoucherOffice$Plain", "amount", "I", false)
  | _ => ("VoucherOffice$Plain", "left", "I", false)
def tyX6 : Nat → FieldType := fun k => match k with
  | 0 => .int
  | 1 => .int
  | 2 => .int
  | _ => .int
abbrev wsX60 : List Cond := u_ws RX6 TX6 4
theorem nmX6 : ∀ a, a < 4 → ∀ b, b < 4 → a ≠ b → (TX6 a).2.1 ≠ (TX6 b).2.1 := by decide +kernel
theorem tyX6_ok : ∀ k, k < 4 → parseFieldDescriptor (TX6 k).2.2.1 = some (tyX6 k) := by decide +kernel
abbrev cX6_init : ByteArray := prog_8_method_1_code
def yX6_init : MethodName := ⟨RX6, "<init>", "(III)V"⟩
abbrev cX6_lastDay : ByteArray := prog_8_method_2_code
def yX6_lastDay : MethodName := ⟨RX6, "lastDay", "()I"⟩
abbrev cX6_valueOn : ByteArray := prog_8_method_3_code
def yX6_valueOn : MethodName := ⟨RX6, "valueOn", "(I)I"⟩
abbrev cX6_sealNow : ByteArray := prog_8_method_4_code
def yX6_sealNow : MethodName := ⟨RX6, "sealNow", "()I"⟩
abbrev cX6_daysLeftOn : ByteArray := prog_8_method_5_code
def yX6_daysLeftOn : MethodName := ⟨RX6, "daysLeftOn", "(I)I"⟩
abbrev cX6_lapseOn : ByteArray := prog_8_method_6_code
def yX6_lapseOn : MethodName := ⟨RX6, "lapseOn", "(I)I"⟩
def RX7 : String := "VoucherOffice$Staff"
def TX7 : u_T := fun k => match k with
  | 0 => ("VoucherOffice$Plain", "kind", "I", true)
  | 1 => ("VoucherOffice$Plain", "from", "I", true)
  | 2 => ("VoucherOffice$Plain", "amount", "I", false)
  | 3 => ("VoucherOffice$Plain", "left", "I", false)
  | _ => ("VoucherOffice$Staff", "lastSpent", "I", false)
def tyX7 : Nat → FieldType := fun k => match k with
  | 0 => .int
  | 1 => .int
  | 2 => .int
  | 3 => .int
  | _ => .int
abbrev wsX70 : List Cond := u_ws RX7 TX7 5
theorem nmX7 : ∀ a, a < 5 → ∀ b, b < 5 → a ≠ b → (TX7 a).2.1 ≠ (TX7 b).2.1 := by decide +kernel
theorem tyX7_ok : ∀ k, k < 5 → parseFieldDescriptor (TX7 k).2.2.1 = some (tyX7 k) := by decide +kernel
abbrev cX7_init : ByteArray := prog_9_method_1_code
def yX7_init : MethodName := ⟨RX7, "<init>", "(III)V"⟩
abbrev cX7_lastDay : ByteArray := prog_9_method_2_code
def yX7_lastDay : MethodName := ⟨RX7, "lastDay", "()I"⟩
abbrev cX7_valueOn : ByteArray := prog_9_method_3_code
def yX7_valueOn : MethodName := ⟨RX7, "valueOn", "(I)I"⟩
abbrev cX7_feeOf : ByteArray := prog_9_method_4_code
def yX7_feeOf : MethodName := ⟨RX7, "feeOf", "(I)I"⟩
abbrev cX7_spendOn : ByteArray := prog_9_method_5_code
def yX7_spendOn : MethodName := ⟨RX7, "spendOn", "(II)I"⟩
abbrev cX7_lastSpent : ByteArray := prog_9_method_6_code
def yX7_lastSpent : MethodName := ⟨RX7, "lastSpent", "()I"⟩
abbrev cX7_takeIn : ByteArray := prog_9_method_7_code
def yX7_takeIn : MethodName := ⟨RX7, "takeIn", "(LVoucherOffice$Plain;)V"⟩
def RX8 : String := "VoucherOffice"
def TX8 : u_T := fun k => match k with
  | 0 => ("VoucherOffice", "vouchers", "[LVoucherOffice$Plain;", true)
  | 1 => ("VoucherOffice", "issued", "I", false)
  | 2 => ("VoucherOffice", "today", "I", false)
  | 3 => ("VoucherOffice", "issuedAmounts", "I", false)
  | 4 => ("VoucherOffice", "spentTogether", "I", false)
  | 5 => ("VoucherOffice", "feesTogether", "I", false)
  | _ => ("VoucherOffice", "lapsedTogether", "I", false)
def tyX8 : Nat → FieldType := fun k => match k with
  | 0 => .array (.object "VoucherOffice$Plain")
  | 1 => .int
  | 2 => .int
  | 3 => .int
  | 4 => .int
  | 5 => .int
  | _ => .int
abbrev wsX80 : List Cond := u_ws RX8 TX8 7
theorem nmX8 : ∀ a, a < 7 → ∀ b, b < 7 → a ≠ b → (TX8 a).2.1 ≠ (TX8 b).2.1 := by decide +kernel
theorem tyX8_ok : ∀ k, k < 7 → parseFieldDescriptor (TX8 k).2.2.1 = some (tyX8 k) := by decide +kernel
abbrev cX8_init : ByteArray := prog_1_method_1_code
def yX8_init : MethodName := ⟨RX8, "<init>", "()V"⟩
abbrev cX8_issue : ByteArray := prog_1_method_2_code
def yX8_issue : MethodName := ⟨RX8, "issue", "(II)I"⟩
abbrev cX8_pass : ByteArray := prog_1_method_3_code
def yX8_pass : MethodName := ⟨RX8, "pass", "(I)I"⟩
abbrev cX8_value : ByteArray := prog_1_method_4_code
def yX8_value : MethodName := ⟨RX8, "value", "(II)I"⟩
abbrev cX8_fee : ByteArray := prog_1_method_5_code
def yX8_fee : MethodName := ⟨RX8, "fee", "(II)I"⟩
abbrev cX8_spend : ByteArray := prog_1_method_6_code
def yX8_spend : MethodName := ⟨RX8, "spend", "(II)I"⟩
abbrev cX8_seal : ByteArray := prog_1_method_7_code
def yX8_seal : MethodName := ⟨RX8, "seal", "(I)I"⟩
abbrev cX8_mark : ByteArray := prog_1_method_8_code
def yX8_mark : MethodName := ⟨RX8, "mark", "(II)I"⟩
abbrev cX8_daysLeft : ByteArray := prog_1_method_9_code
def yX8_daysLeft : MethodName := ⟨RX8, "daysLeft", "(II)I"⟩
abbrev cX8_lapse : ByteArray := prog_1_method_10_code
def yX8_lapse : MethodName := ⟨RX8, "lapse", "()I"⟩
abbrev cX8_merge : ByteArray := prog_1_method_11_code
def yX8_merge : MethodName := ⟨RX8, "merge", "(II)I"⟩
abbrev cX8_total : ByteArray := prog_1_method_12_code
def yX8_total : MethodName := ⟨RX8, "total", "(I)I"⟩
abbrev cX8_paper : ByteArray := prog_1_method_13_code
def yX8_paper : MethodName := ⟨RX8, "paper", "(II)I"⟩
abbrev cX8_count : ByteArray := prog_1_method_14_code
def yX8_count : MethodName := ⟨RX8, "count", "(I)I"⟩
abbrev cX8_leftOfAll : ByteArray := prog_1_method_15_code
def yX8_leftOfAll : MethodName := ⟨RX8, "leftOfAll", "()I"⟩
abbrev cX8_find : ByteArray := prog_1_method_16_code
def yX8_find : MethodName := ⟨RX8, "find", "(I)LVoucherOffice$Plain;"⟩
abbrev cX8_isOutside : ByteArray := prog_1_method_17_code
def yX8_isOutside : MethodName := ⟨RX8, "isOutside", "(III)Z"⟩
abbrev cX8_newVoucher : ByteArray := prog_1_method_18_code
def yX8_newVoucher : MethodName := ⟨RX8, "newVoucher", "(III)LVoucherOffice$Plain;"⟩
def RX9 : String := "VoucherOfficeModel"
def TX9 : u_T := fun k => match k with
  | 0 => ("VoucherOfficeModel", "day", "I", false)
  | 1 => ("VoucherOfficeModel", "issued", "I", false)
  | 2 => ("VoucherOfficeModel", "amounts", "I", false)
  | 3 => ("VoucherOfficeModel", "spent", "I", false)
  | 4 => ("VoucherOfficeModel", "fees", "I", false)
  | 5 => ("VoucherOfficeModel", "lapsed", "I", false)
  | 6 => ("VoucherOfficeModel", "kindOf", "[I", true)
  | 7 => ("VoucherOfficeModel", "amountOf", "[I", true)
  | 8 => ("VoucherOfficeModel", "leftOf", "[I", true)
  | 9 => ("VoucherOfficeModel", "fromOf", "[I", true)
  | 10 => ("VoucherOfficeModel", "pointsOf", "[I", true)
  | 11 => ("VoucherOfficeModel", "spentOn", "[I", true)
  | _ => ("VoucherOfficeModel", "gone", "[Z", true)
def tyX9 : Nat → FieldType := fun k => match k with
  | 0 => .int
  | 1 => .int
  | 2 => .int
  | 3 => .int
  | 4 => .int
  | 5 => .int
  | 6 => .array .int
  | 7 => .array .int
  | 8 => .array .int
  | 9 => .array .int
  | 10 => .array .int
  | 11 => .array .int
  | _ => .array .boolean
abbrev wsX90 : List Cond := u_ws RX9 TX9 13
theorem nmX9 : ∀ a, a < 13 → ∀ b, b < 13 → a ≠ b → (TX9 a).2.1 ≠ (TX9 b).2.1 := by decide +kernel
theorem tyX9_ok : ∀ k, k < 13 → parseFieldDescriptor (TX9 k).2.2.1 = some (tyX9 k) := by decide +kernel
abbrev cX9_init : ByteArray := prog_11_method_1_code
def yX9_init : MethodName := ⟨RX9, "<init>", "()V"⟩
abbrev cX9_within : ByteArray := prog_11_method_2_code
def yX9_within : MethodName := ⟨RX9, "within", "(III)Z"⟩
abbrev cX9_isThere : ByteArray := prog_11_method_3_code
def yX9_isThere : MethodName := ⟨RX9, "isThere", "(I)Z"⟩
abbrev cX9_isDated : ByteArray := prog_11_method_4_code
def yX9_isDated : MethodName := ⟨RX9, "isDated", "(I)Z"⟩
abbrev cX9_hasPoints : ByteArray := prog_11_method_5_code
def yX9_hasPoints : MethodName := ⟨RX9, "hasPoints", "(I)Z"⟩
abbrev cX9_lastDay : ByteArray := prog_11_method_6_code
def yX9_lastDay : MethodName := ⟨RX9, "lastDay", "(I)I"⟩
abbrev cX9_valueOf : ByteArray := prog_11_method_7_code
def yX9_valueOf : MethodName := ⟨RX9, "valueOf", "(II)I"⟩
abbrev cX9_feeOf : ByteArray := prog_11_method_8_code
def yX9_feeOf : MethodName := ⟨RX9, "feeOf", "(II)I"⟩
abbrev cX9_sealOf : ByteArray := prog_11_method_9_code
def yX9_sealOf : MethodName := ⟨RX9, "sealOf", "(I)I"⟩
abbrev cX9_issue : ByteArray := prog_11_method_10_code
def yX9_issue : MethodName := ⟨RX9, "issue", "(II)I"⟩
abbrev cX9_pass : ByteArray := prog_11_method_11_code
def yX9_pass : MethodName := ⟨RX9, "pass", "(I)I"⟩
abbrev cX9_value : ByteArray := prog_11_method_12_code
def yX9_value : MethodName := ⟨RX9, "value", "(II)I"⟩
abbrev cX9_fee : ByteArray := prog_11_method_13_code
def yX9_fee : MethodName := ⟨RX9, "fee", "(II)I"⟩
abbrev cX9_spend : ByteArray := prog_11_method_14_code
def yX9_spend : MethodName := ⟨RX9, "spend", "(II)I"⟩
abbrev cX9_seal : ByteArray := prog_11_method_15_code
def yX9_seal : MethodName := ⟨RX9, "seal", "(I)I"⟩
abbrev cX9_mark : ByteArray := prog_11_method_16_code
def yX9_mark : MethodName := ⟨RX9, "mark", "(II)I"⟩
abbrev cX9_daysLeft : ByteArray := prog_11_method_17_code
def yX9_daysLeft : MethodName := ⟨RX9, "daysLeft", "(II)I"⟩
abbrev cX9_lapse : ByteArray := prog_11_method_18_code
def yX9_lapse : MethodName := ⟨RX9, "lapse", "()I"⟩
abbrev cX9_merge : ByteArray := prog_11_method_19_code
def yX9_merge : MethodName := ⟨RX9, "merge", "(II)I"⟩
abbrev cX9_total : ByteArray := prog_11_method_20_code
def yX9_total : MethodName := ⟨RX9, "total", "(I)I"⟩
abbrev cX9_paper : ByteArray := prog_11_method_21_code
def yX9_paper : MethodName := ⟨RX9, "paper", "(II)I"⟩
abbrev cX9_leftOfAll : ByteArray := prog_11_method_22_code
def yX9_leftOfAll : MethodName := ⟨RX9, "leftOfAll", "()I"⟩
abbrev cX9_count : ByteArray := prog_11_method_23_code
def yX9_count : MethodName := ⟨RX9, "count", "(I)I"⟩
def RJ9 : String := "java/lang/Math"
abbrev cJ9_max_7cf53 : ByteArray := prog_12_method_65_code
def yJ9_max_7cf53 : MethodName := ⟨RJ9, "max", "(II)I"⟩
def RL : String := "VoucherOfficeLaw"
abbrev cL_law : ByteArray := code
def yL_law : MethodName := ⟨RL, "law", "([I)Z"⟩
abbrev vwCl : List vw_C := [(RX0, TX0, 4), (RX1, TX1, 5), (RX2, TX2, 4), (RX3, TX3, 5), (RX4, TX4, 4), (RX5, TX5, 4), (RX6, TX6, 4), (RX7, TX7, 5), (RX8, TX8, 7), (RX9, TX9, 13)]
