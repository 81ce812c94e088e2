section
-- ===== PART A: goes FIRST, ahead of the names: the tables' words, and 'selects' of the private methods out of them =====
/-- a private method of a class that the tables say can be made, by its rows of tables_1 -/
def lw_okq (q : MethodName × Nat) : Prop := (q.1.cls ≠ "java/lang/invoke/MethodHandle" ∧ q.1.cls ≠ "java/lang/invoke/VarHandle") ∧ Cond.instantiable q.1.cls q.2 ∈ tables_1 ∧ Cond.privateMethod q.1 ∈ tables_1 ∧ Cond.instanceMethod q.1 ∈ tables_1
theorem lw_p0 : lw_okq (⟨"VoucherOffice", "find", "(I)LVoucherOffice$Plain;"⟩, 7) := ⟨⟨by decide +kernel, by decide +kernel⟩, List.mem_of_getElem? (i := 13) (by decide +kernel), List.mem_of_getElem? (i := 178) (by decide +kernel), List.mem_of_getElem? (i := 179) (by decide +kernel)⟩
theorem lw_p1 : lw_okq (⟨"VoucherOffice", "leftOfAll", "()I"⟩, 7) := ⟨⟨by decide +kernel, by decide +kernel⟩, List.mem_of_getElem? (i := 13) (by decide +kernel), List.mem_of_getElem? (i := 440) (by decide +kernel), List.mem_of_getElem? (i := 441) (by decide +kernel)⟩
theorem lw_p2 : lw_okq (⟨"VoucherOfficeModel", "isThere", "(I)Z"⟩, 13) := ⟨⟨by decide +kernel, by decide +kernel⟩, List.mem_of_getElem? (i := 444) (by decide +kernel), List.mem_of_getElem? (i := 508) (by decide +kernel), List.mem_of_getElem? (i := 509) (by decide +kernel)⟩
theorem lw_p3 : lw_okq (⟨"VoucherOfficeModel", "valueOf", "(II)I"⟩, 13) := ⟨⟨by decide +kernel, by decide +kernel⟩, List.mem_of_getElem? (i := 444) (by decide +kernel), List.mem_of_getElem? (i := 512) (by decide +kernel), List.mem_of_getElem? (i := 513) (by decide +kernel)⟩
theorem lw_p4 : lw_okq (⟨"VoucherOfficeModel", "isDated", "(I)Z"⟩, 13) := ⟨⟨by decide +kernel, by decide +kernel⟩, List.mem_of_getElem? (i := 444) (by decide +kernel), List.mem_of_getElem? (i := 516) (by decide +kernel), List.mem_of_getElem? (i := 517) (by decide +kernel)⟩
theorem lw_p5 : lw_okq (⟨"VoucherOfficeModel", "lastDay", "(I)I"⟩, 13) := ⟨⟨by decide +kernel, by decide +kernel⟩, List.mem_of_getElem? (i := 444) (by decide +kernel), List.mem_of_getElem? (i := 520) (by decide +kernel), List.mem_of_getElem? (i := 521) (by decide +kernel)⟩
theorem lw_p6 : lw_okq (⟨"VoucherOfficeModel", "hasPoints", "(I)Z"⟩, 13) := ⟨⟨by decide +kernel, by decide +kernel⟩, List.mem_of_getElem? (i := 444) (by decide +kernel), List.mem_of_getElem? (i := 524) (by decide +kernel), List.mem_of_getElem? (i := 525) (by decide +kernel)⟩
theorem lw_p7 : lw_okq (⟨"VoucherOfficeModel", "feeOf", "(II)I"⟩, 13) := ⟨⟨by decide +kernel, by decide +kernel⟩, List.mem_of_getElem? (i := 444) (by decide +kernel), List.mem_of_getElem? (i := 532) (by decide +kernel), List.mem_of_getElem? (i := 533) (by decide +kernel)⟩
theorem lw_p8 : lw_okq (⟨"VoucherOfficeModel", "sealOf", "(I)I"⟩, 13) := ⟨⟨by decide +kernel, by decide +kernel⟩, List.mem_of_getElem? (i := 444) (by decide +kernel), List.mem_of_getElem? (i := 544) (by decide +kernel), List.mem_of_getElem? (i := 545) (by decide +kernel)⟩
theorem lw_p9 : lw_okq (⟨"VoucherOfficeModel", "leftOfAll", "()I"⟩, 13) := ⟨⟨by decide +kernel, by decide +kernel⟩, List.mem_of_getElem? (i := 444) (by decide +kernel), List.mem_of_getElem? (i := 576) (by decide +kernel), List.mem_of_getElem? (i := 577) (by decide +kernel)⟩
def lw_privs_1 : List (MethodName × Nat) := [(⟨"VoucherOffice", "find", "(I)LVoucherOffice$Plain;"⟩, 7), (⟨"VoucherOffice", "leftOfAll", "()I"⟩, 7), (⟨"VoucherOfficeModel", "isThere", "(I)Z"⟩, 13), (⟨"VoucherOfficeModel", "valueOf", "(II)I"⟩, 13), (⟨"VoucherOfficeModel", "isDated", "(I)Z"⟩, 13), (⟨"VoucherOfficeModel", "lastDay", "(I)I"⟩, 13), (⟨"VoucherOfficeModel", "hasPoints", "(I)Z"⟩, 13), (⟨"VoucherOfficeModel", "feeOf", "(II)I"⟩, 13), (⟨"VoucherOfficeModel", "sealOf", "(I)I"⟩, 13), (⟨"VoucherOfficeModel", "leftOfAll", "()I"⟩, 13)]
theorem lw_r1 : ∀ q ∈ lw_privs_1, lw_okq q := List.forall_mem_cons.mpr ⟨lw_p0, List.forall_mem_cons.mpr ⟨lw_p1, List.forall_mem_cons.mpr ⟨lw_p2, List.forall_mem_cons.mpr ⟨lw_p3, List.forall_mem_cons.mpr ⟨lw_p4, List.forall_mem_cons.mpr ⟨lw_p5, List.forall_mem_cons.mpr ⟨lw_p6, List.forall_mem_cons.mpr ⟨lw_p7, List.forall_mem_cons.mpr ⟨lw_p8, List.forall_mem_cons.mpr ⟨lw_p9, fun _ h => absurd h List.not_mem_nil⟩⟩⟩⟩⟩⟩⟩⟩⟩⟩
def lw_privs : List (MethodName × Nat) := lw_privs_1
def lw_tbl : List Cond := k2_sels lw_privs ++ tables_1
theorem lw_privs_ok : ∀ q ∈ lw_privs, lw_okq q := lw_r1
def RX0 : String := "VoucherOffice$Club"
def TX0 : u_T := fun k => match k with
  | 0 => ("VoucherOffice$Plain", "kind", "I", true)
  | 1 => ("VoucherOffice$Plain", "from", "I", true)
  | 2 => ("VoucherOffice$Plain", "amount", "I", false)
  | _ => ("VoucherOffice$Plain", "left", "I", false)
def tyX0 : Nat → FieldType := fun k => match k with
  | 0 => .int
  | 1 => .int
  | 2 => .int
  | _ => .int
abbrev wsX00 : List Cond := u_ws RX0 TX0 4
theorem nmX0 : ∀ a, a < 4 → ∀ b, b < 4 → a ≠ b → (TX0 a).2.1 ≠ (TX0 b).2.1 := by decide +kernel
theorem tyX0_ok : ∀ k, k < 4 → parseFieldDescriptor (TX0 k).2.2.1 = some (tyX0 k) := by decide +kernel
abbrev cX0_init : ByteArray := prog_2_method_1_code
def yX0_init : MethodName := ⟨RX0, "<init>", "(III)V"⟩
abbrev cX0_markOf : ByteArray := prog_2_method_2_code
def yX0_markOf : MethodName := ⟨RX0, "markOf", "(I)I"⟩
def RX1 : String := "VoucherOffice$Crest"
def TX1 : u_T := fun k => match k with
  | 0 => ("VoucherOffice$House", "points", "I", false)
  | 1 => ("VoucherOffice$Plain", "kind", "I", true)
  | 2 => ("VoucherOffice$Plain", "from", "I", true)
  | 3 => ("VoucherOffice$Plain", "amount", "I", false)
  | _ => ("VoucherOffice$Plain", "left", "I", false)
def tyX1 : Nat → FieldType := fun k => match k with
  | 0 => .int
  | 1 => .int
  | 2 => .int
  | 3 => .int
  | _ => .int
abbrev wsX10 : List Cond := u_ws RX1 TX1 5
theorem nmX1 : ∀ a, a < 5 → ∀ b, b < 5 → a ≠ b → (TX1 a).2.1 ≠ (TX1 b).2.1 := by decide +kernel
theorem tyX1_ok : ∀ k, k < 5 → parseFieldDescriptor (TX1 k).2.2.1 = some (tyX1 k) := by decide +kernel
abbrev cX1_init : ByteArray := prog_3_method_1_code
def yX1_init : MethodName := ⟨RX1, "<init>", "(III)V"⟩
abbrev cX1_valueOn : ByteArray := prog_3_method_2_code
def yX1_valueOn : MethodName := ⟨RX1, "valueOn", "(I)I"⟩
abbrev cX1_feeOf : ByteArray := prog_3_method_3_code
def yX1_feeOf : MethodName := ⟨RX1, "feeOf", "(I)I"⟩
abbrev cX1_sealNow : ByteArray := prog_3_method_4_code
def yX1_sealNow : MethodName := ⟨RX1, "sealNow", "()I"⟩
def RX2 : String := "VoucherOffice$Gift"
def TX2 : u_T := fun k => match k with
  | 0 => ("VoucherOffice$Plain", "kind", "I", true)
  | 1 => ("VoucherOffice$Plain", "from", "I", true)
  | 2 => ("VoucherOffice$Plain", "amount", "I", false)
  | _ => ("VoucherOffice$Plain", "left", "I", false)
def tyX2 : Nat → FieldType := fun k => match k with
  | 0 => .int
  | 1 => .int
  | 2 => .int
  | _ => .int
abbrev wsX20 : List Cond := u_ws RX2 TX2 4
theorem nmX2 : ∀ a, a < 4 → ∀ b, b < 4 → a ≠ b → (TX2 a).2.1 ≠ (TX2 b).2.1 := by decide +kernel
theorem tyX2_ok : ∀ k, k < 4 → parseFieldDescriptor (TX2 k).2.2.1 = some (tyX2 k) := by decide +kernel
abbrev cX2_init : ByteArray := prog_4_method_1_code
def yX2_init : MethodName := ⟨RX2, "<init>", "(III)V"⟩
def RX3 : String := "VoucherOffice$House"
def TX3 : u_T := fun k => match k with
  | 0 => ("VoucherOffice$Plain", "kind", "I", true)
  | 1 => ("VoucherOffice$Plain", "from", "I", true)
  | 2 => ("VoucherOffice$Plain", "amount", "I", false)
  | 3 => ("VoucherOffice$Plain", "left", "I", false)
  | _ => ("VoucherOffice$House", "points", "I", false)
def tyX3 : Nat → FieldType := fun k => match k with
  | 0 => .int
  | 1 => .int
  | 2 => .int
  | 3 => .int
  | _ => .int
abbrev wsX30 : List Cond := u_ws RX3 TX3 5
theorem nmX3 : ∀ a, a < 5 → ∀ b, b < 5 → a ≠ b → (TX3 a).2.1 ≠ (TX3 b).2.1 := by decide +kernel
theorem tyX3_ok : ∀ k, k < 5 → parseFieldDescriptor (TX3 k).2.2.1 = some (tyX3 k) := by decide +kernel
abbrev cX3_init : ByteArray := prog_5_method_1_code
def yX3_init : MethodName := ⟨RX3, "<init>", "(III)V"⟩
abbrev cX3_valueOn : ByteArray := prog_5_method_2_code
def yX3_valueOn : MethodName := ⟨RX3, "valueOn", "(I)I"⟩
abbrev cX3_spendOn : ByteArray := prog_5_method_3_code
def yX3_spendOn : MethodName := ⟨RX3, "spendOn", "(II)I"⟩
abbrev cX3_pointsNow : ByteArray := prog_5_method_4_code
def yX3_pointsNow : MethodName := ⟨RX3, "pointsNow", "()I"⟩
abbrev cX3_takeIn : ByteArray := prog_5_method_5_code
def yX3_takeIn : MethodName := ⟨RX3, "takeIn", "(LVoucherOffice$Plain;)V"⟩
def RX4 : String := "VoucherOffice$Plain"
def TX4 : u_T := fun k => match k with
  | 0 => ("VoucherOffice$Plain", "kind", "I", true)
  | 1 => ("VoucherOffice$Plain", "from", "I", true)
  | 2 => ("VoucherOffice$Plain", "amount", "I", false)
  | _ => ("VoucherOffice$Plain", "left", "I", false)
def tyX4 : Nat → FieldType := fun k => match k with
  | 0 => .int
  | 1 => .int
  | 2 => .int
  | _ => .int
abbrev wsX40 : List Cond := u_ws RX4 TX4 4
theorem nmX4 : ∀ a, a < 4 → ∀ b, b < 4 → a ≠ b → (TX4 a).2.1 ≠ (TX4 b).2.1 := by decide +kernel
theorem tyX4_ok : ∀ k, k < 4 → parseFieldDescriptor (TX4 k).2.2.1 = some (tyX4 k) := by decide +kernel
abbrev cX4_init : ByteArray := prog_6_method_1_code
def yX4_init : MethodName := ⟨RX4, "<init>", "(III)V"⟩
abbrev cX4_valueOn : ByteArray := prog_6_method_2_code
def yX4_valueOn : MethodName := ⟨RX4, "valueOn", "(I)I"⟩
abbrev cX4_feeOf : ByteArray := prog_6_method_3_code
def yX4_feeOf : MethodName := ⟨RX4, "feeOf", "(I)I"⟩
abbrev cX4_spendOn : ByteArray := prog_6_method_4_code
def yX4_spendOn : MethodName := ⟨RX4, "spendOn", "(II)I"⟩
abbrev cX4_sealNow : ByteArray := prog_6_method_5_code
def yX4_sealNow : MethodName := ⟨RX4, "sealNow", "()I"⟩
abbrev cX4_markOf : ByteArray := prog_6_method_6_code
def yX4_markOf : MethodName := ⟨RX4, "markOf", "(I)I"⟩
abbrev cX4_daysLeftOn : ByteArray := prog_6_method_7_code
def yX4_daysLeftOn : MethodName := ⟨RX4, "daysLeftOn", "(I)I"⟩
abbrev cX4_lastDay : ByteArray := prog_6_method_8_code
def yX4_lastDay : MethodName := ⟨RX4, "lastDay", "()I"⟩
abbrev cX4_lapseOn : ByteArray := prog_6_method_9_code
def yX4_lapseOn : MethodName := ⟨RX4, "lapseOn", "(I)I"⟩
abbrev cX4_pointsNow : ByteArray := prog_6_method_10_code
def yX4_pointsNow : MethodName := ⟨RX4, "pointsNow", "()I"⟩
abbrev cX4_lastSpent : ByteArray := prog_6_method_11_code
def yX4_lastSpent : MethodName := ⟨RX4, "lastSpent", "()I"⟩
abbrev cX4_takeIn : ByteArray := prog_6_method_12_code
def yX4_takeIn : MethodName := ⟨RX4, "takeIn", "(LVoucherOffice$Plain;)V"⟩
def RX5 : String := "VoucherOffice$Round"
def TX5 : u_T := fun k => match k with
  | 0 => ("VoucherOffice$Plain", "kind", "I", true)
  | 1 => ("VoucherOffice$Plain", "from", "I", true)
  | 2 => ("VoucherOffice$Plain", "amount", "I", false)
  | _ => ("VoucherOffice$Plain", "left", "I", false)
def tyX5 : Nat → FieldType := fun k => match k with
  | 0 => .int
  | 1 => .int
  | 2 => .int
  | _ => .int
abbrev wsX50 : List Cond := u_ws RX5 TX5 4
theorem nmX5 : ∀ a, a < 4 → ∀ b, b < 4 → a ≠ b → (TX5 a).2.1 ≠ (TX5 b).2.1 := by decide +kernel
theorem tyX5_ok : ∀ k, k < 4 → parseFieldDescriptor (TX5 k).2.2.1 = some (tyX5 k) := by decide +kernel
abbrev cX5_init : ByteArray := prog_7_method_1_code
def yX5_init : MethodName := ⟨RX5, "<init>", "(III)V"⟩
abbrev cX5_valueOn : ByteArray := prog_7_method_2_code
def yX5_valueOn : MethodName := ⟨RX5, "valueOn", "(I)I"⟩
def RX6 : String := "VoucherOffice$Season"
def TX6 : u_T := fun k => match k with
  | 0 => ("VoucherOffice$Plain", "kind", "I", true)
  | 1 => ("VoucherOffice$Plain", "from", "I", true)
  | 2 => ("VoucherOffice$Plain", "amount", "I", false)
  | _ => ("VoucherOffice$Plain", "left", "I", false)
def tyX6 : Nat → FieldType := fun k => match k with
  | 0 => .int
  | 1 => .int
  | 2 => .int
  | _ => .int
abbrev wsX60 : List Cond := u_ws RX6 TX6 4
theorem nmX6 : ∀ a, a < 4 → ∀ b, b < 4 → a ≠ b → (TX6 a).2.1 ≠ (TX6 b).2.1 := by decide +kernel
theorem tyX6_ok : ∀ k, k < 4 → parseFieldDescriptor (TX6 k).2.2.1 = some (tyX6 k) := by decide +kernel
abbrev cX6_init : ByteArray := prog_8_method_1_code
def yX6_init : MethodName := ⟨RX6, "<init>", "(III)V"⟩
abbrev cX6_lastDay : ByteArray := prog_8_method_2_code
def yX6_lastDay : MethodName := ⟨RX6, "lastDay", "()I"⟩
abbrev cX6_valueOn : ByteArray := prog_8_method_3_code
def yX6_valueOn : MethodName := ⟨RX6, "valueOn", "(I)I"⟩
abbrev cX6_sealNow : ByteArray := prog_8_method_4_code
def yX6_sealNow : MethodName := ⟨RX6, "sealNow", "()I"⟩
abbrev cX6_daysLeftOn : ByteArray := prog_8_method_5_code
def yX6_daysLeftOn : MethodName := ⟨RX6, "daysLeftOn", "(I)I"⟩
abbrev cX6_lapseOn : ByteArray := prog_8_method_6_code
def yX6_lapseOn : MethodName := ⟨RX6, "lapseOn", "(I)I"⟩
def RX7 : String := "VoucherOffice$Staff"
def TX7 : u_T := fun k => match k with
  | 0 => ("VoucherOffice$Plain", "kind", "I", true)
  | 1 => ("VoucherOffice$Plain", "from", "I", true)
  | 2 => ("VoucherOffice$Plain", "amount", "I", false)
  | 3 => ("VoucherOffice$Plain", "left", "I", false)
  | _ => ("VoucherOffice$Staff", "lastSpent", "I", false)
def tyX7 : Nat → FieldType := fun k => match k with
  | 0 => .int
  | 1 => .int
  | 2 => .int
  | 3 => .int
  | _ => .int
abbrev wsX70 : List Cond := u_ws RX7 TX7 5
theorem nmX7 : ∀ a, a < 5 → ∀ b, b < 5 → a ≠ b → (TX7 a).2.1 ≠ (TX7 b).2.1 := by decide +kernel
theorem tyX7_ok : ∀ k, k < 5 → parseFieldDescriptor (TX7 k).2.2.1 = some (tyX7 k) := by decide +kernel
abbrev cX7_init : ByteArray := prog_9_method_1_code
def yX7_init : MethodName := ⟨RX7, "<init>", "(III)V"⟩
abbrev cX7_lastDay : ByteArray := prog_9_method_2_code
def yX7_lastDay : MethodName := ⟨RX7, "lastDay", "()I"⟩
abbrev cX7_valueOn : ByteArray := prog_9_method_3_code
def yX7_valueOn : MethodName := ⟨RX7, "valueOn", "(I)I"⟩
abbrev cX7_feeOf : ByteArray := prog_9_method_4_code
def yX7_feeOf : MethodName := ⟨RX7, "feeOf", "(I)I"⟩
abbrev cX7_spendOn : ByteArray := prog_9_method_5_code
def yX7_spendOn : MethodName := ⟨RX7, "spendOn", "(II)I"⟩
abbrev cX7_lastSpent : ByteArray := prog_9_method_6_code
def yX7_lastSpent : MethodName := ⟨RX7, "lastSpent", "()I"⟩
abbrev cX7_takeIn : ByteArray := prog_9_method_7_code
def yX7_takeIn : MethodName := ⟨RX7, "takeIn", "(LVoucherOffice$Plain;)V"⟩
def RX8 : String := "VoucherOffice"
def TX8 : u_T := fun k => match k with
  | 0 => ("VoucherOffice", "vouchers", "[LVoucherOffice$Plain;", true)
  | 1 => ("VoucherOffice", "issued", "I", false)
  | 2 => ("VoucherOffice", "today", "I", false)
  | 3 => ("VoucherOffice", "issuedAmounts", "I", false)
  | 4 => ("VoucherOffice", "spentTogether", "I", false)
  | 5 => ("VoucherOffice", "feesTogether", "I", false)
  | _ => ("VoucherOffice", "lapsedTogether", "I", false)
def tyX8 : Nat → FieldType := fun k => match k with
  | 0 => .array (.object "VoucherOffice$Plain")
  | 1 => .int
  | 2 => .int
  | 3 => .int
  | 4 => .int
  | 5 => .int
  | _ => .int
abbrev wsX80 : List Cond := u_ws RX8 TX8 7
theorem nmX8 : ∀ a, a < 7 → ∀ b, b < 7 → a ≠ b → (TX8 a).2.1 ≠ (TX8 b).2.1 := by decide +kernel
theorem tyX8_ok : ∀ k, k < 7 → parseFieldDescriptor (TX8 k).2.2.1 = some (tyX8 k) := by decide +kernel
abbrev cX8_init : ByteArray := prog_1_method_1_code
def yX8_init : MethodName := ⟨RX8, "<init>", "()V"⟩
abbrev cX8_issue : ByteArray := prog_1_method_2_code
def yX8_issue : MethodName := ⟨RX8, "issue", "(II)I"⟩
abbrev cX8_pass : ByteArray := prog_1_method_3_code
def yX8_pass : MethodName := ⟨RX8, "pass", "(I)I"⟩
abbrev cX8_value : ByteArray := prog_1_method_4_code
def yX8_value : MethodName := ⟨RX8, "value", "(II)I"⟩
abbrev cX8_fee : ByteArray := prog_1_method_5_code
def yX8_fee : MethodName := ⟨RX8, "fee", "(II)I"⟩
abbrev cX8_spend : ByteArray := prog_1_method_6_code
def yX8_spend : MethodName := ⟨RX8, "spend", "(II)I"⟩
abbrev cX8_seal : ByteArray := prog_1_method_7_code
def yX8_seal : MethodName := ⟨RX8, "seal", "(I)I"⟩
abbrev cX8_mark : ByteArray := prog_1_method_8_code
def yX8_mark : MethodName := ⟨RX8, "mark", "(II)I"⟩
abbrev cX8_daysLeft : ByteArray := prog_1_method_9_code
def yX8_daysLeft : MethodName := ⟨RX8, "daysLeft", "(II)I"⟩
abbrev cX8_lapse : ByteArray := prog_1_method_10_code
def yX8_lapse : MethodName := ⟨RX8, "lapse", "()I"⟩
abbrev cX8_merge : ByteArray := prog_1_method_11_code
def yX8_merge : MethodName := ⟨RX8, "merge", "(II)I"⟩
abbrev cX8_total : ByteArray := prog_1_method_12_code
def yX8_total : MethodName := ⟨RX8, "total", "(I)I"⟩
abbrev cX8_paper : ByteArray := prog_1_method_13_code
def yX8_paper : MethodName := ⟨RX8, "paper", "(II)I"⟩
abbrev cX8_count : ByteArray := prog_1_method_14_code
def yX8_count : MethodName := ⟨RX8, "count", "(I)I"⟩
abbrev cX8_leftOfAll : ByteArray := prog_1_method_15_code
def yX8_leftOfAll : MethodName := ⟨RX8, "leftOfAll", "()I"⟩
abbrev cX8_find : ByteArray := prog_1_method_16_code
def yX8_find : MethodName := ⟨RX8, "find", "(I)LVoucherOffice$Plain;"⟩
abbrev cX8_isOutside : ByteArray := prog_1_method_17_code
def yX8_isOutside : MethodName := ⟨RX8, "isOutside", "(III)Z"⟩
abbrev cX8_newVoucher : ByteArray := prog_1_method_18_code
def yX8_newVoucher : MethodName := ⟨RX8, "newVoucher", "(III)LVoucherOffice$Plain;"⟩
def RX9 : String := "VoucherOfficeModel"
def TX9 : u_T := fun k => match k with
  | 0 => ("VoucherOfficeModel", "day", "I", false)
  | 1 => ("VoucherOfficeModel", "issued", "I", false)
  | 2 => ("VoucherOfficeModel", "amounts", "I", false)
  | 3 => ("VoucherOfficeModel", "spent", "I", false)
  | 4 => ("VoucherOfficeModel", "fees", "I", false)
  | 5 => ("VoucherOfficeModel", "lapsed", "I", false)
  | 6 => ("VoucherOfficeModel", "kindOf", "[I", true)
  | 7 => ("VoucherOfficeModel", "amountOf", "[I", true)
  | 8 => ("VoucherOfficeModel", "leftOf", "[I", true)
  | 9 => ("VoucherOfficeModel", "fromOf", "[I", true)
  | 10 => ("VoucherOfficeModel", "pointsOf", "[I", true)
  | 11 => ("VoucherOfficeModel", "spentOn", "[I", true)
  | _ => ("VoucherOfficeModel", "gone", "[Z", true)
def tyX9 : Nat → FieldType := fun k => match k with
  | 0 => .int
  | 1 => .int
  | 2 => .int
  | 3 => .int
  | 4 => .int
  | 5 => .int
  | 6 => .array .int
  | 7 => .array .int
  | 8 => .array .int
  | 9 => .array .int
  | 10 => .array .int
  | 11 => .array .int
  | _ => .array .boolean
abbrev wsX90 : List Cond := u_ws RX9 TX9 13
theorem nmX9 : ∀ a, a < 13 → ∀ b, b < 13 → a ≠ b → (TX9 a).2.1 ≠ (TX9 b).2.1 := by decide +kernel
theorem tyX9_ok : ∀ k, k < 13 → parseFieldDescriptor (TX9 k).2.2.1 = some (tyX9 k) := by decide +kernel
abbrev cX9_init : ByteArray := prog_11_method_1_code
def yX9_init : MethodName := ⟨RX9, "<init>", "()V"⟩
abbrev cX9_within : ByteArray := prog_11_method_2_code
def yX9_within : MethodName := ⟨RX9, "within", "(III)Z"⟩
abbrev cX9_isThere : ByteArray := prog_11_method_3_code
def yX9_isThere : MethodName := ⟨RX9, "isThere", "(I)Z"⟩
abbrev cX9_isDated : ByteArray := prog_11_method_4_code
def yX9_isDated : MethodName := ⟨RX9, "isDated", "(I)Z"⟩
abbrev cX9_hasPoints : ByteArray := prog_11_method_5_code
def yX9_hasPoints : MethodName := ⟨RX9, "hasPoints", "(I)Z"⟩
abbrev cX9_lastDay : ByteArray := prog_11_method_6_code
def yX9_lastDay : MethodName := ⟨RX9, "lastDay", "(I)I"⟩
abbrev cX9_valueOf : ByteArray := prog_11_method_7_code
def yX9_valueOf : MethodName := ⟨RX9, "valueOf", "(II)I"⟩
abbrev cX9_feeOf : ByteArray := prog_11_method_8_code
def yX9_feeOf : MethodName := ⟨RX9, "feeOf", "(II)I"⟩
abbrev cX9_sealOf : ByteArray := prog_11_method_9_code
def yX9_sealOf : MethodName := ⟨RX9, "sealOf", "(I)I"⟩
abbrev cX9_issue : ByteArray := prog_11_method_10_code
def yX9_issue : MethodName := ⟨RX9, "issue", "(II)I"⟩
abbrev cX9_pass : ByteArray := prog_11_method_11_code
def yX9_pass : MethodName := ⟨RX9, "pass", "(I)I"⟩
abbrev cX9_value : ByteArray := prog_11_method_12_code
def yX9_value : MethodName := ⟨RX9, "value", "(II)I"⟩
abbrev cX9_fee : ByteArray := prog_11_method_13_code
def yX9_fee : MethodName := ⟨RX9, "fee", "(II)I"⟩
abbrev cX9_spend : ByteArray := prog_11_method_14_code
def yX9_spend : MethodName := ⟨RX9, "spend", "(II)I"⟩
abbrev cX9_seal : ByteArray := prog_11_method_15_code
def yX9_seal : MethodName := ⟨RX9, "seal", "(I)I"⟩
abbrev cX9_mark : ByteArray := prog_11_method_16_code
def yX9_mark : MethodName := ⟨RX9, "mark", "(II)I"⟩
abbrev cX9_daysLeft : ByteArray := prog_11_method_17_code
def yX9_daysLeft : MethodName := ⟨RX9, "daysLeft", "(II)I"⟩
abbrev cX9_lapse : ByteArray := prog_11_method_18_code
def yX9_lapse : MethodName := ⟨RX9, "lapse", "()I"⟩
abbrev cX9_merge : ByteArray := prog_11_method_19_code
def yX9_merge : MethodName := ⟨RX9, "merge", "(II)I"⟩
abbrev cX9_total : ByteArray := prog_11_method_20_code
def yX9_total : MethodName := ⟨RX9, "total", "(I)I"⟩
abbrev cX9_paper : ByteArray := prog_11_method_21_code
def yX9_paper : MethodName := ⟨RX9, "paper", "(II)I"⟩
abbrev cX9_leftOfAll : ByteArray := prog_11_method_22_code
def yX9_leftOfAll : MethodName := ⟨RX9, "leftOfAll", "()I"⟩
abbrev cX9_count : ByteArray := prog_11_method_23_code
def yX9_count : MethodName := ⟨RX9, "count", "(I)I"⟩
def RJ9 : String := "java/lang/Math"
abbrev cJ9_max_7cf53 : ByteArray := prog_12_method_65_code
def yJ9_max_7cf53 : MethodName := ⟨RJ9, "max", "(II)I"⟩
def RL : String := "VoucherOfficeLaw"
abbrev cL_law : ByteArray := code
def yL_law : MethodName := ⟨RL, "law", "([I)Z"⟩
abbrev vwCl : List vw_C := [(RX0, TX0, 4), (RX1, TX1, 5), (RX2, TX2, 4), (RX3, TX3, 5), (RX4, TX4, 4), (RX5, TX5, 4), (RX6, TX6, 4), (RX7, TX7, 5), (RX8, TX8, 7), (RX9, TX9, 13)]
end
section
theorem dX0_init_0 : decode cX0_init 0 = .ok (.aload_n 0, 1) := by decide +kernel
theorem dX0_init_1 : decode cX0_init 1 = .ok (.iload_n 1, 1) := by decide +kernel
theorem dX0_init_2 : decode cX0_init 2 = .ok (.iload_n 2, 1) := by decide +kernel
theorem dX0_init_3 : decode cX0_init 3 = .ok (.iload_n 3, 1) := by decide +kernel
theorem dX0_init_4 : decode cX0_init 4 = .ok (.invokespecial 1, 3) := by decide +kernel
theorem dX0_init_7 : decode cX0_init 7 = .ok (.return_, 1) := by decide +kernel
theorem dX0_markOf_0 : decode cX0_markOf 0 = .ok (.aload_n 0, 1) := by decide +kernel
theorem dX0_markOf_1 : decode cX0_markOf 1 = .ok (.invokevirtual 7, 3) := by decide +kernel
theorem dX0_markOf_4 : decode cX0_markOf 4 = .ok (.bipush 7, 2) := by decide +kernel
theorem dX0_markOf_6 : decode cX0_markOf 6 = .ok (.imul, 1) := by decide +kernel
theorem dX0_markOf_7 : decode cX0_markOf 7 = .ok (.iload_n 1, 1) := by decide +kernel
theorem dX0_markOf_8 : decode cX0_markOf 8 = .ok (.iadd, 1) := by decide +kernel
theorem dX0_markOf_9 : decode cX0_markOf 9 = .ok (.ireturn, 1) := by decide +kernel
theorem dX1_init_0 : decode cX1_init 0 = .ok (.aload_n 0, 1) := by decide +kernel
theorem dX1_init_1 : decode cX1_init 1 = .ok (.iload_n 1, 1) := by decide +kernel
theorem dX1_init_2 : decode cX1_init 2 = .ok (.iload_n 2, 1) := by decide +kernel
theorem dX1_init_3 : decode cX1_init 3 = .ok (.iload_n 3, 1) := by decide +kernel
theorem dX1_init_4 : decode cX1_init 4 = .ok (.invokespecial 1, 3) := by decide +kernel
theorem dX1_init_7 : decode cX1_init 7 = .ok (.return_, 1) := by decide +kernel
theorem dX1_valueOn_0 : decode cX1_valueOn 0 = .ok (.aload_n 0, 1) := by decide +kernel
theorem dX1_valueOn_1 : decode cX1_valueOn 1 = .ok (.iload_n 1, 1) := by decide +kernel
theorem dX1_valueOn_2 : decode cX1_valueOn 2 = .ok (.invokespecial 7, 3) := by decide +kernel
theorem dX1_valueOn_5 : decode cX1_valueOn 5 = .ok (.istore_n 2, 1) := by decide +kernel
theorem dX1_valueOn_6 : decode cX1_valueOn 6 = .ok (.iload_n 1, 1) := by decide +kernel
theorem dX1_valueOn_7 : decode cX1_valueOn 7 = .ok (.bipush 7, 2) := by decide +kernel
theorem dX1_valueOn_9 : decode cX1_valueOn 9 = .ok (.irem, 1) := by decide +kernel
theorem dX1_valueOn_10 : decode cX1_valueOn 10 = .ok (.ifCond .ne 9, 3) := by decide +kernel
theorem dX1_valueOn_13 : decode cX1_valueOn 13 = .ok (.iload_n 2, 1) := by decide +kernel
theorem dX1_valueOn_14 : decode cX1_valueOn 14 = .ok (.iconst 2, 1) := by decide +kernel
theorem dX1_valueOn_15 : decode cX1_valueOn 15 = .ok (.imul, 1) := by decide +kernel
theorem dX1_valueOn_16 : decode cX1_valueOn 16 = .ok (.goto 4, 3) := by decide +kernel
theorem dX1_valueOn_19 : decode cX1_valueOn 19 = .ok (.iload_n 2, 1) := by decide +kernel
theorem dX1_valueOn_20 : decode cX1_valueOn 20 = .ok (.ireturn, 1) := by decide +kernel
theorem dX1_feeOf_0 : decode cX1_feeOf 0 = .ok (.iconst 0, 1) := by decide +kernel
theorem dX1_feeOf_1 : decode cX1_feeOf 1 = .ok (.aload_n 0, 1) := by decide +kernel
theorem dX1_feeOf_2 : decode cX1_feeOf 2 = .ok (.iload_n 1, 1) := by decide +kernel
theorem dX1_feeOf_3 : decode cX1_feeOf 3 = .ok (.invokespecial 11, 3) := by decide +kernel
theorem dX1_feeOf_6 : decode cX1_feeOf 6 = .ok (.aload_n 0, 1) := by decide +kernel
theorem dX1_feeOf_7 : decode cX1_feeOf 7 = .ok (.getfield 14, 3) := by decide +kernel
theorem dX1_feeOf_10 : decode cX1_feeOf 10 = .ok (.isub, 1) := by decide +kernel
theorem dX1_feeOf_11 : decode cX1_feeOf 11 = .ok (.invokestatic 20, 3) := by decide +kernel
theorem dX1_feeOf_14 : decode cX1_feeOf 14 = .ok (.ireturn, 1) := by decide +kernel
theorem dX1_sealNow_0 : decode cX1_sealNow 0 = .ok (.aload_n 0, 1) := by decide +kernel
theorem dX1_sealNow_1 : decode cX1_sealNow 1 = .ok (.invokespecial 26, 3) := by decide +kernel
theorem dX1_sealNow_4 : decode cX1_sealNow 4 = .ok (.iconst 3, 1) := by decide +kernel
theorem dX1_sealNow_5 : decode cX1_sealNow 5 = .ok (.aload_n 0, 1) := by decide +kernel
theorem dX1_sealNow_6 : decode cX1_sealNow 6 = .ok (.getfield 14, 3) := by decide +kernel
theorem dX1_sealNow_9 : decode cX1_sealNow 9 = .ok (.imul, 1) := by decide +kernel
theorem dX1_sealNow_10 : decode cX1_sealNow 10 = .ok (.iadd, 1) := by decide +kernel
theorem dX1_sealNow_11 : decode cX1_sealNow 11 = .ok (.ireturn, 1) := by decide +kernel
theorem dX2_init_0 : decode cX2_init 0 = .ok (.aload_n 0, 1) := by decide +kernel
theorem dX2_init_1 : decode cX2_init 1 = .ok (.iload_n 1, 1) := by decide +kernel
theorem dX2_init_2 : decode cX2_init 2 = .ok (.iload_n 2, 1) := by decide +kernel
theorem dX2_init_3 : decode cX2_init 3 = .ok (.iload_n 3, 1) := by decide +kernel
theorem dX2_init_4 : decode cX2_init 4 = .ok (.invokespecial 1, 3) := by decide +kernel
theorem dX2_init_7 : decode cX2_init 7 = .ok (.return_, 1) := by decide +kernel
theorem dX3_init_0 : decode cX3_init 0 = .ok (.aload_n 0, 1) := by decide +kernel
theorem dX3_init_1 : decode cX3_init 1 = .ok (.iload_n 1, 1) := by decide +kernel
theorem dX3_init_2 : decode cX3_init 2 = .ok (.iload_n 2, 1) := by decide +kernel
theorem dX3_init_3 : decode cX3_init 3 = .ok (.iload_n 3, 1) := by decide +kernel
theorem dX3_init_4 : decode cX3_init 4 = .ok (.invokespecial 1, 3) := by decide +kernel
theorem dX3_init_7 : decode cX3_init 7 = .ok (.aload_n 0, 1) := by decide +kernel
theorem dX3_init_8 : decode cX3_init 8 = .ok (.iconst 0, 1) := by decide +kernel
theorem dX3_init_9 : decode cX3_init 9 = .ok (.putfield 7, 3) := by decide +kernel
theorem dX3_init_12 : decode cX3_init 12 = .ok (.return_, 1) := by decide +kernel
theorem dX3_valueOn_0 : decode cX3_valueOn 0 = .ok (.aload_n 0, 1) := by decide +kernel
theorem dX3_valueOn_1 : decode cX3_valueOn 1 = .ok (.iload_n 1, 1) := by decide +kernel
theorem dX3_valueOn_2 : decode cX3_valueOn 2 = .ok (.invokespecial 13, 3) := by decide +kernel
theorem dX3_valueOn_5 : decode cX3_valueOn 5 = .ok (.aload_n 0, 1) := by decide +kernel
theorem dX3_valueOn_6 : decode cX3_valueOn 6 = .ok (.getfield 7, 3) := by decide +kernel
theorem dX3_valueOn_9 : decode cX3_valueOn 9 = .ok (.iadd, 1) := by decide +kernel
theorem dX3_valueOn_10 : decode cX3_valueOn 10 = .ok (.ireturn, 1) := by decide +kernel
theorem dX3_spendOn_0 : decode cX3_spendOn 0 = .ok (.aload_n 0, 1) := by decide +kernel
theorem dX3_spendOn_1 : decode cX3_spendOn 1 = .ok (.iload_n 1, 1) := by decide +kernel
theorem dX3_spendOn_2 : decode cX3_spendOn 2 = .ok (.iload_n 2, 1) := by decide +kernel
theorem dX3_spendOn_3 : decode cX3_spendOn 3 = .ok (.invokespecial 17, 3) := by decide +kernel
theorem dX3_spendOn_6 : decode cX3_spendOn 6 = .ok (.istore_n 3, 1) := by decide +kernel
theorem dX3_spendOn_7 : decode cX3_spendOn 7 = .ok (.iload_n 3, 1) := by decide +kernel
theorem dX3_spendOn_8 : decode cX3_spendOn 8 = .ok (.ifCond .lt 16, 3) := by decide +kernel
theorem dX3_spendOn_11 : decode cX3_spendOn 11 = .ok (.aload_n 0, 1) := by decide +kernel
theorem dX3_spendOn_12 : decode cX3_spendOn 12 = .ok (.dup, 1) := by decide +kernel
theorem dX3_spendOn_13 : decode cX3_spendOn 13 = .ok (.getfield 7, 3) := by decide +kernel
theorem dX3_spendOn_16 : decode cX3_spendOn 16 = .ok (.iload_n 2, 1) := by decide +kernel
theorem dX3_spendOn_17 : decode cX3_spendOn 17 = .ok (.bipush 100, 2) := by decide +kernel
theorem dX3_spendOn_19 : decode cX3_spendOn 19 = .ok (.idiv, 1) := by decide +kernel
theorem dX3_spendOn_20 : decode cX3_spendOn 20 = .ok (.iadd, 1) := by decide +kernel
theorem dX3_spendOn_21 : decode cX3_spendOn 21 = .ok (.putfield 7, 3) := by decide +kernel
theorem dX3_spendOn_24 : decode cX3_spendOn 24 = .ok (.iload_n 3, 1) := by decide +kernel
theorem dX3_spendOn_25 : decode cX3_spendOn 25 = .ok (.ireturn, 1) := by decide +kernel
theorem dX3_pointsNow_0 : decode cX3_pointsNow 0 = .ok (.aload_n 0, 1) := by decide +kernel
theorem dX3_pointsNow_1 : decode cX3_pointsNow 1 = .ok (.getfield 7, 3) := by decide +kernel
theorem dX3_pointsNow_4 : decode cX3_pointsNow 4 = .ok (.ireturn, 1) := by decide +kernel
theorem dX3_takeIn_0 : decode cX3_takeIn 0 = .ok (.aload_n 0, 1) := by decide +kernel
theorem dX3_takeIn_1 : decode cX3_takeIn 1 = .ok (.aload_n 1, 1) := by decide +kernel
theorem dX3_takeIn_2 : decode cX3_takeIn 2 = .ok (.invokespecial 21, 3) := by decide +kernel
theorem dX3_takeIn_5 : decode cX3_takeIn 5 = .ok (.aload_n 0, 1) := by decide +kernel
theorem dX3_takeIn_6 : decode cX3_takeIn 6 = .ok (.dup, 1) := by decide +kernel
theorem dX3_takeIn_7 : decode cX3_takeIn 7 = .ok (.getfield 7, 3) := by decide +kernel
theorem dX3_takeIn_10 : decode cX3_takeIn 10 = .ok (.aload_n 1, 1) := by decide +kernel
theorem dX3_takeIn_11 : decode cX3_takeIn 11 = .ok (.invokevirtual 25, 3) := by decide +kernel
theorem dX3_takeIn_14 : decode cX3_takeIn 14 = .ok (.iadd, 1) := by decide +kernel
theorem dX3_takeIn_15 : decode cX3_takeIn 15 = .ok (.putfield 7, 3) := by decide +kernel
theorem dX3_takeIn_18 : decode cX3_takeIn 18 = .ok (.return_, 1) := by decide +kernel
theorem dX4_init_0 : decode cX4_init 0 = .ok (.aload_n 0, 1) := by decide +kernel
theorem dX4_init_1 : decode cX4_init 1 = .ok (.invokespecial 3, 3) := by decide +kernel
theorem dX4_init_4 : decode cX4_init 4 = .ok (.aload_n 0, 1) := by decide +kernel
theorem dX4_init_5 : decode cX4_init 5 = .ok (.iload_n 1, 1) := by decide +kernel
theorem dX4_init_6 : decode cX4_init 6 = .ok (.putfield 9, 3) := by decide +kernel
theorem dX4_init_9 : decode cX4_init 9 = .ok (.aload_n 0, 1) := by decide +kernel
theorem dX4_init_10 : decode cX4_init 10 = .ok (.iload_n 3, 1) := by decide +kernel
theorem dX4_init_11 : decode cX4_init 11 = .ok (.putfield 15, 3) := by decide +kernel
theorem dX4_init_14 : decode cX4_init 14 = .ok (.aload_n 0, 1) := by decide +kernel
theorem dX4_init_15 : decode cX4_init 15 = .ok (.iload_n 2, 1) := by decide +kernel
theorem dX4_init_16 : decode cX4_init 16 = .ok (.putfield 18, 3) := by decide +kernel
theorem dX4_init_19 : decode cX4_init 19 = .ok (.aload_n 0, 1) := by decide +kernel
theorem dX4_init_20 : decode cX4_init 20 = .ok (.iload_n 2, 1) := by decide +kernel
theorem dX4_init_21 : decode cX4_init 21 = .ok (.putfield 21, 3) := by decide +kernel
theorem dX4_init_24 : decode cX4_init 24 = .ok (.return_, 1) := by decide +kernel
theorem dX4_valueOn_0 : decode cX4_valueOn 0 = .ok (.aload_n 0, 1) := by decide +kernel
theorem dX4_valueOn_1 : decode cX4_valueOn 1 = .ok (.getfield 21, 3) := by decide +kernel
theorem dX4_valueOn_4 : decode cX4_valueOn 4 = .ok (.ireturn, 1) := by decide +kernel
theorem dX4_feeOf_0 : decode cX4_feeOf 0 = .ok (.iload_n 1, 1) := by decide +kernel
theorem dX4_feeOf_1 : decode cX4_feeOf 1 = .ok (.bipush 50, 2) := by decide +kernel
theorem dX4_feeOf_3 : decode cX4_feeOf 3 = .ok (.idiv, 1) := by decide +kernel
theorem dX4_feeOf_4 : decode cX4_feeOf 4 = .ok (.iconst 1, 1) := by decide +kernel
theorem dX4_feeOf_5 : decode cX4_feeOf 5 = .ok (.iadd, 1) := by decide +kernel
theorem dX4_feeOf_6 : decode cX4_feeOf 6 = .ok (.ireturn, 1) := by decide +kernel
theorem dX4_spendOn_0 : decode cX4_spendOn 0 = .ok (.iload_n 2, 1) := by decide +kernel
theorem dX4_spendOn_1 : decode cX4_spendOn 1 = .ok (.aload_n 0, 1) := by decide +kernel
theorem dX4_spendOn_2 : decode cX4_spendOn 2 = .ok (.iload_n 2, 1) := by decide +kernel
theorem dX4_spendOn_3 : decode cX4_spendOn 3 = .ok (.invokevirtual 24, 3) := by decide +kernel
theorem dX4_spendOn_6 : decode cX4_spendOn 6 = .ok (.iadd, 1) := by decide +kernel
theorem dX4_spendOn_7 : decode cX4_spendOn 7 = .ok (.istore_n 3, 1) := by decide +kernel
theorem dX4_spendOn_8 : decode cX4_spendOn 8 = .ok (.iload_n 2, 1) := by decide +kernel
theorem dX4_spendOn_9 : decode cX4_spendOn 9 = .ok (.aload_n 0, 1) := by decide +kernel
theorem dX4_spendOn_10 : decode cX4_spendOn 10 = .ok (.iload_n 1, 1) := by decide +kernel
theorem dX4_spendOn_11 : decode cX4_spendOn 11 = .ok (.invokevirtual 28, 3) := by decide +kernel
theorem dX4_spendOn_14 : decode cX4_spendOn 14 = .ok (.if_icmp .gt 11, 3) := by decide +kernel
theorem dX4_spendOn_17 : decode cX4_spendOn 17 = .ok (.iload_n 3, 1) := by decide +kernel
theorem dX4_spendOn_18 : decode cX4_spendOn 18 = .ok (.aload_n 0, 1) := by decide +kernel
theorem dX4_spendOn_19 : decode cX4_spendOn 19 = .ok (.getfield 21, 3) := by decide +kernel
theorem dX4_spendOn_22 : decode cX4_spendOn 22 = .ok (.if_icmp .le 6, 3) := by decide +kernel
theorem dX4_spendOn_25 : decode cX4_spendOn 25 = .ok (.bipush (-5), 2) := by decide +kernel
theorem dX4_spendOn_27 : decode cX4_spendOn 27 = .ok (.ireturn, 1) := by decide +kernel
theorem dX4_spendOn_28 : decode cX4_spendOn 28 = .ok (.aload_n 0, 1) := by decide +kernel
theorem dX4_spendOn_29 : decode cX4_spendOn 29 = .ok (.dup, 1) := by decide +kernel
theorem dX4_spendOn_30 : decode cX4_spendOn 30 = .ok (.getfield 21, 3) := by decide +kernel
theorem dX4_spendOn_33 : decode cX4_spendOn 33 = .ok (.iload_n 3, 1) := by decide +kernel
theorem dX4_spendOn_34 : decode cX4_spendOn 34 = .ok (.isub, 1) := by decide +kernel
theorem dX4_spendOn_35 : decode cX4_spendOn 35 = .ok (.putfield 21, 3) := by decide +kernel
theorem dX4_spendOn_38 : decode cX4_spendOn 38 = .ok (.aload_n 0, 1) := by decide +kernel
theorem dX4_spendOn_39 : decode cX4_spendOn 39 = .ok (.getfield 21, 3) := by decide +kernel
theorem dX4_spendOn_42 : decode cX4_spendOn 42 = .ok (.ireturn, 1) := by decide +kernel
theorem dX4_sealNow_0 : decode cX4_sealNow 0 = .ok (.aload_n 0, 1) := by decide +kernel
theorem dX4_sealNow_1 : decode cX4_sealNow 1 = .ok (.getfield 21, 3) := by decide +kernel
theorem dX4_sealNow_4 : decode cX4_sealNow 4 = .ok (.bipush 31, 2) := by decide +kernel
theorem dX4_sealNow_6 : decode cX4_sealNow 6 = .ok (.imul, 1) := by decide +kernel
theorem dX4_sealNow_7 : decode cX4_sealNow 7 = .ok (.aload_n 0, 1) := by decide +kernel
theorem dX4_sealNow_8 : decode cX4_sealNow 8 = .ok (.getfield 15, 3) := by decide +kernel
theorem dX4_sealNow_11 : decode cX4_sealNow 11 = .ok (.iadd, 1) := by decide +kernel
theorem dX4_sealNow_12 : decode cX4_sealNow 12 = .ok (.bipush 31, 2) := by decide +kernel
theorem dX4_sealNow_14 : decode cX4_sealNow 14 = .ok (.imul, 1) := by decide +kernel
theorem dX4_sealNow_15 : decode cX4_sealNow 15 = .ok (.aload_n 0, 1) := by decide +kernel
theorem dX4_sealNow_16 : decode cX4_sealNow 16 = .ok (.getfield 18, 3) := by decide +kernel
theorem dX4_sealNow_19 : decode cX4_sealNow 19 = .ok (.iadd, 1) := by decide +kernel
theorem dX4_sealNow_20 : decode cX4_sealNow 20 = .ok (.ireturn, 1) := by decide +kernel
theorem dX4_markOf_0 : decode cX4_markOf 0 = .ok (.bipush (-3), 2) := by decide +kernel
theorem dX4_markOf_2 : decode cX4_markOf 2 = .ok (.ireturn, 1) := by decide +kernel
theorem dX4_daysLeftOn_0 : decode cX4_daysLeftOn 0 = .ok (.bipush (-3), 2) := by decide +kernel
theorem dX4_daysLeftOn_2 : decode cX4_daysLeftOn 2 = .ok (.ireturn, 1) := by decide +kernel
theorem dX4_lastDay_0 : decode cX4_lastDay 0 = .ok (.bipush (-3), 2) := by decide +kernel
theorem dX4_lastDay_2 : decode cX4_lastDay 2 = .ok (.ireturn, 1) := by decide +kernel
theorem dX4_lapseOn_0 : decode cX4_lapseOn 0 = .ok (.iconst 0, 1) := by decide +kernel
theorem dX4_lapseOn_1 : decode cX4_lapseOn 1 = .ok (.ireturn, 1) := by decide +kernel
theorem dX4_pointsNow_0 : decode cX4_pointsNow 0 = .ok (.iconst 0, 1) := by decide +kernel
theorem dX4_pointsNow_1 : decode cX4_pointsNow 1 = .ok (.ireturn, 1) := by decide +kernel
theorem dX4_lastSpent_0 : decode cX4_lastSpent 0 = .ok (.iconst (-1), 1) := by decide +kernel
theorem dX4_lastSpent_1 : decode cX4_lastSpent 1 = .ok (.ireturn, 1) := by decide +kernel
theorem dX4_takeIn_0 : decode cX4_takeIn 0 = .ok (.aload_n 0, 1) := by decide +kernel
theorem dX4_takeIn_1 : decode cX4_takeIn 1 = .ok (.dup, 1) := by decide +kernel
theorem dX4_takeIn_2 : decode cX4_takeIn 2 = .ok (.getfield 18, 3) := by decide +kernel
theorem dX4_takeIn_5 : decode cX4_takeIn 5 = .ok (.aload_n 1, 1) := by decide +kernel
theorem dX4_takeIn_6 : decode cX4_takeIn 6 = .ok (.getfield 18, 3) := by decide +kernel
theorem dX4_takeIn_9 : decode cX4_takeIn 9 = .ok (.iadd, 1) := by decide +kernel
theorem dX4_takeIn_10 : decode cX4_takeIn 10 = .ok (.putfield 18, 3) := by decide +kernel
theorem dX4_takeIn_13 : decode cX4_takeIn 13 = .ok (.aload_n 0, 1) := by decide +kernel
theorem dX4_takeIn_14 : decode cX4_takeIn 14 = .ok (.dup, 1) := by decide +kernel
theorem dX4_takeIn_15 : decode cX4_takeIn 15 = .ok (.getfield 21, 3) := by decide +kernel
theorem dX4_takeIn_18 : decode cX4_takeIn 18 = .ok (.aload_n 1, 1) := by decide +kernel
theorem dX4_takeIn_19 : decode cX4_takeIn 19 = .ok (.getfield 21, 3) := by decide +kernel
theorem dX4_takeIn_22 : decode cX4_takeIn 22 = .ok (.iadd, 1) := by decide +kernel
theorem dX4_takeIn_23 : decode cX4_takeIn 23 = .ok (.putfield 21, 3) := by decide +kernel
theorem dX4_takeIn_26 : decode cX4_takeIn 26 = .ok (.return_, 1) := by decide +kernel
theorem dX5_init_0 : decode cX5_init 0 = .ok (.aload_n 0, 1) := by decide +kernel
theorem dX5_init_1 : decode cX5_init 1 = .ok (.iload_n 1, 1) := by decide +kernel
theorem dX5_init_2 : decode cX5_init 2 = .ok (.iload_n 2, 1) := by decide +kernel
theorem dX5_init_3 : decode cX5_init 3 = .ok (.iload_n 3, 1) := by decide +kernel
theorem dX5_init_4 : decode cX5_init 4 = .ok (.invokespecial 1, 3) := by decide +kernel
theorem dX5_init_7 : decode cX5_init 7 = .ok (.return_, 1) := by decide +kernel
theorem dX5_valueOn_0 : decode cX5_valueOn 0 = .ok (.aload_n 0, 1) := by decide +kernel
theorem dX5_valueOn_1 : decode cX5_valueOn 1 = .ok (.iload_n 1, 1) := by decide +kernel
theorem dX5_valueOn_2 : decode cX5_valueOn 2 = .ok (.invokespecial 7, 3) := by decide +kernel
theorem dX5_valueOn_5 : decode cX5_valueOn 5 = .ok (.istore_n 2, 1) := by decide +kernel
theorem dX5_valueOn_6 : decode cX5_valueOn 6 = .ok (.iload_n 2, 1) := by decide +kernel
theorem dX5_valueOn_7 : decode cX5_valueOn 7 = .ok (.iload_n 2, 1) := by decide +kernel
theorem dX5_valueOn_8 : decode cX5_valueOn 8 = .ok (.bipush 10, 2) := by decide +kernel
theorem dX5_valueOn_10 : decode cX5_valueOn 10 = .ok (.irem, 1) := by decide +kernel
theorem dX5_valueOn_11 : decode cX5_valueOn 11 = .ok (.isub, 1) := by decide +kernel
theorem dX5_valueOn_12 : decode cX5_valueOn 12 = .ok (.ireturn, 1) := by decide +kernel
theorem dX6_init_0 : decode cX6_init 0 = .ok (.aload_n 0, 1) := by decide +kernel
theorem dX6_init_1 : decode cX6_init 1 = .ok (.iload_n 1, 1) := by decide +kernel
theorem dX6_init_2 : decode cX6_init 2 = .ok (.iload_n 2, 1) := by decide +kernel
theorem dX6_init_3 : decode cX6_init 3 = .ok (.iload_n 3, 1) := by decide +kernel
theorem dX6_init_4 : decode cX6_init 4 = .ok (.invokespecial 1, 3) := by decide +kernel
theorem dX6_init_7 : decode cX6_init 7 = .ok (.return_, 1) := by decide +kernel
theorem dX6_lastDay_0 : decode cX6_lastDay 0 = .ok (.aload_n 0, 1) := by decide +kernel
theorem dX6_lastDay_1 : decode cX6_lastDay 1 = .ok (.getfield 7, 3) := by decide +kernel
theorem dX6_lastDay_4 : decode cX6_lastDay 4 = .ok (.bipush 90, 2) := by decide +kernel
theorem dX6_lastDay_6 : decode cX6_lastDay 6 = .ok (.iadd, 1) := by decide +kernel
theorem dX6_lastDay_7 : decode cX6_lastDay 7 = .ok (.ireturn, 1) := by decide +kernel
theorem dX6_valueOn_0 : decode cX6_valueOn 0 = .ok (.iload_n 1, 1) := by decide +kernel
theorem dX6_valueOn_1 : decode cX6_valueOn 1 = .ok (.aload_n 0, 1) := by decide +kernel
theorem dX6_valueOn_2 : decode cX6_valueOn 2 = .ok (.invokevirtual 13, 3) := by decide +kernel
theorem dX6_valueOn_5 : decode cX6_valueOn 5 = .ok (.if_icmp .le 7, 3) := by decide +kernel
theorem dX6_valueOn_8 : decode cX6_valueOn 8 = .ok (.iconst 0, 1) := by decide +kernel
theorem dX6_valueOn_9 : decode cX6_valueOn 9 = .ok (.goto 8, 3) := by decide +kernel
theorem dX6_valueOn_12 : decode cX6_valueOn 12 = .ok (.aload_n 0, 1) := by decide +kernel
theorem dX6_valueOn_13 : decode cX6_valueOn 13 = .ok (.iload_n 1, 1) := by decide +kernel
theorem dX6_valueOn_14 : decode cX6_valueOn 14 = .ok (.invokespecial 17, 3) := by decide +kernel
theorem dX6_valueOn_17 : decode cX6_valueOn 17 = .ok (.ireturn, 1) := by decide +kernel
theorem dX6_sealNow_0 : decode cX6_sealNow 0 = .ok (.aload_n 0, 1) := by decide +kernel
theorem dX6_sealNow_1 : decode cX6_sealNow 1 = .ok (.invokespecial 21, 3) := by decide +kernel
theorem dX6_sealNow_4 : decode cX6_sealNow 4 = .ok (.aload_n 0, 1) := by decide +kernel
theorem dX6_sealNow_5 : decode cX6_sealNow 5 = .ok (.invokevirtual 13, 3) := by decide +kernel
theorem dX6_sealNow_8 : decode cX6_sealNow 8 = .ok (.iadd, 1) := by decide +kernel
theorem dX6_sealNow_9 : decode cX6_sealNow 9 = .ok (.ireturn, 1) := by decide +kernel
theorem dX6_daysLeftOn_0 : decode cX6_daysLeftOn 0 = .ok (.iconst 0, 1) := by decide +kernel
theorem dX6_daysLeftOn_1 : decode cX6_daysLeftOn 1 = .ok (.aload_n 0, 1) := by decide +kernel
theorem dX6_daysLeftOn_2 : decode cX6_daysLeftOn 2 = .ok (.invokevirtual 13, 3) := by decide +kernel
theorem dX6_daysLeftOn_5 : decode cX6_daysLeftOn 5 = .ok (.iload_n 1, 1) := by decide +kernel
theorem dX6_daysLeftOn_6 : decode cX6_daysLeftOn 6 = .ok (.isub, 1) := by decide +kernel
theorem dX6_daysLeftOn_7 : decode cX6_daysLeftOn 7 = .ok (.invokestatic 24, 3) := by decide +kernel
theorem dX6_daysLeftOn_10 : decode cX6_daysLeftOn 10 = .ok (.ireturn, 1) := by decide +kernel
theorem dX6_lapseOn_0 : decode cX6_lapseOn 0 = .ok (.aload_n 0, 1) := by decide +kernel
theorem dX6_lapseOn_1 : decode cX6_lapseOn 1 = .ok (.invokevirtual 13, 3) := by decide +kernel
theorem dX6_lapseOn_4 : decode cX6_lapseOn 4 = .ok (.iload_n 1, 1) := by decide +kernel
theorem dX6_lapseOn_5 : decode cX6_lapseOn 5 = .ok (.if_icmp .lt 5, 3) := by decide +kernel
theorem dX6_lapseOn_8 : decode cX6_lapseOn 8 = .ok (.iconst 0, 1) := by decide +kernel
theorem dX6_lapseOn_9 : decode cX6_lapseOn 9 = .ok (.ireturn, 1) := by decide +kernel
theorem dX6_lapseOn_10 : decode cX6_lapseOn 10 = .ok (.aload_n 0, 1) := by decide +kernel
theorem dX6_lapseOn_11 : decode cX6_lapseOn 11 = .ok (.getfield 30, 3) := by decide +kernel
theorem dX6_lapseOn_14 : decode cX6_lapseOn 14 = .ok (.istore_n 2, 1) := by decide +kernel
theorem dX6_lapseOn_15 : decode cX6_lapseOn 15 = .ok (.aload_n 0, 1) := by decide +kernel
theorem dX6_lapseOn_16 : decode cX6_lapseOn 16 = .ok (.iconst 0, 1) := by decide +kernel
theorem dX6_lapseOn_17 : decode cX6_lapseOn 17 = .ok (.putfield 30, 3) := by decide +kernel
theorem dX6_lapseOn_20 : decode cX6_lapseOn 20 = .ok (.iload_n 2, 1) := by decide +kernel
theorem dX6_lapseOn_21 : decode cX6_lapseOn 21 = .ok (.ireturn, 1) := by decide +kernel
theorem dX7_init_0 : decode cX7_init 0 = .ok (.aload_n 0, 1) := by decide +kernel
theorem dX7_init_1 : decode cX7_init 1 = .ok (.iload_n 1, 1) := by decide +kernel
theorem dX7_init_2 : decode cX7_init 2 = .ok (.iload_n 2, 1) := by decide +kernel
theorem dX7_init_3 : decode cX7_init 3 = .ok (.iload_n 3, 1) := by decide +kernel
theorem dX7_init_4 : decode cX7_init 4 = .ok (.invokespecial 3, 3) := by decide +kernel
theorem dX7_init_7 : decode cX7_init 7 = .ok (.aload_n 0, 1) := by decide +kernel
theorem dX7_init_8 : decode cX7_init 8 = .ok (.iconst (-1), 1) := by decide +kernel
theorem dX7_init_9 : decode cX7_init 9 = .ok (.putfield 11, 3) := by decide +kernel
theorem dX7_init_12 : decode cX7_init 12 = .ok (.return_, 1) := by decide +kernel
theorem dX7_lastDay_0 : decode cX7_lastDay 0 = .ok (.aload_n 0, 1) := by decide +kernel
theorem dX7_lastDay_1 : decode cX7_lastDay 1 = .ok (.getfield 17, 3) := by decide +kernel
theorem dX7_lastDay_4 : decode cX7_lastDay 4 = .ok (.bipush 30, 2) := by decide +kernel
theorem dX7_lastDay_6 : decode cX7_lastDay 6 = .ok (.iadd, 1) := by decide +kernel
theorem dX7_lastDay_7 : decode cX7_lastDay 7 = .ok (.ireturn, 1) := by decide +kernel
theorem dX7_valueOn_0 : decode cX7_valueOn 0 = .ok (.aload_n 0, 1) := by decide +kernel
theorem dX7_valueOn_1 : decode cX7_valueOn 1 = .ok (.iload_n 1, 1) := by decide +kernel
theorem dX7_valueOn_2 : decode cX7_valueOn 2 = .ok (.invokespecial 20, 3) := by decide +kernel
theorem dX7_valueOn_5 : decode cX7_valueOn 5 = .ok (.istore_n 2, 1) := by decide +kernel
theorem dX7_valueOn_6 : decode cX7_valueOn 6 = .ok (.iload_n 2, 1) := by decide +kernel
theorem dX7_valueOn_7 : decode cX7_valueOn 7 = .ok (.iload_n 2, 1) := by decide +kernel
theorem dX7_valueOn_8 : decode cX7_valueOn 8 = .ok (.bipush 10, 2) := by decide +kernel
theorem dX7_valueOn_10 : decode cX7_valueOn 10 = .ok (.idiv, 1) := by decide +kernel
theorem dX7_valueOn_11 : decode cX7_valueOn 11 = .ok (.isub, 1) := by decide +kernel
theorem dX7_valueOn_12 : decode cX7_valueOn 12 = .ok (.ireturn, 1) := by decide +kernel
theorem dX7_feeOf_0 : decode cX7_feeOf 0 = .ok (.aload_n 0, 1) := by decide +kernel
theorem dX7_feeOf_1 : decode cX7_feeOf 1 = .ok (.iload_n 1, 1) := by decide +kernel
theorem dX7_feeOf_2 : decode cX7_feeOf 2 = .ok (.invokespecial 24, 3) := by decide +kernel
theorem dX7_feeOf_5 : decode cX7_feeOf 5 = .ok (.iconst 2, 1) := by decide +kernel
theorem dX7_feeOf_6 : decode cX7_feeOf 6 = .ok (.idiv, 1) := by decide +kernel
theorem dX7_feeOf_7 : decode cX7_feeOf 7 = .ok (.ireturn, 1) := by decide +kernel
theorem dX7_spendOn_0 : decode cX7_spendOn 0 = .ok (.aload_n 0, 1) := by decide +kernel
theorem dX7_spendOn_1 : decode cX7_spendOn 1 = .ok (.getfield 11, 3) := by decide +kernel
theorem dX7_spendOn_4 : decode cX7_spendOn 4 = .ok (.iload_n 1, 1) := by decide +kernel
theorem dX7_spendOn_5 : decode cX7_spendOn 5 = .ok (.if_icmp .ne 6, 3) := by decide +kernel
theorem dX7_spendOn_8 : decode cX7_spendOn 8 = .ok (.bipush (-6), 2) := by decide +kernel
theorem dX7_spendOn_10 : decode cX7_spendOn 10 = .ok (.ireturn, 1) := by decide +kernel
theorem dX7_spendOn_11 : decode cX7_spendOn 11 = .ok (.aload_n 0, 1) := by decide +kernel
theorem dX7_spendOn_12 : decode cX7_spendOn 12 = .ok (.iload_n 1, 1) := by decide +kernel
theorem dX7_spendOn_13 : decode cX7_spendOn 13 = .ok (.iload_n 2, 1) := by decide +kernel
theorem dX7_spendOn_14 : decode cX7_spendOn 14 = .ok (.invokespecial 27, 3) := by decide +kernel
theorem dX7_spendOn_17 : decode cX7_spendOn 17 = .ok (.istore_n 3, 1) := by decide +kernel
theorem dX7_spendOn_18 : decode cX7_spendOn 18 = .ok (.iload_n 3, 1) := by decide +kernel
theorem dX7_spendOn_19 : decode cX7_spendOn 19 = .ok (.ifCond .lt 8, 3) := by decide +kernel
theorem dX7_spendOn_22 : decode cX7_spendOn 22 = .ok (.aload_n 0, 1) := by decide +kernel
theorem dX7_spendOn_23 : decode cX7_spendOn 23 = .ok (.iload_n 1, 1) := by decide +kernel
theorem dX7_spendOn_24 : decode cX7_spendOn 24 = .ok (.putfield 11, 3) := by decide +kernel
theorem dX7_spendOn_27 : decode cX7_spendOn 27 = .ok (.iload_n 3, 1) := by decide +kernel
theorem dX7_spendOn_28 : decode cX7_spendOn 28 = .ok (.ireturn, 1) := by decide +kernel
theorem dX7_lastSpent_0 : decode cX7_lastSpent 0 = .ok (.aload_n 0, 1) := by decide +kernel
theorem dX7_lastSpent_1 : decode cX7_lastSpent 1 = .ok (.getfield 11, 3) := by decide +kernel
theorem dX7_lastSpent_4 : decode cX7_lastSpent 4 = .ok (.ireturn, 1) := by decide +kernel
theorem dX7_takeIn_0 : decode cX7_takeIn 0 = .ok (.aload_n 0, 1) := by decide +kernel
theorem dX7_takeIn_1 : decode cX7_takeIn 1 = .ok (.aload_n 1, 1) := by decide +kernel
theorem dX7_takeIn_2 : decode cX7_takeIn 2 = .ok (.invokespecial 31, 3) := by decide +kernel
theorem dX7_takeIn_5 : decode cX7_takeIn 5 = .ok (.aload_n 0, 1) := by decide +kernel
theorem dX7_takeIn_6 : decode cX7_takeIn 6 = .ok (.aload_n 0, 1) := by decide +kernel
theorem dX7_takeIn_7 : decode cX7_takeIn 7 = .ok (.getfield 11, 3) := by decide +kernel
theorem dX7_takeIn_10 : decode cX7_takeIn 10 = .ok (.aload_n 1, 1) := by decide +kernel
theorem dX7_takeIn_11 : decode cX7_takeIn 11 = .ok (.invokevirtual 35, 3) := by decide +kernel
theorem dX7_takeIn_14 : decode cX7_takeIn 14 = .ok (.invokestatic 38, 3) := by decide +kernel
theorem dX7_takeIn_17 : decode cX7_takeIn 17 = .ok (.putfield 11, 3) := by decide +kernel
theorem dX7_takeIn_20 : decode cX7_takeIn 20 = .ok (.return_, 1) := by decide +kernel
theorem dX8_init_0 : decode cX8_init 0 = .ok (.aload_n 0, 1) := by decide +kernel
theorem dX8_init_1 : decode cX8_init 1 = .ok (.invokespecial 1, 3) := by decide +kernel
theorem dX8_init_4 : decode cX8_init 4 = .ok (.aload_n 0, 1) := by decide +kernel
theorem dX8_init_5 : decode cX8_init 5 = .ok (.bipush 40, 2) := by decide +kernel
theorem dX8_init_7 : decode cX8_init 7 = .ok (.anewarray 9, 3) := by decide +kernel
theorem dX8_init_10 : decode cX8_init 10 = .ok (.putfield 11, 3) := by decide +kernel
theorem dX8_init_13 : decode cX8_init 13 = .ok (.aload_n 0, 1) := by decide +kernel
theorem dX8_init_14 : decode cX8_init 14 = .ok (.iconst 0, 1) := by decide +kernel
theorem dX8_init_15 : decode cX8_init 15 = .ok (.putfield 15, 3) := by decide +kernel
theorem dX8_init_18 : decode cX8_init 18 = .ok (.aload_n 0, 1) := by decide +kernel
theorem dX8_init_19 : decode cX8_init 19 = .ok (.iconst 0, 1) := by decide +kernel
theorem dX8_init_20 : decode cX8_init 20 = .ok (.putfield 19, 3) := by decide +kernel
theorem dX8_init_23 : decode cX8_init 23 = .ok (.aload_n 0, 1) := by decide +kernel
theorem dX8_init_24 : decode cX8_init 24 = .ok (.iconst 0, 1) := by decide +kernel
theorem dX8_init_25 : decode cX8_init 25 = .ok (.putfield 22, 3) := by decide +kernel
theorem dX8_init_28 : decode cX8_init 28 = .ok (.aload_n 0, 1) := by decide +kernel
theorem dX8_init_29 : decode cX8_init 29 = .ok (.iconst 0, 1) := by decide +kernel
theorem dX8_init_30 : decode cX8_init 30 = .ok (.putfield 25, 3) := by decide +kernel
theorem dX8_init_33 : decode cX8_init 33 = .ok (.aload_n 0, 1) := by decide +kernel
theorem dX8_init_34 : decode cX8_init 34 = .ok (.iconst 0, 1) := by decide +kernel
theorem dX8_init_35 : decode cX8_init 35 = .ok (.putfield 28, 3) := by decide +kernel
theorem dX8_init_38 : decode cX8_init 38 = .ok (.aload_n 0, 1) := by decide +kernel
theorem dX8_init_39 : decode cX8_init 39 = .ok (.iconst 0, 1) := by decide +kernel
theorem dX8_init_40 : decode cX8_init 40 = .ok (.putfield 31, 3) := by decide +kernel
theorem dX8_init_43 : decode cX8_init 43 = .ok (.return_, 1) := by decide +kernel
theorem dX8_issue_0 : decode cX8_issue 0 = .ok (.iload_n 1, 1) := by decide +kernel
theorem dX8_issue_1 : decode cX8_issue 1 = .ok (.iconst 0, 1) := by decide +kernel
theorem dX8_issue_2 : decode cX8_issue 2 = .ok (.bipush 7, 2) := by decide +kernel
theorem dX8_issue_4 : decode cX8_issue 4 = .ok (.invokestatic 34, 3) := by decide +kernel
theorem dX8_issue_7 : decode cX8_issue 7 = .ok (.ifCond .ne 13, 3) := by decide +kernel
theorem dX8_issue_10 : decode cX8_issue 10 = .ok (.iload_n 2, 1) := by decide +kernel
theorem dX8_issue_11 : decode cX8_issue 11 = .ok (.iconst 1, 1) := by decide +kernel
theorem dX8_issue_12 : decode cX8_issue 12 = .ok (.ldc 38, 2) := by decide +kernel
theorem dX8_issue_14 : decode cX8_issue 14 = .ok (.invokestatic 34, 3) := by decide +kernel
theorem dX8_issue_17 : decode cX8_issue 17 = .ok (.ifCond .eq 6, 3) := by decide +kernel
theorem dX8_issue_20 : decode cX8_issue 20 = .ok (.bipush (-2), 2) := by decide +kernel
theorem dX8_issue_22 : decode cX8_issue 22 = .ok (.ireturn, 1) := by decide +kernel
theorem dX8_issue_23 : decode cX8_issue 23 = .ok (.aload_n 0, 1) := by decide +kernel
theorem dX8_issue_24 : decode cX8_issue 24 = .ok (.getfield 15, 3) := by decide +kernel
theorem dX8_issue_27 : decode cX8_issue 27 = .ok (.bipush 40, 2) := by decide +kernel
theorem dX8_issue_29 : decode cX8_issue 29 = .ok (.if_icmp .lt 6, 3) := by decide +kernel
theorem dX8_issue_32 : decode cX8_issue 32 = .ok (.bipush (-4), 2) := by decide +kernel
theorem dX8_issue_34 : decode cX8_issue 34 = .ok (.ireturn, 1) := by decide +kernel
theorem dX8_issue_35 : decode cX8_issue 35 = .ok (.aload_n 0, 1) := by decide +kernel
theorem dX8_issue_36 : decode cX8_issue 36 = .ok (.getfield 15, 3) := by decide +kernel
theorem dX8_issue_39 : decode cX8_issue 39 = .ok (.istore_n 3, 1) := by decide +kernel
theorem dX8_issue_40 : decode cX8_issue 40 = .ok (.aload_n 0, 1) := by decide +kernel
theorem dX8_issue_41 : decode cX8_issue 41 = .ok (.getfield 11, 3) := by decide +kernel
theorem dX8_issue_44 : decode cX8_issue 44 = .ok (.iload_n 3, 1) := by decide +kernel
theorem dX8_issue_45 : decode cX8_issue 45 = .ok (.iload_n 1, 1) := by decide +kernel
theorem dX8_issue_46 : decode cX8_issue 46 = .ok (.iload_n 2, 1) := by decide +kernel
theorem dX8_issue_47 : decode cX8_issue 47 = .ok (.aload_n 0, 1) := by decide +kernel
theorem dX8_issue_48 : decode cX8_issue 48 = .ok (.getfield 19, 3) := by decide +kernel
theorem dX8_issue_51 : decode cX8_issue 51 = .ok (.invokestatic 39, 3) := by decide +kernel
theorem dX8_issue_54 : decode cX8_issue 54 = .ok (.aastore, 1) := by decide +kernel
theorem dX8_issue_55 : decode cX8_issue 55 = .ok (.aload_n 0, 1) := by decide +kernel
theorem dX8_issue_56 : decode cX8_issue 56 = .ok (.iload_n 3, 1) := by decide +kernel
theorem dX8_issue_57 : decode cX8_issue 57 = .ok (.iconst 1, 1) := by decide +kernel
theorem dX8_issue_58 : decode cX8_issue 58 = .ok (.iadd, 1) := by decide +kernel
theorem dX8_issue_59 : decode cX8_issue 59 = .ok (.putfield 15, 3) := by decide +kernel
theorem dX8_issue_62 : decode cX8_issue 62 = .ok (.aload_n 0, 1) := by decide +kernel
theorem dX8_issue_63 : decode cX8_issue 63 = .ok (.dup, 1) := by decide +kernel
theorem dX8_issue_64 : decode cX8_issue 64 = .ok (.getfield 22, 3) := by decide +kernel
theorem dX8_issue_67 : decode cX8_issue 67 = .ok (.iload_n 2, 1) := by decide +kernel
theorem dX8_issue_68 : decode cX8_issue 68 = .ok (.iadd, 1) := by decide +kernel
theorem dX8_issue_69 : decode cX8_issue 69 = .ok (.putfield 22, 3) := by decide +kernel
theorem dX8_issue_72 : decode cX8_issue 72 = .ok (.iload_n 3, 1) := by decide +kernel
theorem dX8_issue_73 : decode cX8_issue 73 = .ok (.ireturn, 1) := by decide +kernel
theorem dX8_pass_0 : decode cX8_pass 0 = .ok (.iload_n 1, 1) := by decide +kernel
theorem dX8_pass_1 : decode cX8_pass 1 = .ok (.iconst 1, 1) := by decide +kernel
theorem dX8_pass_2 : decode cX8_pass 2 = .ok (.sipush 1000, 3) := by decide +kernel
theorem dX8_pass_5 : decode cX8_pass 5 = .ok (.invokestatic 34, 3) := by decide +kernel
theorem dX8_pass_8 : decode cX8_pass 8 = .ok (.ifCond .eq 6, 3) := by decide +kernel
theorem dX8_pass_11 : decode cX8_pass 11 = .ok (.bipush (-2), 2) := by decide +kernel
theorem dX8_pass_13 : decode cX8_pass 13 = .ok (.ireturn, 1) := by decide +kernel
theorem dX8_pass_14 : decode cX8_pass 14 = .ok (.aload_n 0, 1) := by decide +kernel
theorem dX8_pass_15 : decode cX8_pass 15 = .ok (.getfield 19, 3) := by decide +kernel
theorem dX8_pass_18 : decode cX8_pass 18 = .ok (.iload_n 1, 1) := by decide +kernel
theorem dX8_pass_19 : decode cX8_pass 19 = .ok (.iadd, 1) := by decide +kernel
theorem dX8_pass_20 : decode cX8_pass 20 = .ok (.sipush 20000, 3) := by decide +kernel
theorem dX8_pass_23 : decode cX8_pass 23 = .ok (.if_icmp .le 6, 3) := by decide +kernel
theorem dX8_pass_26 : decode cX8_pass 26 = .ok (.bipush (-4), 2) := by decide +kernel
theorem dX8_pass_28 : decode cX8_pass 28 = .ok (.ireturn, 1) := by decide +kernel
theorem dX8_pass_29 : decode cX8_pass 29 = .ok (.aload_n 0, 1) := by decide +kernel
theorem dX8_pass_30 : decode cX8_pass 30 = .ok (.dup, 1) := by decide +kernel
theorem dX8_pass_31 : decode cX8_pass 31 = .ok (.getfield 19, 3) := by decide +kernel
theorem dX8_pass_34 : decode cX8_pass 34 = .ok (.iload_n 1, 1) := by decide +kernel
theorem dX8_pass_35 : decode cX8_pass 35 = .ok (.iadd, 1) := by decide +kernel
theorem dX8_pass_36 : decode cX8_pass 36 = .ok (.putfield 19, 3) := by decide +kernel
theorem dX8_pass_39 : decode cX8_pass 39 = .ok (.aload_n 0, 1) := by decide +kernel
theorem dX8_pass_40 : decode cX8_pass 40 = .ok (.getfield 19, 3) := by decide +kernel
theorem dX8_pass_43 : decode cX8_pass 43 = .ok (.ireturn, 1) := by decide +kernel
theorem dX8_value_0 : decode cX8_value 0 = .ok (.aload_n 0, 1) := by decide +kernel
theorem dX8_value_1 : decode cX8_value 1 = .ok (.iload_n 1, 1) := by decide +kernel
theorem dX8_value_2 : decode cX8_value 2 = .ok (.invokevirtual 43, 3) := by decide +kernel
theorem dX8_value_5 : decode cX8_value 5 = .ok (.astore_n 3, 1) := by decide +kernel
theorem dX8_value_6 : decode cX8_value 6 = .ok (.aload_n 3, 1) := by decide +kernel
theorem dX8_value_7 : decode cX8_value 7 = .ok (.ifnonnull 5, 3) := by decide +kernel
theorem dX8_value_10 : decode cX8_value 10 = .ok (.iconst (-1), 1) := by decide +kernel
theorem dX8_value_11 : decode cX8_value 11 = .ok (.ireturn, 1) := by decide +kernel
theorem dX8_value_12 : decode cX8_value 12 = .ok (.iload_n 2, 1) := by decide +kernel
theorem dX8_value_13 : decode cX8_value 13 = .ok (.iconst 0, 1) := by decide +kernel
theorem dX8_value_14 : decode cX8_value 14 = .ok (.sipush 20000, 3) := by decide +kernel
theorem dX8_value_17 : decode cX8_value 17 = .ok (.invokestatic 34, 3) := by decide +kernel
theorem dX8_value_20 : decode cX8_value 20 = .ok (.ifCond .eq 6, 3) := by decide +kernel
theorem dX8_value_23 : decode cX8_value 23 = .ok (.bipush (-2), 2) := by decide +kernel
theorem dX8_value_25 : decode cX8_value 25 = .ok (.ireturn, 1) := by decide +kernel
theorem dX8_value_26 : decode cX8_value 26 = .ok (.aload_n 3, 1) := by decide +kernel
theorem dX8_value_27 : decode cX8_value 27 = .ok (.iload_n 2, 1) := by decide +kernel
theorem dX8_value_28 : decode cX8_value 28 = .ok (.invokevirtual 47, 3) := by decide +kernel
theorem dX8_value_31 : decode cX8_value 31 = .ok (.ireturn, 1) := by decide +kernel
theorem dX8_fee_0 : decode cX8_fee 0 = .ok (.aload_n 0, 1) := by decide +kernel
theorem dX8_fee_1 : decode cX8_fee 1 = .ok (.iload_n 1, 1) := by decide +kernel
theorem dX8_fee_2 : decode cX8_fee 2 = .ok (.invokevirtual 43, 3) := by decide +kernel
theorem dX8_fee_5 : decode cX8_fee 5 = .ok (.astore_n 3, 1) := by decide +kernel
theorem dX8_fee_6 : decode cX8_fee 6 = .ok (.aload_n 3, 1) := by decide +kernel
theorem dX8_fee_7 : decode cX8_fee 7 = .ok (.ifnonnull 5, 3) := by decide +kernel
theorem dX8_fee_10 : decode cX8_fee 10 = .ok (.iconst (-1), 1) := by decide +kernel
theorem dX8_fee_11 : decode cX8_fee 11 = .ok (.ireturn, 1) := by decide +kernel
theorem dX8_fee_12 : decode cX8_fee 12 = .ok (.iload_n 2, 1) := by decide +kernel
theorem dX8_fee_13 : decode cX8_fee 13 = .ok (.iconst 1, 1) := by decide +kernel
theorem dX8_fee_14 : decode cX8_fee 14 = .ok (.ldc 38, 2) := by decide +kernel
theorem dX8_fee_16 : decode cX8_fee 16 = .ok (.invokestatic 34, 3) := by decide +kernel
theorem dX8_fee_19 : decode cX8_fee 19 = .ok (.ifCond .eq 6, 3) := by decide +kernel
theorem dX8_fee_22 : decode cX8_fee 22 = .ok (.bipush (-2), 2) := by decide +kernel
theorem dX8_fee_24 : decode cX8_fee 24 = .ok (.ireturn, 1) := by decide +kernel
theorem dX8_fee_25 : decode cX8_fee 25 = .ok (.aload_n 3, 1) := by decide +kernel
theorem dX8_fee_26 : decode cX8_fee 26 = .ok (.iload_n 2, 1) := by decide +kernel
theorem dX8_fee_27 : decode cX8_fee 27 = .ok (.invokevirtual 51, 3) := by decide +kernel
theorem dX8_fee_30 : decode cX8_fee 30 = .ok (.ireturn, 1) := by decide +kernel
theorem dX8_spend_0 : decode cX8_spend 0 = .ok (.aload_n 0, 1) := by decide +kernel
theorem dX8_spend_1 : decode cX8_spend 1 = .ok (.iload_n 1, 1) := by decide +kernel
theorem dX8_spend_2 : decode cX8_spend 2 = .ok (.invokevirtual 43, 3) := by decide +kernel
theorem dX8_spend_5 : decode cX8_spend 5 = .ok (.astore_n 3, 1) := by decide +kernel
theorem dX8_spend_6 : decode cX8_spend 6 = .ok (.aload_n 3, 1) := by decide +kernel
theorem dX8_spend_7 : decode cX8_spend 7 = .ok (.ifnonnull 5, 3) := by decide +kernel
theorem dX8_spend_10 : decode cX8_spend 10 = .ok (.iconst (-1), 1) := by decide +kernel
theorem dX8_spend_11 : decode cX8_spend 11 = .ok (.ireturn, 1) := by decide +kernel
theorem dX8_spend_12 : decode cX8_spend 12 = .ok (.iload_n 2, 1) := by decide +kernel
theorem dX8_spend_13 : decode cX8_spend 13 = .ok (.iconst 1, 1) := by decide +kernel
theorem dX8_spend_14 : decode cX8_spend 14 = .ok (.ldc 38, 2) := by decide +kernel
theorem dX8_spend_16 : decode cX8_spend 16 = .ok (.invokestatic 34, 3) := by decide +kernel
theorem dX8_spend_19 : decode cX8_spend 19 = .ok (.ifCond .eq 6, 3) := by decide +kernel
theorem dX8_spend_22 : decode cX8_spend 22 = .ok (.bipush (-2), 2) := by decide +kernel
theorem dX8_spend_24 : decode cX8_spend 24 = .ok (.ireturn, 1) := by decide +kernel
theorem dX8_spend_25 : decode cX8_spend 25 = .ok (.aload_n 3, 1) := by decide +kernel
theorem dX8_spend_26 : decode cX8_spend 26 = .ok (.iload_n 2, 1) := by decide +kernel
theorem dX8_spend_27 : decode cX8_spend 27 = .ok (.invokevirtual 51, 3) := by decide +kernel
theorem dX8_spend_30 : decode cX8_spend 30 = .ok (.istore 4, 2) := by decide +kernel
theorem dX8_spend_32 : decode cX8_spend 32 = .ok (.aload_n 3, 1) := by decide +kernel
theorem dX8_spend_33 : decode cX8_spend 33 = .ok (.aload_n 0, 1) := by decide +kernel
theorem dX8_spend_34 : decode cX8_spend 34 = .ok (.getfield 19, 3) := by decide +kernel
theorem dX8_spend_37 : decode cX8_spend 37 = .ok (.iload_n 2, 1) := by decide +kernel
theorem dX8_spend_38 : decode cX8_spend 38 = .ok (.invokevirtual 54, 3) := by decide +kernel
theorem dX8_spend_41 : decode cX8_spend 41 = .ok (.istore 5, 2) := by decide +kernel
theorem dX8_spend_43 : decode cX8_spend 43 = .ok (.iload 5, 2) := by decide +kernel
theorem dX8_spend_45 : decode cX8_spend 45 = .ok (.ifCond .lt 24, 3) := by decide +kernel
theorem dX8_spend_48 : decode cX8_spend 48 = .ok (.aload_n 0, 1) := by decide +kernel
theorem dX8_spend_49 : decode cX8_spend 49 = .ok (.dup, 1) := by decide +kernel
theorem dX8_spend_50 : decode cX8_spend 50 = .ok (.getfield 25, 3) := by decide +kernel
theorem dX8_spend_53 : decode cX8_spend 53 = .ok (.iload_n 2, 1) := by decide +kernel
theorem dX8_spend_54 : decode cX8_spend 54 = .ok (.iadd, 1) := by decide +kernel
theorem dX8_spend_55 : decode cX8_spend 55 = .ok (.putfield 25, 3) := by decide +kernel
theorem dX8_spend_58 : decode cX8_spend 58 = .ok (.aload_n 0, 1) := by decide +kernel
theorem dX8_spend_59 : decode cX8_spend 59 = .ok (.dup, 1) := by decide +kernel
theorem dX8_spend_60 : decode cX8_spend 60 = .ok (.getfield 28, 3) := by decide +kernel
theorem dX8_spend_63 : decode cX8_spend 63 = .ok (.iload 4, 2) := by decide +kernel
theorem dX8_spend_65 : decode cX8_spend 65 = .ok (.iadd, 1) := by decide +kernel
theorem dX8_spend_66 : decode cX8_spend 66 = .ok (.putfield 28, 3) := by decide +kernel
theorem dX8_spend_69 : decode cX8_spend 69 = .ok (.iload 5, 2) := by decide +kernel
theorem dX8_spend_71 : decode cX8_spend 71 = .ok (.ireturn, 1) := by decide +kernel
theorem dX8_seal_0 : decode cX8_seal 0 = .ok (.aload_n 0, 1) := by decide +kernel
theorem dX8_seal_1 : decode cX8_seal 1 = .ok (.iload_n 1, 1) := by decide +kernel
theorem dX8_seal_2 : decode cX8_seal 2 = .ok (.invokevirtual 43, 3) := by decide +kernel
theorem dX8_seal_5 : decode cX8_seal 5 = .ok (.astore_n 2, 1) := by decide +kernel
theorem dX8_seal_6 : decode cX8_seal 6 = .ok (.aload_n 2, 1) := by decide +kernel
theorem dX8_seal_7 : decode cX8_seal 7 = .ok (.ifnonnull 5, 3) := by decide +kernel
theorem dX8_seal_10 : decode cX8_seal 10 = .ok (.iconst (-1), 1) := by decide +kernel
theorem dX8_seal_11 : decode cX8_seal 11 = .ok (.ireturn, 1) := by decide +kernel
theorem dX8_seal_12 : decode cX8_seal 12 = .ok (.aload_n 2, 1) := by decide +kernel
theorem dX8_seal_13 : decode cX8_seal 13 = .ok (.invokevirtual 58, 3) := by decide +kernel
theorem dX8_seal_16 : decode cX8_seal 16 = .ok (.ireturn, 1) := by decide +kernel
theorem dX8_mark_0 : decode cX8_mark 0 = .ok (.aload_n 0, 1) := by decide +kernel
theorem dX8_mark_1 : decode cX8_mark 1 = .ok (.iload_n 1, 1) := by decide +kernel
theorem dX8_mark_2 : decode cX8_mark 2 = .ok (.invokevirtual 43, 3) := by decide +kernel
theorem dX8_mark_5 : decode cX8_mark 5 = .ok (.astore_n 3, 1) := by decide +kernel
theorem dX8_mark_6 : decode cX8_mark 6 = .ok (.aload_n 3, 1) := by decide +kernel
theorem dX8_mark_7 : decode cX8_mark 7 = .ok (.ifnonnull 5, 3) := by decide +kernel
theorem dX8_mark_10 : decode cX8_mark 10 = .ok (.iconst (-1), 1) := by decide +kernel
theorem dX8_mark_11 : decode cX8_mark 11 = .ok (.ireturn, 1) := by decide +kernel
theorem dX8_mark_12 : decode cX8_mark 12 = .ok (.iload_n 2, 1) := by decide +kernel
theorem dX8_mark_13 : decode cX8_mark 13 = .ok (.iconst 0, 1) := by decide +kernel
theorem dX8_mark_14 : decode cX8_mark 14 = .ok (.sipush 999, 3) := by decide +kernel
theorem dX8_mark_17 : decode cX8_mark 17 = .ok (.invokestatic 34, 3) := by decide +kernel
theorem dX8_mark_20 : decode cX8_mark 20 = .ok (.ifCond .eq 6, 3) := by decide +kernel
theorem dX8_mark_23 : decode cX8_mark 23 = .ok (.bipush (-2), 2) := by decide +kernel
theorem dX8_mark_25 : decode cX8_mark 25 = .ok (.ireturn, 1) := by decide +kernel
theorem dX8_mark_26 : decode cX8_mark 26 = .ok (.aload_n 3, 1) := by decide +kernel
theorem dX8_mark_27 : decode cX8_mark 27 = .ok (.iload_n 2, 1) := by decide +kernel
theorem dX8_mark_28 : decode cX8_mark 28 = .ok (.invokevirtual 62, 3) := by decide +kernel
theorem dX8_mark_31 : decode cX8_mark 31 = .ok (.ireturn, 1) := by decide +kernel
theorem dX8_daysLeft_0 : decode cX8_daysLeft 0 = .ok (.aload_n 0, 1) := by decide +kernel
theorem dX8_daysLeft_1 : decode cX8_daysLeft 1 = .ok (.iload_n 1, 1) := by decide +kernel
theorem dX8_daysLeft_2 : decode cX8_daysLeft 2 = .ok (.invokevirtual 43, 3) := by decide +kernel
theorem dX8_daysLeft_5 : decode cX8_daysLeft 5 = .ok (.astore_n 3, 1) := by decide +kernel
theorem dX8_daysLeft_6 : decode cX8_daysLeft 6 = .ok (.aload_n 3, 1) := by decide +kernel
theorem dX8_daysLeft_7 : decode cX8_daysLeft 7 = .ok (.ifnonnull 5, 3) := by decide +kernel
theorem dX8_daysLeft_10 : decode cX8_daysLeft 10 = .ok (.iconst (-1), 1) := by decide +kernel
theorem dX8_daysLeft_11 : decode cX8_daysLeft 11 = .ok (.ireturn, 1) := by decide +kernel
theorem dX8_daysLeft_12 : decode cX8_daysLeft 12 = .ok (.iload_n 2, 1) := by decide +kernel
theorem dX8_daysLeft_13 : decode cX8_daysLeft 13 = .ok (.iconst 0, 1) := by decide +kernel
theorem dX8_daysLeft_14 : decode cX8_daysLeft 14 = .ok (.sipush 20000, 3) := by decide +kernel
theorem dX8_daysLeft_17 : decode cX8_daysLeft 17 = .ok (.invokestatic 34, 3) := by decide +kernel
theorem dX8_daysLeft_20 : decode cX8_daysLeft 20 = .ok (.ifCond .eq 6, 3) := by decide +kernel
theorem dX8_daysLeft_23 : decode cX8_daysLeft 23 = .ok (.bipush (-2), 2) := by decide +kernel
theorem dX8_daysLeft_25 : decode cX8_daysLeft 25 = .ok (.ireturn, 1) := by decide +kernel
theorem dX8_daysLeft_26 : decode cX8_daysLeft 26 = .ok (.aload_n 3, 1) := by decide +kernel
theorem dX8_daysLeft_27 : decode cX8_daysLeft 27 = .ok (.iload_n 2, 1) := by decide +kernel
theorem dX8_daysLeft_28 : decode cX8_daysLeft 28 = .ok (.invokevirtual 65, 3) := by decide +kernel
theorem dX8_daysLeft_31 : decode cX8_daysLeft 31 = .ok (.ireturn, 1) := by decide +kernel
theorem dX8_lapse_0 : decode cX8_lapse 0 = .ok (.iconst 0, 1) := by decide +kernel
theorem dX8_lapse_1 : decode cX8_lapse 1 = .ok (.istore_n 1, 1) := by decide +kernel
theorem dX8_lapse_2 : decode cX8_lapse 2 = .ok (.iconst 0, 1) := by decide +kernel
theorem dX8_lapse_3 : decode cX8_lapse 3 = .ok (.istore_n 2, 1) := by decide +kernel
theorem dX8_lapse_4 : decode cX8_lapse 4 = .ok (.iload_n 2, 1) := by decide +kernel
theorem dX8_lapse_5 : decode cX8_lapse 5 = .ok (.bipush 40, 2) := by decide +kernel
theorem dX8_lapse_7 : decode cX8_lapse 7 = .ok (.if_icmp .ge 30, 3) := by decide +kernel
theorem dX8_lapse_10 : decode cX8_lapse 10 = .ok (.aload_n 0, 1) := by decide +kernel
theorem dX8_lapse_11 : decode cX8_lapse 11 = .ok (.iload_n 2, 1) := by decide +kernel
theorem dX8_lapse_12 : decode cX8_lapse 12 = .ok (.invokevirtual 43, 3) := by decide +kernel
theorem dX8_lapse_15 : decode cX8_lapse 15 = .ok (.astore_n 3, 1) := by decide +kernel
theorem dX8_lapse_16 : decode cX8_lapse 16 = .ok (.aload_n 3, 1) := by decide +kernel
theorem dX8_lapse_17 : decode cX8_lapse 17 = .ok (.ifnull 14, 3) := by decide +kernel
theorem dX8_lapse_20 : decode cX8_lapse 20 = .ok (.iload_n 1, 1) := by decide +kernel
theorem dX8_lapse_21 : decode cX8_lapse 21 = .ok (.aload_n 3, 1) := by decide +kernel
theorem dX8_lapse_22 : decode cX8_lapse 22 = .ok (.aload_n 0, 1) := by decide +kernel
theorem dX8_lapse_23 : decode cX8_lapse 23 = .ok (.getfield 19, 3) := by decide +kernel
theorem dX8_lapse_26 : decode cX8_lapse 26 = .ok (.invokevirtual 68, 3) := by decide +kernel
theorem dX8_lapse_29 : decode cX8_lapse 29 = .ok (.iadd, 1) := by decide +kernel
theorem dX8_lapse_30 : decode cX8_lapse 30 = .ok (.istore_n 1, 1) := by decide +kernel
theorem dX8_lapse_31 : decode cX8_lapse 31 = .ok (.iinc 2 1, 3) := by decide +kernel
theorem dX8_lapse_34 : decode cX8_lapse 34 = .ok (.goto (-30), 3) := by decide +kernel
theorem dX8_lapse_37 : decode cX8_lapse 37 = .ok (.aload_n 0, 1) := by decide +kernel
theorem dX8_lapse_38 : decode cX8_lapse 38 = .ok (.dup, 1) := by decide +kernel
theorem dX8_lapse_39 : decode cX8_lapse 39 = .ok (.getfield 31, 3) := by decide +kernel
theorem dX8_lapse_42 : decode cX8_lapse 42 = .ok (.iload_n 1, 1) := by decide +kernel
theorem dX8_lapse_43 : decode cX8_lapse 43 = .ok (.iadd, 1) := by decide +kernel
theorem dX8_lapse_44 : decode cX8_lapse 44 = .ok (.putfield 31, 3) := by decide +kernel
theorem dX8_lapse_47 : decode cX8_lapse 47 = .ok (.iload_n 1, 1) := by decide +kernel
theorem dX8_lapse_48 : decode cX8_lapse 48 = .ok (.ireturn, 1) := by decide +kernel
theorem dX8_merge_0 : decode cX8_merge 0 = .ok (.aload_n 0, 1) := by decide +kernel
theorem dX8_merge_1 : decode cX8_merge 1 = .ok (.iload_n 1, 1) := by decide +kernel
theorem dX8_merge_2 : decode cX8_merge 2 = .ok (.invokevirtual 43, 3) := by decide +kernel
theorem dX8_merge_5 : decode cX8_merge 5 = .ok (.astore_n 3, 1) := by decide +kernel
theorem dX8_merge_6 : decode cX8_merge 6 = .ok (.aload_n 0, 1) := by decide +kernel
theorem dX8_merge_7 : decode cX8_merge 7 = .ok (.iload_n 2, 1) := by decide +kernel
theorem dX8_merge_8 : decode cX8_merge 8 = .ok (.invokevirtual 43, 3) := by decide +kernel
theorem dX8_merge_11 : decode cX8_merge 11 = .ok (.astore 4, 2) := by decide +kernel
theorem dX8_merge_13 : decode cX8_merge 13 = .ok (.aload_n 3, 1) := by decide +kernel
theorem dX8_merge_14 : decode cX8_merge 14 = .ok (.ifnull 8, 3) := by decide +kernel
theorem dX8_merge_17 : decode cX8_merge 17 = .ok (.aload 4, 2) := by decide +kernel
theorem dX8_merge_19 : decode cX8_merge 19 = .ok (.ifnonnull 5, 3) := by decide +kernel
theorem dX8_merge_22 : decode cX8_merge 22 = .ok (.iconst (-1), 1) := by decide +kernel
theorem dX8_merge_23 : decode cX8_merge 23 = .ok (.ireturn, 1) := by decide +kernel
theorem dX8_merge_24 : decode cX8_merge 24 = .ok (.iload_n 1, 1) := by decide +kernel
theorem dX8_merge_25 : decode cX8_merge 25 = .ok (.iload_n 2, 1) := by decide +kernel
theorem dX8_merge_26 : decode cX8_merge 26 = .ok (.if_icmp .ne 6, 3) := by decide +kernel
theorem dX8_merge_29 : decode cX8_merge 29 = .ok (.bipush (-2), 2) := by decide +kernel
theorem dX8_merge_31 : decode cX8_merge 31 = .ok (.ireturn, 1) := by decide +kernel
theorem dX8_merge_32 : decode cX8_merge 32 = .ok (.aload_n 3, 1) := by decide +kernel
theorem dX8_merge_33 : decode cX8_merge 33 = .ok (.getfield 71, 3) := by decide +kernel
theorem dX8_merge_36 : decode cX8_merge 36 = .ok (.aload 4, 2) := by decide +kernel
theorem dX8_merge_38 : decode cX8_merge 38 = .ok (.getfield 71, 3) := by decide +kernel
theorem dX8_merge_41 : decode cX8_merge 41 = .ok (.if_icmp .eq 6, 3) := by decide +kernel
theorem dX8_merge_44 : decode cX8_merge 44 = .ok (.bipush (-3), 2) := by decide +kernel
theorem dX8_merge_46 : decode cX8_merge 46 = .ok (.ireturn, 1) := by decide +kernel
theorem dX8_merge_47 : decode cX8_merge 47 = .ok (.aload_n 3, 1) := by decide +kernel
theorem dX8_merge_48 : decode cX8_merge 48 = .ok (.getfield 74, 3) := by decide +kernel
theorem dX8_merge_51 : decode cX8_merge 51 = .ok (.aload 4, 2) := by decide +kernel
theorem dX8_merge_53 : decode cX8_merge 53 = .ok (.getfield 74, 3) := by decide +kernel
theorem dX8_merge_56 : decode cX8_merge 56 = .ok (.iadd, 1) := by decide +kernel
theorem dX8_merge_57 : decode cX8_merge 57 = .ok (.ldc 38, 2) := by decide +kernel
theorem dX8_merge_59 : decode cX8_merge 59 = .ok (.if_icmp .le 6, 3) := by decide +kernel
theorem dX8_merge_62 : decode cX8_merge 62 = .ok (.bipush (-4), 2) := by decide +kernel
theorem dX8_merge_64 : decode cX8_merge 64 = .ok (.ireturn, 1) := by decide +kernel
theorem dX8_merge_65 : decode cX8_merge 65 = .ok (.aload_n 3, 1) := by decide +kernel
theorem dX8_merge_66 : decode cX8_merge 66 = .ok (.aload 4, 2) := by decide +kernel
theorem dX8_merge_68 : decode cX8_merge 68 = .ok (.invokevirtual 77, 3) := by decide +kernel
theorem dX8_merge_71 : decode cX8_merge 71 = .ok (.aload_n 0, 1) := by decide +kernel
theorem dX8_merge_72 : decode cX8_merge 72 = .ok (.getfield 11, 3) := by decide +kernel
theorem dX8_merge_75 : decode cX8_merge 75 = .ok (.iload_n 2, 1) := by decide +kernel
theorem dX8_merge_76 : decode cX8_merge 76 = .ok (.aconst_null, 1) := by decide +kernel
theorem dX8_merge_77 : decode cX8_merge 77 = .ok (.aastore, 1) := by decide +kernel
theorem dX8_merge_78 : decode cX8_merge 78 = .ok (.aload_n 3, 1) := by decide +kernel
theorem dX8_merge_79 : decode cX8_merge 79 = .ok (.getfield 74, 3) := by decide +kernel
theorem dX8_merge_82 : decode cX8_merge 82 = .ok (.ireturn, 1) := by decide +kernel
theorem dX8_total_0 : decode cX8_total 0 = .ok (.iload_n 1, 1) := by decide +kernel
theorem dX8_total_1 : decode cX8_total 1 = .ok (.iconst 0, 1) := by decide +kernel
theorem dX8_total_2 : decode cX8_total 2 = .ok (.sipush 20000, 3) := by decide +kernel
theorem dX8_total_5 : decode cX8_total 5 = .ok (.invokestatic 34, 3) := by decide +kernel
theorem dX8_total_8 : decode cX8_total 8 = .ok (.ifCond .eq 6, 3) := by decide +kernel
theorem dX8_total_11 : decode cX8_total 11 = .ok (.bipush (-2), 2) := by decide +kernel
theorem dX8_total_13 : decode cX8_total 13 = .ok (.ireturn, 1) := by decide +kernel
theorem dX8_total_14 : decode cX8_total 14 = .ok (.iconst 0, 1) := by decide +kernel
theorem dX8_total_15 : decode cX8_total 15 = .ok (.istore_n 2, 1) := by decide +kernel
theorem dX8_total_16 : decode cX8_total 16 = .ok (.iconst 0, 1) := by decide +kernel
theorem dX8_total_17 : decode cX8_total 17 = .ok (.istore_n 3, 1) := by decide +kernel
theorem dX8_total_18 : decode cX8_total 18 = .ok (.iload_n 3, 1) := by decide +kernel
theorem dX8_total_19 : decode cX8_total 19 = .ok (.bipush 40, 2) := by decide +kernel
theorem dX8_total_21 : decode cX8_total 21 = .ok (.if_icmp .ge 30, 3) := by decide +kernel
theorem dX8_total_24 : decode cX8_total 24 = .ok (.aload_n 0, 1) := by decide +kernel
theorem dX8_total_25 : decode cX8_total 25 = .ok (.iload_n 3, 1) := by decide +kernel
theorem dX8_total_26 : decode cX8_total 26 = .ok (.invokevirtual 43, 3) := by decide +kernel
theorem dX8_total_29 : decode cX8_total 29 = .ok (.astore 4, 2) := by decide +kernel
theorem dX8_total_31 : decode cX8_total 31 = .ok (.aload 4, 2) := by decide +kernel
theorem dX8_total_33 : decode cX8_total 33 = .ok (.ifnull 12, 3) := by decide +kernel
theorem dX8_total_36 : decode cX8_total 36 = .ok (.iload_n 2, 1) := by decide +kernel
theorem dX8_total_37 : decode cX8_total 37 = .ok (.aload 4, 2) := by decide +kernel
theorem dX8_total_39 : decode cX8_total 39 = .ok (.iload_n 1, 1) := by decide +kernel
theorem dX8_total_40 : decode cX8_total 40 = .ok (.invokevirtual 47, 3) := by decide +kernel
theorem dX8_total_43 : decode cX8_total 43 = .ok (.iadd, 1) := by decide +kernel
theorem dX8_total_44 : decode cX8_total 44 = .ok (.istore_n 2, 1) := by decide +kernel
theorem dX8_total_45 : decode cX8_total 45 = .ok (.iinc 3 1, 3) := by decide +kernel
theorem dX8_total_48 : decode cX8_total 48 = .ok (.goto (-30), 3) := by decide +kernel
theorem dX8_total_51 : decode cX8_total 51 = .ok (.iload_n 2, 1) := by decide +kernel
theorem dX8_total_52 : decode cX8_total 52 = .ok (.ireturn, 1) := by decide +kernel
theorem dX8_paper_0 : decode cX8_paper 0 = .ok (.aload_n 0, 1) := by decide +kernel
theorem dX8_paper_1 : decode cX8_paper 1 = .ok (.iload_n 1, 1) := by decide +kernel
theorem dX8_paper_2 : decode cX8_paper 2 = .ok (.invokevirtual 43, 3) := by decide +kernel
theorem dX8_paper_5 : decode cX8_paper 5 = .ok (.astore_n 3, 1) := by decide +kernel
theorem dX8_paper_6 : decode cX8_paper 6 = .ok (.aload_n 3, 1) := by decide +kernel
theorem dX8_paper_7 : decode cX8_paper 7 = .ok (.ifnonnull 5, 3) := by decide +kernel
theorem dX8_paper_10 : decode cX8_paper 10 = .ok (.iconst (-1), 1) := by decide +kernel
theorem dX8_paper_11 : decode cX8_paper 11 = .ok (.ireturn, 1) := by decide +kernel
theorem dX8_paper_12 : decode cX8_paper 12 = .ok (.iload_n 2, 1) := by decide +kernel
theorem dX8_paper_13 : decode cX8_paper 13 = .ok (.tableswitch 69 0 5 #[39, 44, 49, 54, 59, 64], 39) := by decide +kernel
theorem dX8_paper_52 : decode cX8_paper 52 = .ok (.aload_n 3, 1) := by decide +kernel
theorem dX8_paper_53 : decode cX8_paper 53 = .ok (.getfield 71, 3) := by decide +kernel
theorem dX8_paper_56 : decode cX8_paper 56 = .ok (.ireturn, 1) := by decide +kernel
theorem dX8_paper_57 : decode cX8_paper 57 = .ok (.aload_n 3, 1) := by decide +kernel
theorem dX8_paper_58 : decode cX8_paper 58 = .ok (.getfield 74, 3) := by decide +kernel
theorem dX8_paper_61 : decode cX8_paper 61 = .ok (.ireturn, 1) := by decide +kernel
theorem dX8_paper_62 : decode cX8_paper 62 = .ok (.aload_n 3, 1) := by decide +kernel
theorem dX8_paper_63 : decode cX8_paper 63 = .ok (.getfield 81, 3) := by decide +kernel
theorem dX8_paper_66 : decode cX8_paper 66 = .ok (.ireturn, 1) := by decide +kernel
theorem dX8_paper_67 : decode cX8_paper 67 = .ok (.aload_n 3, 1) := by decide +kernel
theorem dX8_paper_68 : decode cX8_paper 68 = .ok (.getfield 84, 3) := by decide +kernel
theorem dX8_paper_71 : decode cX8_paper 71 = .ok (.ireturn, 1) := by decide +kernel
theorem dX8_paper_72 : decode cX8_paper 72 = .ok (.aload_n 3, 1) := by decide +kernel
theorem dX8_paper_73 : decode cX8_paper 73 = .ok (.invokevirtual 87, 3) := by decide +kernel
theorem dX8_paper_76 : decode cX8_paper 76 = .ok (.ireturn, 1) := by decide +kernel
theorem dX8_paper_77 : decode cX8_paper 77 = .ok (.aload_n 3, 1) := by decide +kernel
theorem dX8_paper_78 : decode cX8_paper 78 = .ok (.invokevirtual 90, 3) := by decide +kernel
theorem dX8_paper_81 : decode cX8_paper 81 = .ok (.ireturn, 1) := by decide +kernel
theorem dX8_paper_82 : decode cX8_paper 82 = .ok (.bipush (-2), 2) := by decide +kernel
theorem dX8_paper_84 : decode cX8_paper 84 = .ok (.ireturn, 1) := by decide +kernel
theorem dX8_count_0 : decode cX8_count 0 = .ok (.iload_n 1, 1) := by decide +kernel
theorem dX8_count_1 : decode cX8_count 1 = .ok (.tableswitch 78 0 6 #[43, 48, 53, 58, 63, 68, 73], 43) := by decide +kernel
theorem dX8_count_44 : decode cX8_count 44 = .ok (.aload_n 0, 1) := by decide +kernel
theorem dX8_count_45 : decode cX8_count 45 = .ok (.getfield 19, 3) := by decide +kernel
theorem dX8_count_48 : decode cX8_count 48 = .ok (.ireturn, 1) := by decide +kernel
theorem dX8_count_49 : decode cX8_count 49 = .ok (.aload_n 0, 1) := by decide +kernel
theorem dX8_count_50 : decode cX8_count 50 = .ok (.getfield 15, 3) := by decide +kernel
theorem dX8_count_53 : decode cX8_count 53 = .ok (.ireturn, 1) := by decide +kernel
theorem dX8_count_54 : decode cX8_count 54 = .ok (.aload_n 0, 1) := by decide +kernel
theorem dX8_count_55 : decode cX8_count 55 = .ok (.getfield 22, 3) := by decide +kernel
theorem dX8_count_58 : decode cX8_count 58 = .ok (.ireturn, 1) := by decide +kernel
theorem dX8_count_59 : decode cX8_count 59 = .ok (.aload_n 0, 1) := by decide +kernel
theorem dX8_count_60 : decode cX8_count 60 = .ok (.getfield 25, 3) := by decide +kernel
theorem dX8_count_63 : decode cX8_count 63 = .ok (.ireturn, 1) := by decide +kernel
theorem dX8_count_64 : decode cX8_count 64 = .ok (.aload_n 0, 1) := by decide +kernel
theorem dX8_count_65 : decode cX8_count 65 = .ok (.getfield 28, 3) := by decide +kernel
theorem dX8_count_68 : decode cX8_count 68 = .ok (.ireturn, 1) := by decide +kernel
theorem dX8_count_69 : decode cX8_count 69 = .ok (.aload_n 0, 1) := by decide +kernel
theorem dX8_count_70 : decode cX8_count 70 = .ok (.getfield 31, 3) := by decide +kernel
theorem dX8_count_73 : decode cX8_count 73 = .ok (.ireturn, 1) := by decide +kernel
theorem dX8_count_74 : decode cX8_count 74 = .ok (.aload_n 0, 1) := by decide +kernel
theorem dX8_count_75 : decode cX8_count 75 = .ok (.invokevirtual 93, 3) := by decide +kernel
theorem dX8_count_78 : decode cX8_count 78 = .ok (.ireturn, 1) := by decide +kernel
theorem dX8_count_79 : decode cX8_count 79 = .ok (.bipush (-2), 2) := by decide +kernel
theorem dX8_count_81 : decode cX8_count 81 = .ok (.ireturn, 1) := by decide +kernel
theorem dX8_leftOfAll_0 : decode cX8_leftOfAll 0 = .ok (.iconst 0, 1) := by decide +kernel
theorem dX8_leftOfAll_1 : decode cX8_leftOfAll 1 = .ok (.istore_n 1, 1) := by decide +kernel
theorem dX8_leftOfAll_2 : decode cX8_leftOfAll 2 = .ok (.iconst 0, 1) := by decide +kernel
theorem dX8_leftOfAll_3 : decode cX8_leftOfAll 3 = .ok (.istore_n 2, 1) := by decide +kernel
theorem dX8_leftOfAll_4 : decode cX8_leftOfAll 4 = .ok (.iload_n 2, 1) := by decide +kernel
theorem dX8_leftOfAll_5 : decode cX8_leftOfAll 5 = .ok (.bipush 40, 2) := by decide +kernel
theorem dX8_leftOfAll_7 : decode cX8_leftOfAll 7 = .ok (.if_icmp .ge 26, 3) := by decide +kernel
theorem dX8_leftOfAll_10 : decode cX8_leftOfAll 10 = .ok (.aload_n 0, 1) := by decide +kernel
theorem dX8_leftOfAll_11 : decode cX8_leftOfAll 11 = .ok (.iload_n 2, 1) := by decide +kernel
theorem dX8_leftOfAll_12 : decode cX8_leftOfAll 12 = .ok (.invokevirtual 43, 3) := by decide +kernel
theorem dX8_leftOfAll_15 : decode cX8_leftOfAll 15 = .ok (.astore_n 3, 1) := by decide +kernel
theorem dX8_leftOfAll_16 : decode cX8_leftOfAll 16 = .ok (.aload_n 3, 1) := by decide +kernel
theorem dX8_leftOfAll_17 : decode cX8_leftOfAll 17 = .ok (.ifnull 10, 3) := by decide +kernel
theorem dX8_leftOfAll_20 : decode cX8_leftOfAll 20 = .ok (.iload_n 1, 1) := by decide +kernel
theorem dX8_leftOfAll_21 : decode cX8_leftOfAll 21 = .ok (.aload_n 3, 1) := by decide +kernel
theorem dX8_leftOfAll_22 : decode cX8_leftOfAll 22 = .ok (.getfield 81, 3) := by decide +kernel
theorem dX8_leftOfAll_25 : decode cX8_leftOfAll 25 = .ok (.iadd, 1) := by decide +kernel
theorem dX8_leftOfAll_26 : decode cX8_leftOfAll 26 = .ok (.istore_n 1, 1) := by decide +kernel
theorem dX8_leftOfAll_27 : decode cX8_leftOfAll 27 = .ok (.iinc 2 1, 3) := by decide +kernel
theorem dX8_leftOfAll_30 : decode cX8_leftOfAll 30 = .ok (.goto (-26), 3) := by decide +kernel
theorem dX8_leftOfAll_33 : decode cX8_leftOfAll 33 = .ok (.iload_n 1, 1) := by decide +kernel
theorem dX8_leftOfAll_34 : decode cX8_leftOfAll 34 = .ok (.ireturn, 1) := by decide +kernel
theorem dX8_find_0 : decode cX8_find 0 = .ok (.iload_n 1, 1) := by decide +kernel
theorem dX8_find_1 : decode cX8_find 1 = .ok (.iconst 0, 1) := by decide +kernel
theorem dX8_find_2 : decode cX8_find 2 = .ok (.bipush 39, 2) := by decide +kernel
theorem dX8_find_4 : decode cX8_find 4 = .ok (.invokestatic 34, 3) := by decide +kernel
theorem dX8_find_7 : decode cX8_find 7 = .ok (.ifCond .eq 5, 3) := by decide +kernel
theorem dX8_find_10 : decode cX8_find 10 = .ok (.aconst_null, 1) := by decide +kernel
theorem dX8_find_11 : decode cX8_find 11 = .ok (.areturn, 1) := by decide +kernel
theorem dX8_find_12 : decode cX8_find 12 = .ok (.aload_n 0, 1) := by decide +kernel
theorem dX8_find_13 : decode cX8_find 13 = .ok (.getfield 11, 3) := by decide +kernel
theorem dX8_find_16 : decode cX8_find 16 = .ok (.iload_n 1, 1) := by decide +kernel
theorem dX8_find_17 : decode cX8_find 17 = .ok (.aaload, 1) := by decide +kernel
theorem dX8_find_18 : decode cX8_find 18 = .ok (.areturn, 1) := by decide +kernel
theorem dX8_isOutside_0 : decode cX8_isOutside 0 = .ok (.iload_n 0, 1) := by decide +kernel
theorem dX8_isOutside_1 : decode cX8_isOutside 1 = .ok (.iload_n 1, 1) := by decide +kernel
theorem dX8_isOutside_2 : decode cX8_isOutside 2 = .ok (.if_icmp .lt 8, 3) := by decide +kernel
theorem dX8_isOutside_5 : decode cX8_isOutside 5 = .ok (.iload_n 0, 1) := by decide +kernel
theorem dX8_isOutside_6 : decode cX8_isOutside 6 = .ok (.iload_n 2, 1) := by decide +kernel
theorem dX8_isOutside_7 : decode cX8_isOutside 7 = .ok (.if_icmp .le 7, 3) := by decide +kernel
theorem dX8_isOutside_10 : decode cX8_isOutside 10 = .ok (.iconst 1, 1) := by decide +kernel
theorem dX8_isOutside_11 : decode cX8_isOutside 11 = .ok (.goto 4, 3) := by decide +kernel
theorem dX8_isOutside_14 : decode cX8_isOutside 14 = .ok (.iconst 0, 1) := by decide +kernel
theorem dX8_isOutside_15 : decode cX8_isOutside 15 = .ok (.ireturn, 1) := by decide +kernel
theorem dX8_newVoucher_0 : decode cX8_newVoucher 0 = .ok (.iload_n 0, 1) := by decide +kernel
theorem dX8_newVoucher_1 : decode cX8_newVoucher 1 = .ok (.tableswitch 120 0 6 #[43, 54, 65, 76, 87, 98, 109], 43) := by decide +kernel
theorem dX8_newVoucher_44 : decode cX8_newVoucher 44 = .ok (.new 9, 3) := by decide +kernel
theorem dX8_newVoucher_47 : decode cX8_newVoucher 47 = .ok (.dup, 1) := by decide +kernel
theorem dX8_newVoucher_48 : decode cX8_newVoucher 48 = .ok (.iload_n 0, 1) := by decide +kernel
theorem dX8_newVoucher_49 : decode cX8_newVoucher 49 = .ok (.iload_n 1, 1) := by decide +kernel
theorem dX8_newVoucher_50 : decode cX8_newVoucher 50 = .ok (.iload_n 2, 1) := by decide +kernel
theorem dX8_newVoucher_51 : decode cX8_newVoucher 51 = .ok (.invokespecial 96, 3) := by decide +kernel
theorem dX8_newVoucher_54 : decode cX8_newVoucher 54 = .ok (.areturn, 1) := by decide +kernel
theorem dX8_newVoucher_55 : decode cX8_newVoucher 55 = .ok (.new 99, 3) := by decide +kernel
theorem dX8_newVoucher_58 : decode cX8_newVoucher 58 = .ok (.dup, 1) := by decide +kernel
theorem dX8_newVoucher_59 : decode cX8_newVoucher 59 = .ok (.iload_n 0, 1) := by decide +kernel
theorem dX8_newVoucher_60 : decode cX8_newVoucher 60 = .ok (.iload_n 1, 1) := by decide +kernel
theorem dX8_newVoucher_61 : decode cX8_newVoucher 61 = .ok (.iload_n 2, 1) := by decide +kernel
theorem dX8_newVoucher_62 : decode cX8_newVoucher 62 = .ok (.invokespecial 101, 3) := by decide +kernel
theorem dX8_newVoucher_65 : decode cX8_newVoucher 65 = .ok (.areturn, 1) := by decide +kernel
theorem dX8_newVoucher_66 : decode cX8_newVoucher 66 = .ok (.new 102, 3) := by decide +kernel
theorem dX8_newVoucher_69 : decode cX8_newVoucher 69 = .ok (.dup, 1) := by decide +kernel
theorem dX8_newVoucher_70 : decode cX8_newVoucher 70 = .ok (.iload_n 0, 1) := by decide +kernel
theorem dX8_newVoucher_71 : decode cX8_newVoucher 71 = .ok (.iload_n 1, 1) := by decide +kernel
theorem dX8_newVoucher_72 : decode cX8_newVoucher 72 = .ok (.iload_n 2, 1) := by decide +kernel
theorem dX8_newVoucher_73 : decode cX8_newVoucher 73 = .ok (.invokespecial 104, 3) := by decide +kernel
theorem dX8_newVoucher_76 : decode cX8_newVoucher 76 = .ok (.areturn, 1) := by decide +kernel
theorem dX8_newVoucher_77 : decode cX8_newVoucher 77 = .ok (.new 105, 3) := by decide +kernel
theorem dX8_newVoucher_80 : decode cX8_newVoucher 80 = .ok (.dup, 1) := by decide +kernel
theorem dX8_newVoucher_81 : decode cX8_newVoucher 81 = .ok (.iload_n 0, 1) := by decide +kernel
theorem dX8_newVoucher_82 : decode cX8_newVoucher 82 = .ok (.iload_n 1, 1) := by decide +kernel
theorem dX8_newVoucher_83 : decode cX8_newVoucher 83 = .ok (.iload_n 2, 1) := by decide +kernel
theorem dX8_newVoucher_84 : decode cX8_newVoucher 84 = .ok (.invokespecial 107, 3) := by decide +kernel
theorem dX8_newVoucher_87 : decode cX8_newVoucher 87 = .ok (.areturn, 1) := by decide +kernel
theorem dX8_newVoucher_88 : decode cX8_newVoucher 88 = .ok (.new 108, 3) := by decide +kernel
theorem dX8_newVoucher_91 : decode cX8_newVoucher 91 = .ok (.dup, 1) := by decide +kernel
theorem dX8_newVoucher_92 : decode cX8_newVoucher 92 = .ok (.iload_n 0, 1) := by decide +kernel
theorem dX8_newVoucher_93 : decode cX8_newVoucher 93 = .ok (.iload_n 1, 1) := by decide +kernel
theorem dX8_newVoucher_94 : decode cX8_newVoucher 94 = .ok (.iload_n 2, 1) := by decide +kernel
theorem dX8_newVoucher_95 : decode cX8_newVoucher 95 = .ok (.invokespecial 110, 3) := by decide +kernel
theorem dX8_newVoucher_98 : decode cX8_newVoucher 98 = .ok (.areturn, 1) := by decide +kernel
theorem dX8_newVoucher_99 : decode cX8_newVoucher 99 = .ok (.new 111, 3) := by decide +kernel
theorem dX8_newVoucher_102 : decode cX8_newVoucher 102 = .ok (.dup, 1) := by decide +kernel
theorem dX8_newVoucher_103 : decode cX8_newVoucher 103 = .ok (.iload_n 0, 1) := by decide +kernel
theorem dX8_newVoucher_104 : decode cX8_newVoucher 104 = .ok (.iload_n 1, 1) := by decide +kernel
theorem dX8_newVoucher_105 : decode cX8_newVoucher 105 = .ok (.iload_n 2, 1) := by decide +kernel
theorem dX8_newVoucher_106 : decode cX8_newVoucher 106 = .ok (.invokespecial 113, 3) := by decide +kernel
theorem dX8_newVoucher_109 : decode cX8_newVoucher 109 = .ok (.areturn, 1) := by decide +kernel
theorem dX8_newVoucher_110 : decode cX8_newVoucher 110 = .ok (.new 114, 3) := by decide +kernel
theorem dX8_newVoucher_113 : decode cX8_newVoucher 113 = .ok (.dup, 1) := by decide +kernel
theorem dX8_newVoucher_114 : decode cX8_newVoucher 114 = .ok (.iload_n 0, 1) := by decide +kernel
theorem dX8_newVoucher_115 : decode cX8_newVoucher 115 = .ok (.iload_n 1, 1) := by decide +kernel
theorem dX8_newVoucher_116 : decode cX8_newVoucher 116 = .ok (.iload_n 2, 1) := by decide +kernel
theorem dX8_newVoucher_117 : decode cX8_newVoucher 117 = .ok (.invokespecial 116, 3) := by decide +kernel
theorem dX8_newVoucher_120 : decode cX8_newVoucher 120 = .ok (.areturn, 1) := by decide +kernel
theorem dX8_newVoucher_121 : decode cX8_newVoucher 121 = .ok (.new 117, 3) := by decide +kernel
theorem dX8_newVoucher_124 : decode cX8_newVoucher 124 = .ok (.dup, 1) := by decide +kernel
theorem dX8_newVoucher_125 : decode cX8_newVoucher 125 = .ok (.iload_n 0, 1) := by decide +kernel
theorem dX8_newVoucher_126 : decode cX8_newVoucher 126 = .ok (.iload_n 1, 1) := by decide +kernel
theorem dX8_newVoucher_127 : decode cX8_newVoucher 127 = .ok (.iload_n 2, 1) := by decide +kernel
theorem dX8_newVoucher_128 : decode cX8_newVoucher 128 = .ok (.invokespecial 119, 3) := by decide +kernel
theorem dX8_newVoucher_131 : decode cX8_newVoucher 131 = .ok (.areturn, 1) := by decide +kernel
theorem dX9_init_0 : decode cX9_init 0 = .ok (.aload_n 0, 1) := by decide +kernel
theorem dX9_init_1 : decode cX9_init 1 = .ok (.invokespecial 1, 3) := by decide +kernel
theorem dX9_init_4 : decode cX9_init 4 = .ok (.aload_n 0, 1) := by decide +kernel
theorem dX9_init_5 : decode cX9_init 5 = .ok (.bipush 40, 2) := by decide +kernel
theorem dX9_init_7 : decode cX9_init 7 = .ok (.newarray .int, 2) := by decide +kernel
theorem dX9_init_9 : decode cX9_init 9 = .ok (.putfield 7, 3) := by decide +kernel
theorem dX9_init_12 : decode cX9_init 12 = .ok (.aload_n 0, 1) := by decide +kernel
theorem dX9_init_13 : decode cX9_init 13 = .ok (.bipush 40, 2) := by decide +kernel
theorem dX9_init_15 : decode cX9_init 15 = .ok (.newarray .int, 2) := by decide +kernel
theorem dX9_init_17 : decode cX9_init 17 = .ok (.putfield 13, 3) := by decide +kernel
theorem dX9_init_20 : decode cX9_init 20 = .ok (.aload_n 0, 1) := by decide +kernel
theorem dX9_init_21 : decode cX9_init 21 = .ok (.bipush 40, 2) := by decide +kernel
theorem dX9_init_23 : decode cX9_init 23 = .ok (.newarray .int, 2) := by decide +kernel
theorem dX9_init_25 : decode cX9_init 25 = .ok (.putfield 16, 3) := by decide +kernel
end
section
theorem dX9_init_28 : decode cX9_init 28 = .ok (.aload_n 0, 1) := by decide +kernel
theorem dX9_init_29 : decode cX9_init 29 = .ok (.bipush 40, 2) := by decide +kernel
theorem dX9_init_31 : decode cX9_init 31 = .ok (.newarray .int, 2) := by decide +kernel
theorem dX9_init_33 : decode cX9_init 33 = .ok (.putfield 19, 3) := by decide +kernel
theorem dX9_init_36 : decode cX9_init 36 = .ok (.aload_n 0, 1) := by decide +kernel
theorem dX9_init_37 : decode cX9_init 37 = .ok (.bipush 40, 2) := by decide +kernel
theorem dX9_init_39 : decode cX9_init 39 = .ok (.newarray .int, 2) := by decide +kernel
theorem dX9_init_41 : decode cX9_init 41 = .ok (.putfield 22, 3) := by decide +kernel
theorem dX9_init_44 : decode cX9_init 44 = .ok (.aload_n 0, 1) := by decide +kernel
theorem dX9_init_45 : decode cX9_init 45 = .ok (.bipush 40, 2) := by decide +kernel
theorem dX9_init_47 : decode cX9_init 47 = .ok (.newarray .int, 2) := by decide +kernel
theorem dX9_init_49 : decode cX9_init 49 = .ok (.putfield 25, 3) := by decide +kernel
theorem dX9_init_52 : decode cX9_init 52 = .ok (.aload_n 0, 1) := by decide +kernel
theorem dX9_init_53 : decode cX9_init 53 = .ok (.bipush 40, 2) := by decide +kernel
theorem dX9_init_55 : decode cX9_init 55 = .ok (.newarray .boolean, 2) := by decide +kernel
theorem dX9_init_57 : decode cX9_init 57 = .ok (.putfield 28, 3) := by decide +kernel
theorem dX9_init_60 : decode cX9_init 60 = .ok (.return_, 1) := by decide +kernel
theorem dX9_within_0 : decode cX9_within 0 = .ok (.iload_n 0, 1) := by decide +kernel
theorem dX9_within_1 : decode cX9_within 1 = .ok (.iload_n 1, 1) := by decide +kernel
theorem dX9_within_2 : decode cX9_within 2 = .ok (.if_icmp .lt 12, 3) := by decide +kernel
theorem dX9_within_5 : decode cX9_within 5 = .ok (.iload_n 0, 1) := by decide +kernel
theorem dX9_within_6 : decode cX9_within 6 = .ok (.iload_n 2, 1) := by decide +kernel
theorem dX9_within_7 : decode cX9_within 7 = .ok (.if_icmp .gt 7, 3) := by decide +kernel
theorem dX9_within_10 : decode cX9_within 10 = .ok (.iconst 1, 1) := by decide +kernel
theorem dX9_within_11 : decode cX9_within 11 = .ok (.goto 4, 3) := by decide +kernel
theorem dX9_within_14 : decode cX9_within 14 = .ok (.iconst 0, 1) := by decide +kernel
theorem dX9_within_15 : decode cX9_within 15 = .ok (.ireturn, 1) := by decide +kernel
theorem dX9_isThere_0 : decode cX9_isThere 0 = .ok (.iload_n 1, 1) := by decide +kernel
theorem dX9_isThere_1 : decode cX9_isThere 1 = .ok (.iconst 0, 1) := by decide +kernel
theorem dX9_isThere_2 : decode cX9_isThere 2 = .ok (.aload_n 0, 1) := by decide +kernel
theorem dX9_isThere_3 : decode cX9_isThere 3 = .ok (.getfield 32, 3) := by decide +kernel
theorem dX9_isThere_6 : decode cX9_isThere 6 = .ok (.iconst 1, 1) := by decide +kernel
theorem dX9_isThere_7 : decode cX9_isThere 7 = .ok (.isub, 1) := by decide +kernel
theorem dX9_isThere_8 : decode cX9_isThere 8 = .ok (.invokestatic 36, 3) := by decide +kernel
theorem dX9_isThere_11 : decode cX9_isThere 11 = .ok (.ifCond .eq 16, 3) := by decide +kernel
theorem dX9_isThere_14 : decode cX9_isThere 14 = .ok (.aload_n 0, 1) := by decide +kernel
theorem dX9_isThere_15 : decode cX9_isThere 15 = .ok (.getfield 28, 3) := by decide +kernel
theorem dX9_isThere_18 : decode cX9_isThere 18 = .ok (.iload_n 1, 1) := by decide +kernel
theorem dX9_isThere_19 : decode cX9_isThere 19 = .ok (.baload, 1) := by decide +kernel
theorem dX9_isThere_20 : decode cX9_isThere 20 = .ok (.ifCond .ne 7, 3) := by decide +kernel
theorem dX9_isThere_23 : decode cX9_isThere 23 = .ok (.iconst 1, 1) := by decide +kernel
theorem dX9_isThere_24 : decode cX9_isThere 24 = .ok (.goto 4, 3) := by decide +kernel
theorem dX9_isThere_27 : decode cX9_isThere 27 = .ok (.iconst 0, 1) := by decide +kernel
theorem dX9_isThere_28 : decode cX9_isThere 28 = .ok (.ireturn, 1) := by decide +kernel
theorem dX9_isDated_0 : decode cX9_isDated 0 = .ok (.aload_n 0, 1) := by decide +kernel
theorem dX9_isDated_1 : decode cX9_isDated 1 = .ok (.getfield 7, 3) := by decide +kernel
theorem dX9_isDated_4 : decode cX9_isDated 4 = .ok (.iload_n 1, 1) := by decide +kernel
theorem dX9_isDated_5 : decode cX9_isDated 5 = .ok (.iaload, 1) := by decide +kernel
theorem dX9_isDated_6 : decode cX9_isDated 6 = .ok (.iconst 2, 1) := by decide +kernel
theorem dX9_isDated_7 : decode cX9_isDated 7 = .ok (.if_icmp .eq 13, 3) := by decide +kernel
theorem dX9_isDated_10 : decode cX9_isDated 10 = .ok (.aload_n 0, 1) := by decide +kernel
theorem dX9_isDated_11 : decode cX9_isDated 11 = .ok (.getfield 7, 3) := by decide +kernel
theorem dX9_isDated_14 : decode cX9_isDated 14 = .ok (.iload_n 1, 1) := by decide +kernel
theorem dX9_isDated_15 : decode cX9_isDated 15 = .ok (.iaload, 1) := by decide +kernel
theorem dX9_isDated_16 : decode cX9_isDated 16 = .ok (.iconst 3, 1) := by decide +kernel
theorem dX9_isDated_17 : decode cX9_isDated 17 = .ok (.if_icmp .ne 7, 3) := by decide +kernel
theorem dX9_isDated_20 : decode cX9_isDated 20 = .ok (.iconst 1, 1) := by decide +kernel
theorem dX9_isDated_21 : decode cX9_isDated 21 = .ok (.goto 4, 3) := by decide +kernel
theorem dX9_isDated_24 : decode cX9_isDated 24 = .ok (.iconst 0, 1) := by decide +kernel
theorem dX9_isDated_25 : decode cX9_isDated 25 = .ok (.ireturn, 1) := by decide +kernel
theorem dX9_hasPoints_0 : decode cX9_hasPoints 0 = .ok (.aload_n 0, 1) := by decide +kernel
theorem dX9_hasPoints_1 : decode cX9_hasPoints 1 = .ok (.getfield 7, 3) := by decide +kernel
theorem dX9_hasPoints_4 : decode cX9_hasPoints 4 = .ok (.iload_n 1, 1) := by decide +kernel
theorem dX9_hasPoints_5 : decode cX9_hasPoints 5 = .ok (.iaload, 1) := by decide +kernel
theorem dX9_hasPoints_6 : decode cX9_hasPoints 6 = .ok (.bipush 6, 2) := by decide +kernel
theorem dX9_hasPoints_8 : decode cX9_hasPoints 8 = .ok (.if_icmp .lt 7, 3) := by decide +kernel
theorem dX9_hasPoints_11 : decode cX9_hasPoints 11 = .ok (.iconst 1, 1) := by decide +kernel
theorem dX9_hasPoints_12 : decode cX9_hasPoints 12 = .ok (.goto 4, 3) := by decide +kernel
theorem dX9_hasPoints_15 : decode cX9_hasPoints 15 = .ok (.iconst 0, 1) := by decide +kernel
theorem dX9_hasPoints_16 : decode cX9_hasPoints 16 = .ok (.ireturn, 1) := by decide +kernel
theorem dX9_lastDay_0 : decode cX9_lastDay 0 = .ok (.aload_n 0, 1) := by decide +kernel
theorem dX9_lastDay_1 : decode cX9_lastDay 1 = .ok (.getfield 19, 3) := by decide +kernel
theorem dX9_lastDay_4 : decode cX9_lastDay 4 = .ok (.iload_n 1, 1) := by decide +kernel
theorem dX9_lastDay_5 : decode cX9_lastDay 5 = .ok (.iaload, 1) := by decide +kernel
theorem dX9_lastDay_6 : decode cX9_lastDay 6 = .ok (.aload_n 0, 1) := by decide +kernel
theorem dX9_lastDay_7 : decode cX9_lastDay 7 = .ok (.getfield 7, 3) := by decide +kernel
theorem dX9_lastDay_10 : decode cX9_lastDay 10 = .ok (.iload_n 1, 1) := by decide +kernel
theorem dX9_lastDay_11 : decode cX9_lastDay 11 = .ok (.iaload, 1) := by decide +kernel
theorem dX9_lastDay_12 : decode cX9_lastDay 12 = .ok (.iconst 3, 1) := by decide +kernel
theorem dX9_lastDay_13 : decode cX9_lastDay 13 = .ok (.if_icmp .ne 8, 3) := by decide +kernel
theorem dX9_lastDay_16 : decode cX9_lastDay 16 = .ok (.bipush 30, 2) := by decide +kernel
theorem dX9_lastDay_18 : decode cX9_lastDay 18 = .ok (.goto 5, 3) := by decide +kernel
theorem dX9_lastDay_21 : decode cX9_lastDay 21 = .ok (.bipush 90, 2) := by decide +kernel
theorem dX9_lastDay_23 : decode cX9_lastDay 23 = .ok (.iadd, 1) := by decide +kernel
theorem dX9_lastDay_24 : decode cX9_lastDay 24 = .ok (.ireturn, 1) := by decide +kernel
theorem dX9_valueOf_0 : decode cX9_valueOf 0 = .ok (.aload_n 0, 1) := by decide +kernel
theorem dX9_valueOf_1 : decode cX9_valueOf 1 = .ok (.iload_n 1, 1) := by decide +kernel
theorem dX9_valueOf_2 : decode cX9_valueOf 2 = .ok (.invokevirtual 40, 3) := by decide +kernel
theorem dX9_valueOf_5 : decode cX9_valueOf 5 = .ok (.ifCond .eq 14, 3) := by decide +kernel
theorem dX9_valueOf_8 : decode cX9_valueOf 8 = .ok (.iload_n 2, 1) := by decide +kernel
theorem dX9_valueOf_9 : decode cX9_valueOf 9 = .ok (.aload_n 0, 1) := by decide +kernel
theorem dX9_valueOf_10 : decode cX9_valueOf 10 = .ok (.iload_n 1, 1) := by decide +kernel
theorem dX9_valueOf_11 : decode cX9_valueOf 11 = .ok (.invokevirtual 44, 3) := by decide +kernel
theorem dX9_valueOf_14 : decode cX9_valueOf 14 = .ok (.if_icmp .le 5, 3) := by decide +kernel
theorem dX9_valueOf_17 : decode cX9_valueOf 17 = .ok (.iconst 0, 1) := by decide +kernel
theorem dX9_valueOf_18 : decode cX9_valueOf 18 = .ok (.ireturn, 1) := by decide +kernel
theorem dX9_valueOf_19 : decode cX9_valueOf 19 = .ok (.aload_n 0, 1) := by decide +kernel
theorem dX9_valueOf_20 : decode cX9_valueOf 20 = .ok (.getfield 16, 3) := by decide +kernel
theorem dX9_valueOf_23 : decode cX9_valueOf 23 = .ok (.iload_n 1, 1) := by decide +kernel
theorem dX9_valueOf_24 : decode cX9_valueOf 24 = .ok (.iaload, 1) := by decide +kernel
theorem dX9_valueOf_25 : decode cX9_valueOf 25 = .ok (.istore_n 3, 1) := by decide +kernel
theorem dX9_valueOf_26 : decode cX9_valueOf 26 = .ok (.aload_n 0, 1) := by decide +kernel
theorem dX9_valueOf_27 : decode cX9_valueOf 27 = .ok (.getfield 7, 3) := by decide +kernel
theorem dX9_valueOf_30 : decode cX9_valueOf 30 = .ok (.iload_n 1, 1) := by decide +kernel
theorem dX9_valueOf_31 : decode cX9_valueOf 31 = .ok (.iaload, 1) := by decide +kernel
theorem dX9_valueOf_32 : decode cX9_valueOf 32 = .ok (.iconst 3, 1) := by decide +kernel
theorem dX9_valueOf_33 : decode cX9_valueOf 33 = .ok (.if_icmp .ne 10, 3) := by decide +kernel
theorem dX9_valueOf_36 : decode cX9_valueOf 36 = .ok (.iload_n 3, 1) := by decide +kernel
theorem dX9_valueOf_37 : decode cX9_valueOf 37 = .ok (.iload_n 3, 1) := by decide +kernel
theorem dX9_valueOf_38 : decode cX9_valueOf 38 = .ok (.bipush 10, 2) := by decide +kernel
theorem dX9_valueOf_40 : decode cX9_valueOf 40 = .ok (.idiv, 1) := by decide +kernel
theorem dX9_valueOf_41 : decode cX9_valueOf 41 = .ok (.isub, 1) := by decide +kernel
theorem dX9_valueOf_42 : decode cX9_valueOf 42 = .ok (.ireturn, 1) := by decide +kernel
theorem dX9_valueOf_43 : decode cX9_valueOf 43 = .ok (.aload_n 0, 1) := by decide +kernel
theorem dX9_valueOf_44 : decode cX9_valueOf 44 = .ok (.getfield 7, 3) := by decide +kernel
theorem dX9_valueOf_47 : decode cX9_valueOf 47 = .ok (.iload_n 1, 1) := by decide +kernel
theorem dX9_valueOf_48 : decode cX9_valueOf 48 = .ok (.iaload, 1) := by decide +kernel
theorem dX9_valueOf_49 : decode cX9_valueOf 49 = .ok (.iconst 4, 1) := by decide +kernel
theorem dX9_valueOf_50 : decode cX9_valueOf 50 = .ok (.if_icmp .ge 5, 3) := by decide +kernel
theorem dX9_valueOf_53 : decode cX9_valueOf 53 = .ok (.iload_n 3, 1) := by decide +kernel
theorem dX9_valueOf_54 : decode cX9_valueOf 54 = .ok (.ireturn, 1) := by decide +kernel
theorem dX9_valueOf_55 : decode cX9_valueOf 55 = .ok (.iload_n 3, 1) := by decide +kernel
theorem dX9_valueOf_56 : decode cX9_valueOf 56 = .ok (.bipush 10, 2) := by decide +kernel
theorem dX9_valueOf_58 : decode cX9_valueOf 58 = .ok (.idiv, 1) := by decide +kernel
theorem dX9_valueOf_59 : decode cX9_valueOf 59 = .ok (.bipush 10, 2) := by decide +kernel
theorem dX9_valueOf_61 : decode cX9_valueOf 61 = .ok (.imul, 1) := by decide +kernel
theorem dX9_valueOf_62 : decode cX9_valueOf 62 = .ok (.istore_n 3, 1) := by decide +kernel
theorem dX9_valueOf_63 : decode cX9_valueOf 63 = .ok (.aload_n 0, 1) := by decide +kernel
theorem dX9_valueOf_64 : decode cX9_valueOf 64 = .ok (.iload_n 1, 1) := by decide +kernel
theorem dX9_valueOf_65 : decode cX9_valueOf 65 = .ok (.invokevirtual 48, 3) := by decide +kernel
theorem dX9_valueOf_68 : decode cX9_valueOf 68 = .ok (.ifCond .eq 12, 3) := by decide +kernel
theorem dX9_valueOf_71 : decode cX9_valueOf 71 = .ok (.iload_n 3, 1) := by decide +kernel
theorem dX9_valueOf_72 : decode cX9_valueOf 72 = .ok (.aload_n 0, 1) := by decide +kernel
theorem dX9_valueOf_73 : decode cX9_valueOf 73 = .ok (.getfield 22, 3) := by decide +kernel
theorem dX9_valueOf_76 : decode cX9_valueOf 76 = .ok (.iload_n 1, 1) := by decide +kernel
theorem dX9_valueOf_77 : decode cX9_valueOf 77 = .ok (.iaload, 1) := by decide +kernel
theorem dX9_valueOf_78 : decode cX9_valueOf 78 = .ok (.iadd, 1) := by decide +kernel
theorem dX9_valueOf_79 : decode cX9_valueOf 79 = .ok (.istore_n 3, 1) := by decide +kernel
theorem dX9_valueOf_80 : decode cX9_valueOf 80 = .ok (.aload_n 0, 1) := by decide +kernel
theorem dX9_valueOf_81 : decode cX9_valueOf 81 = .ok (.getfield 7, 3) := by decide +kernel
theorem dX9_valueOf_84 : decode cX9_valueOf 84 = .ok (.iload_n 1, 1) := by decide +kernel
theorem dX9_valueOf_85 : decode cX9_valueOf 85 = .ok (.iaload, 1) := by decide +kernel
theorem dX9_valueOf_86 : decode cX9_valueOf 86 = .ok (.bipush 7, 2) := by decide +kernel
theorem dX9_valueOf_88 : decode cX9_valueOf 88 = .ok (.if_icmp .ne 16, 3) := by decide +kernel
theorem dX9_valueOf_91 : decode cX9_valueOf 91 = .ok (.iload_n 2, 1) := by decide +kernel
theorem dX9_valueOf_92 : decode cX9_valueOf 92 = .ok (.bipush 7, 2) := by decide +kernel
theorem dX9_valueOf_94 : decode cX9_valueOf 94 = .ok (.irem, 1) := by decide +kernel
theorem dX9_valueOf_95 : decode cX9_valueOf 95 = .ok (.ifCond .ne 9, 3) := by decide +kernel
theorem dX9_valueOf_98 : decode cX9_valueOf 98 = .ok (.iconst 2, 1) := by decide +kernel
theorem dX9_valueOf_99 : decode cX9_valueOf 99 = .ok (.iload_n 3, 1) := by decide +kernel
theorem dX9_valueOf_100 : decode cX9_valueOf 100 = .ok (.imul, 1) := by decide +kernel
theorem dX9_valueOf_101 : decode cX9_valueOf 101 = .ok (.goto 4, 3) := by decide +kernel
theorem dX9_valueOf_104 : decode cX9_valueOf 104 = .ok (.iload_n 3, 1) := by decide +kernel
theorem dX9_valueOf_105 : decode cX9_valueOf 105 = .ok (.ireturn, 1) := by decide +kernel
theorem dX9_feeOf_0 : decode cX9_feeOf 0 = .ok (.iload_n 2, 1) := by decide +kernel
theorem dX9_feeOf_1 : decode cX9_feeOf 1 = .ok (.bipush 50, 2) := by decide +kernel
theorem dX9_feeOf_3 : decode cX9_feeOf 3 = .ok (.idiv, 1) := by decide +kernel
theorem dX9_feeOf_4 : decode cX9_feeOf 4 = .ok (.iconst 1, 1) := by decide +kernel
theorem dX9_feeOf_5 : decode cX9_feeOf 5 = .ok (.iadd, 1) := by decide +kernel
theorem dX9_feeOf_6 : decode cX9_feeOf 6 = .ok (.istore_n 3, 1) := by decide +kernel
theorem dX9_feeOf_7 : decode cX9_feeOf 7 = .ok (.aload_n 0, 1) := by decide +kernel
theorem dX9_feeOf_8 : decode cX9_feeOf 8 = .ok (.getfield 7, 3) := by decide +kernel
theorem dX9_feeOf_11 : decode cX9_feeOf 11 = .ok (.iload_n 1, 1) := by decide +kernel
theorem dX9_feeOf_12 : decode cX9_feeOf 12 = .ok (.iaload, 1) := by decide +kernel
theorem dX9_feeOf_13 : decode cX9_feeOf 13 = .ok (.iconst 3, 1) := by decide +kernel
theorem dX9_feeOf_14 : decode cX9_feeOf 14 = .ok (.if_icmp .ne 7, 3) := by decide +kernel
theorem dX9_feeOf_17 : decode cX9_feeOf 17 = .ok (.iload_n 3, 1) := by decide +kernel
theorem dX9_feeOf_18 : decode cX9_feeOf 18 = .ok (.iconst 2, 1) := by decide +kernel
theorem dX9_feeOf_19 : decode cX9_feeOf 19 = .ok (.idiv, 1) := by decide +kernel
theorem dX9_feeOf_20 : decode cX9_feeOf 20 = .ok (.ireturn, 1) := by decide +kernel
theorem dX9_feeOf_21 : decode cX9_feeOf 21 = .ok (.aload_n 0, 1) := by decide +kernel
theorem dX9_feeOf_22 : decode cX9_feeOf 22 = .ok (.getfield 7, 3) := by decide +kernel
theorem dX9_feeOf_25 : decode cX9_feeOf 25 = .ok (.iload_n 1, 1) := by decide +kernel
theorem dX9_feeOf_26 : decode cX9_feeOf 26 = .ok (.iaload, 1) := by decide +kernel
theorem dX9_feeOf_27 : decode cX9_feeOf 27 = .ok (.bipush 7, 2) := by decide +kernel
theorem dX9_feeOf_29 : decode cX9_feeOf 29 = .ok (.if_icmp .eq 5, 3) := by decide +kernel
theorem dX9_feeOf_32 : decode cX9_feeOf 32 = .ok (.iload_n 3, 1) := by decide +kernel
theorem dX9_feeOf_33 : decode cX9_feeOf 33 = .ok (.ireturn, 1) := by decide +kernel
theorem dX9_feeOf_34 : decode cX9_feeOf 34 = .ok (.iload_n 3, 1) := by decide +kernel
theorem dX9_feeOf_35 : decode cX9_feeOf 35 = .ok (.aload_n 0, 1) := by decide +kernel
theorem dX9_feeOf_36 : decode cX9_feeOf 36 = .ok (.getfield 22, 3) := by decide +kernel
theorem dX9_feeOf_39 : decode cX9_feeOf 39 = .ok (.iload_n 1, 1) := by decide +kernel
theorem dX9_feeOf_40 : decode cX9_feeOf 40 = .ok (.iaload, 1) := by decide +kernel
theorem dX9_feeOf_41 : decode cX9_feeOf 41 = .ok (.if_icmp .le 14, 3) := by decide +kernel
theorem dX9_feeOf_44 : decode cX9_feeOf 44 = .ok (.iload_n 3, 1) := by decide +kernel
theorem dX9_feeOf_45 : decode cX9_feeOf 45 = .ok (.aload_n 0, 1) := by decide +kernel
theorem dX9_feeOf_46 : decode cX9_feeOf 46 = .ok (.getfield 22, 3) := by decide +kernel
theorem dX9_feeOf_49 : decode cX9_feeOf 49 = .ok (.iload_n 1, 1) := by decide +kernel
theorem dX9_feeOf_50 : decode cX9_feeOf 50 = .ok (.iaload, 1) := by decide +kernel
theorem dX9_feeOf_51 : decode cX9_feeOf 51 = .ok (.isub, 1) := by decide +kernel
theorem dX9_feeOf_52 : decode cX9_feeOf 52 = .ok (.goto 4, 3) := by decide +kernel
theorem dX9_feeOf_55 : decode cX9_feeOf 55 = .ok (.iconst 0, 1) := by decide +kernel
theorem dX9_feeOf_56 : decode cX9_feeOf 56 = .ok (.ireturn, 1) := by decide +kernel
theorem dX9_sealOf_0 : decode cX9_sealOf 0 = .ok (.aload_n 0, 1) := by decide +kernel
theorem dX9_sealOf_1 : decode cX9_sealOf 1 = .ok (.getfield 16, 3) := by decide +kernel
theorem dX9_sealOf_4 : decode cX9_sealOf 4 = .ok (.iload_n 1, 1) := by decide +kernel
theorem dX9_sealOf_5 : decode cX9_sealOf 5 = .ok (.iaload, 1) := by decide +kernel
theorem dX9_sealOf_6 : decode cX9_sealOf 6 = .ok (.sipush 961, 3) := by decide +kernel
theorem dX9_sealOf_9 : decode cX9_sealOf 9 = .ok (.imul, 1) := by decide +kernel
theorem dX9_sealOf_10 : decode cX9_sealOf 10 = .ok (.aload_n 0, 1) := by decide +kernel
theorem dX9_sealOf_11 : decode cX9_sealOf 11 = .ok (.getfield 19, 3) := by decide +kernel
theorem dX9_sealOf_14 : decode cX9_sealOf 14 = .ok (.iload_n 1, 1) := by decide +kernel
theorem dX9_sealOf_15 : decode cX9_sealOf 15 = .ok (.iaload, 1) := by decide +kernel
theorem dX9_sealOf_16 : decode cX9_sealOf 16 = .ok (.bipush 31, 2) := by decide +kernel
theorem dX9_sealOf_18 : decode cX9_sealOf 18 = .ok (.imul, 1) := by decide +kernel
theorem dX9_sealOf_19 : decode cX9_sealOf 19 = .ok (.iadd, 1) := by decide +kernel
theorem dX9_sealOf_20 : decode cX9_sealOf 20 = .ok (.aload_n 0, 1) := by decide +kernel
theorem dX9_sealOf_21 : decode cX9_sealOf 21 = .ok (.getfield 13, 3) := by decide +kernel
theorem dX9_sealOf_24 : decode cX9_sealOf 24 = .ok (.iload_n 1, 1) := by decide +kernel
theorem dX9_sealOf_25 : decode cX9_sealOf 25 = .ok (.iaload, 1) := by decide +kernel
theorem dX9_sealOf_26 : decode cX9_sealOf 26 = .ok (.iadd, 1) := by decide +kernel
theorem dX9_sealOf_27 : decode cX9_sealOf 27 = .ok (.istore_n 2, 1) := by decide +kernel
theorem dX9_sealOf_28 : decode cX9_sealOf 28 = .ok (.aload_n 0, 1) := by decide +kernel
theorem dX9_sealOf_29 : decode cX9_sealOf 29 = .ok (.iload_n 1, 1) := by decide +kernel
theorem dX9_sealOf_30 : decode cX9_sealOf 30 = .ok (.invokevirtual 40, 3) := by decide +kernel
theorem dX9_sealOf_33 : decode cX9_sealOf 33 = .ok (.ifCond .eq 11, 3) := by decide +kernel
theorem dX9_sealOf_36 : decode cX9_sealOf 36 = .ok (.iload_n 2, 1) := by decide +kernel
theorem dX9_sealOf_37 : decode cX9_sealOf 37 = .ok (.aload_n 0, 1) := by decide +kernel
theorem dX9_sealOf_38 : decode cX9_sealOf 38 = .ok (.iload_n 1, 1) := by decide +kernel
theorem dX9_sealOf_39 : decode cX9_sealOf 39 = .ok (.invokevirtual 44, 3) := by decide +kernel
theorem dX9_sealOf_42 : decode cX9_sealOf 42 = .ok (.iadd, 1) := by decide +kernel
theorem dX9_sealOf_43 : decode cX9_sealOf 43 = .ok (.istore_n 2, 1) := by decide +kernel
theorem dX9_sealOf_44 : decode cX9_sealOf 44 = .ok (.aload_n 0, 1) := by decide +kernel
theorem dX9_sealOf_45 : decode cX9_sealOf 45 = .ok (.getfield 7, 3) := by decide +kernel
theorem dX9_sealOf_48 : decode cX9_sealOf 48 = .ok (.iload_n 1, 1) := by decide +kernel
theorem dX9_sealOf_49 : decode cX9_sealOf 49 = .ok (.iaload, 1) := by decide +kernel
theorem dX9_sealOf_50 : decode cX9_sealOf 50 = .ok (.bipush 7, 2) := by decide +kernel
theorem dX9_sealOf_52 : decode cX9_sealOf 52 = .ok (.if_icmp .ne 14, 3) := by decide +kernel
theorem dX9_sealOf_55 : decode cX9_sealOf 55 = .ok (.iload_n 2, 1) := by decide +kernel
theorem dX9_sealOf_56 : decode cX9_sealOf 56 = .ok (.iconst 3, 1) := by decide +kernel
theorem dX9_sealOf_57 : decode cX9_sealOf 57 = .ok (.aload_n 0, 1) := by decide +kernel
theorem dX9_sealOf_58 : decode cX9_sealOf 58 = .ok (.getfield 22, 3) := by decide +kernel
theorem dX9_sealOf_61 : decode cX9_sealOf 61 = .ok (.iload_n 1, 1) := by decide +kernel
theorem dX9_sealOf_62 : decode cX9_sealOf 62 = .ok (.iaload, 1) := by decide +kernel
theorem dX9_sealOf_63 : decode cX9_sealOf 63 = .ok (.imul, 1) := by decide +kernel
theorem dX9_sealOf_64 : decode cX9_sealOf 64 = .ok (.iadd, 1) := by decide +kernel
theorem dX9_sealOf_65 : decode cX9_sealOf 65 = .ok (.istore_n 2, 1) := by decide +kernel
theorem dX9_sealOf_66 : decode cX9_sealOf 66 = .ok (.iload_n 2, 1) := by decide +kernel
theorem dX9_sealOf_67 : decode cX9_sealOf 67 = .ok (.ireturn, 1) := by decide +kernel
theorem dX9_issue_0 : decode cX9_issue 0 = .ok (.iload_n 1, 1) := by decide +kernel
theorem dX9_issue_1 : decode cX9_issue 1 = .ok (.iconst 0, 1) := by decide +kernel
theorem dX9_issue_2 : decode cX9_issue 2 = .ok (.bipush 7, 2) := by decide +kernel
theorem dX9_issue_4 : decode cX9_issue 4 = .ok (.invokestatic 36, 3) := by decide +kernel
theorem dX9_issue_7 : decode cX9_issue 7 = .ok (.ifCond .eq 13, 3) := by decide +kernel
theorem dX9_issue_10 : decode cX9_issue 10 = .ok (.iload_n 2, 1) := by decide +kernel
theorem dX9_issue_11 : decode cX9_issue 11 = .ok (.iconst 1, 1) := by decide +kernel
theorem dX9_issue_12 : decode cX9_issue 12 = .ok (.ldc 51, 2) := by decide +kernel
theorem dX9_issue_14 : decode cX9_issue 14 = .ok (.invokestatic 36, 3) := by decide +kernel
theorem dX9_issue_17 : decode cX9_issue 17 = .ok (.ifCond .ne 6, 3) := by decide +kernel
theorem dX9_issue_20 : decode cX9_issue 20 = .ok (.bipush (-2), 2) := by decide +kernel
theorem dX9_issue_22 : decode cX9_issue 22 = .ok (.ireturn, 1) := by decide +kernel
theorem dX9_issue_23 : decode cX9_issue 23 = .ok (.aload_n 0, 1) := by decide +kernel
theorem dX9_issue_24 : decode cX9_issue 24 = .ok (.getfield 32, 3) := by decide +kernel
theorem dX9_issue_27 : decode cX9_issue 27 = .ok (.bipush 40, 2) := by decide +kernel
theorem dX9_issue_29 : decode cX9_issue 29 = .ok (.if_icmp .ne 6, 3) := by decide +kernel
theorem dX9_issue_32 : decode cX9_issue 32 = .ok (.bipush (-4), 2) := by decide +kernel
theorem dX9_issue_34 : decode cX9_issue 34 = .ok (.ireturn, 1) := by decide +kernel
theorem dX9_issue_35 : decode cX9_issue 35 = .ok (.aload_n 0, 1) := by decide +kernel
theorem dX9_issue_36 : decode cX9_issue 36 = .ok (.getfield 32, 3) := by decide +kernel
theorem dX9_issue_39 : decode cX9_issue 39 = .ok (.istore_n 3, 1) := by decide +kernel
theorem dX9_issue_40 : decode cX9_issue 40 = .ok (.aload_n 0, 1) := by decide +kernel
theorem dX9_issue_41 : decode cX9_issue 41 = .ok (.getfield 7, 3) := by decide +kernel
theorem dX9_issue_44 : decode cX9_issue 44 = .ok (.iload_n 3, 1) := by decide +kernel
theorem dX9_issue_45 : decode cX9_issue 45 = .ok (.iload_n 1, 1) := by decide +kernel
theorem dX9_issue_46 : decode cX9_issue 46 = .ok (.iastore, 1) := by decide +kernel
theorem dX9_issue_47 : decode cX9_issue 47 = .ok (.aload_n 0, 1) := by decide +kernel
theorem dX9_issue_48 : decode cX9_issue 48 = .ok (.getfield 13, 3) := by decide +kernel
theorem dX9_issue_51 : decode cX9_issue 51 = .ok (.iload_n 3, 1) := by decide +kernel
theorem dX9_issue_52 : decode cX9_issue 52 = .ok (.iload_n 2, 1) := by decide +kernel
theorem dX9_issue_53 : decode cX9_issue 53 = .ok (.iastore, 1) := by decide +kernel
theorem dX9_issue_54 : decode cX9_issue 54 = .ok (.aload_n 0, 1) := by decide +kernel
theorem dX9_issue_55 : decode cX9_issue 55 = .ok (.getfield 16, 3) := by decide +kernel
theorem dX9_issue_58 : decode cX9_issue 58 = .ok (.iload_n 3, 1) := by decide +kernel
theorem dX9_issue_59 : decode cX9_issue 59 = .ok (.iload_n 2, 1) := by decide +kernel
theorem dX9_issue_60 : decode cX9_issue 60 = .ok (.iastore, 1) := by decide +kernel
theorem dX9_issue_61 : decode cX9_issue 61 = .ok (.aload_n 0, 1) := by decide +kernel
theorem dX9_issue_62 : decode cX9_issue 62 = .ok (.getfield 19, 3) := by decide +kernel
theorem dX9_issue_65 : decode cX9_issue 65 = .ok (.iload_n 3, 1) := by decide +kernel
theorem dX9_issue_66 : decode cX9_issue 66 = .ok (.aload_n 0, 1) := by decide +kernel
theorem dX9_issue_67 : decode cX9_issue 67 = .ok (.getfield 52, 3) := by decide +kernel
theorem dX9_issue_70 : decode cX9_issue 70 = .ok (.iastore, 1) := by decide +kernel
theorem dX9_issue_71 : decode cX9_issue 71 = .ok (.aload_n 0, 1) := by decide +kernel
theorem dX9_issue_72 : decode cX9_issue 72 = .ok (.dup, 1) := by decide +kernel
theorem dX9_issue_73 : decode cX9_issue 73 = .ok (.getfield 32, 3) := by decide +kernel
theorem dX9_issue_76 : decode cX9_issue 76 = .ok (.iconst 1, 1) := by decide +kernel
theorem dX9_issue_77 : decode cX9_issue 77 = .ok (.iadd, 1) := by decide +kernel
theorem dX9_issue_78 : decode cX9_issue 78 = .ok (.putfield 32, 3) := by decide +kernel
theorem dX9_issue_81 : decode cX9_issue 81 = .ok (.aload_n 0, 1) := by decide +kernel
theorem dX9_issue_82 : decode cX9_issue 82 = .ok (.dup, 1) := by decide +kernel
theorem dX9_issue_83 : decode cX9_issue 83 = .ok (.getfield 55, 3) := by decide +kernel
theorem dX9_issue_86 : decode cX9_issue 86 = .ok (.iload_n 2, 1) := by decide +kernel
theorem dX9_issue_87 : decode cX9_issue 87 = .ok (.iadd, 1) := by decide +kernel
theorem dX9_issue_88 : decode cX9_issue 88 = .ok (.putfield 55, 3) := by decide +kernel
theorem dX9_issue_91 : decode cX9_issue 91 = .ok (.iload_n 3, 1) := by decide +kernel
theorem dX9_issue_92 : decode cX9_issue 92 = .ok (.ireturn, 1) := by decide +kernel
theorem dX9_pass_0 : decode cX9_pass 0 = .ok (.iload_n 1, 1) := by decide +kernel
theorem dX9_pass_1 : decode cX9_pass 1 = .ok (.iconst 1, 1) := by decide +kernel
theorem dX9_pass_2 : decode cX9_pass 2 = .ok (.sipush 1000, 3) := by decide +kernel
theorem dX9_pass_5 : decode cX9_pass 5 = .ok (.invokestatic 36, 3) := by decide +kernel
theorem dX9_pass_8 : decode cX9_pass 8 = .ok (.ifCond .ne 6, 3) := by decide +kernel
theorem dX9_pass_11 : decode cX9_pass 11 = .ok (.bipush (-2), 2) := by decide +kernel
theorem dX9_pass_13 : decode cX9_pass 13 = .ok (.ireturn, 1) := by decide +kernel
theorem dX9_pass_14 : decode cX9_pass 14 = .ok (.aload_n 0, 1) := by decide +kernel
theorem dX9_pass_15 : decode cX9_pass 15 = .ok (.getfield 52, 3) := by decide +kernel
theorem dX9_pass_18 : decode cX9_pass 18 = .ok (.iload_n 1, 1) := by decide +kernel
theorem dX9_pass_19 : decode cX9_pass 19 = .ok (.iadd, 1) := by decide +kernel
theorem dX9_pass_20 : decode cX9_pass 20 = .ok (.sipush 20000, 3) := by decide +kernel
theorem dX9_pass_23 : decode cX9_pass 23 = .ok (.if_icmp .le 6, 3) := by decide +kernel
theorem dX9_pass_26 : decode cX9_pass 26 = .ok (.bipush (-4), 2) := by decide +kernel
theorem dX9_pass_28 : decode cX9_pass 28 = .ok (.ireturn, 1) := by decide +kernel
theorem dX9_pass_29 : decode cX9_pass 29 = .ok (.aload_n 0, 1) := by decide +kernel
theorem dX9_pass_30 : decode cX9_pass 30 = .ok (.dup, 1) := by decide +kernel
theorem dX9_pass_31 : decode cX9_pass 31 = .ok (.getfield 52, 3) := by decide +kernel
theorem dX9_pass_34 : decode cX9_pass 34 = .ok (.iload_n 1, 1) := by decide +kernel
theorem dX9_pass_35 : decode cX9_pass 35 = .ok (.iadd, 1) := by decide +kernel
theorem dX9_pass_36 : decode cX9_pass 36 = .ok (.putfield 52, 3) := by decide +kernel
theorem dX9_pass_39 : decode cX9_pass 39 = .ok (.aload_n 0, 1) := by decide +kernel
theorem dX9_pass_40 : decode cX9_pass 40 = .ok (.getfield 52, 3) := by decide +kernel
theorem dX9_pass_43 : decode cX9_pass 43 = .ok (.ireturn, 1) := by decide +kernel
theorem dX9_value_0 : decode cX9_value 0 = .ok (.aload_n 0, 1) := by decide +kernel
theorem dX9_value_1 : decode cX9_value 1 = .ok (.iload_n 1, 1) := by decide +kernel
theorem dX9_value_2 : decode cX9_value 2 = .ok (.invokevirtual 58, 3) := by decide +kernel
theorem dX9_value_5 : decode cX9_value 5 = .ok (.ifCond .ne 5, 3) := by decide +kernel
theorem dX9_value_8 : decode cX9_value 8 = .ok (.iconst (-1), 1) := by decide +kernel
theorem dX9_value_9 : decode cX9_value 9 = .ok (.ireturn, 1) := by decide +kernel
theorem dX9_value_10 : decode cX9_value 10 = .ok (.iload_n 2, 1) := by decide +kernel
theorem dX9_value_11 : decode cX9_value 11 = .ok (.iconst 0, 1) := by decide +kernel
theorem dX9_value_12 : decode cX9_value 12 = .ok (.sipush 20000, 3) := by decide +kernel
theorem dX9_value_15 : decode cX9_value 15 = .ok (.invokestatic 36, 3) := by decide +kernel
theorem dX9_value_18 : decode cX9_value 18 = .ok (.ifCond .eq 12, 3) := by decide +kernel
theorem dX9_value_21 : decode cX9_value 21 = .ok (.aload_n 0, 1) := by decide +kernel
theorem dX9_value_22 : decode cX9_value 22 = .ok (.iload_n 1, 1) := by decide +kernel
theorem dX9_value_23 : decode cX9_value 23 = .ok (.iload_n 2, 1) := by decide +kernel
theorem dX9_value_24 : decode cX9_value 24 = .ok (.invokevirtual 61, 3) := by decide +kernel
theorem dX9_value_27 : decode cX9_value 27 = .ok (.goto 5, 3) := by decide +kernel
theorem dX9_value_30 : decode cX9_value 30 = .ok (.bipush (-2), 2) := by decide +kernel
theorem dX9_value_32 : decode cX9_value 32 = .ok (.ireturn, 1) := by decide +kernel
theorem dX9_fee_0 : decode cX9_fee 0 = .ok (.aload_n 0, 1) := by decide +kernel
theorem dX9_fee_1 : decode cX9_fee 1 = .ok (.iload_n 1, 1) := by decide +kernel
theorem dX9_fee_2 : decode cX9_fee 2 = .ok (.invokevirtual 58, 3) := by decide +kernel
theorem dX9_fee_5 : decode cX9_fee 5 = .ok (.ifCond .ne 5, 3) := by decide +kernel
theorem dX9_fee_8 : decode cX9_fee 8 = .ok (.iconst (-1), 1) := by decide +kernel
theorem dX9_fee_9 : decode cX9_fee 9 = .ok (.ireturn, 1) := by decide +kernel
theorem dX9_fee_10 : decode cX9_fee 10 = .ok (.iload_n 2, 1) := by decide +kernel
theorem dX9_fee_11 : decode cX9_fee 11 = .ok (.iconst 1, 1) := by decide +kernel
theorem dX9_fee_12 : decode cX9_fee 12 = .ok (.ldc 51, 2) := by decide +kernel
theorem dX9_fee_14 : decode cX9_fee 14 = .ok (.invokestatic 36, 3) := by decide +kernel
theorem dX9_fee_17 : decode cX9_fee 17 = .ok (.ifCond .eq 12, 3) := by decide +kernel
theorem dX9_fee_20 : decode cX9_fee 20 = .ok (.aload_n 0, 1) := by decide +kernel
theorem dX9_fee_21 : decode cX9_fee 21 = .ok (.iload_n 1, 1) := by decide +kernel
theorem dX9_fee_22 : decode cX9_fee 22 = .ok (.iload_n 2, 1) := by decide +kernel
theorem dX9_fee_23 : decode cX9_fee 23 = .ok (.invokevirtual 65, 3) := by decide +kernel
theorem dX9_fee_26 : decode cX9_fee 26 = .ok (.goto 5, 3) := by decide +kernel
theorem dX9_fee_29 : decode cX9_fee 29 = .ok (.bipush (-2), 2) := by decide +kernel
theorem dX9_fee_31 : decode cX9_fee 31 = .ok (.ireturn, 1) := by decide +kernel
theorem dX9_spend_0 : decode cX9_spend 0 = .ok (.aload_n 0, 1) := by decide +kernel
theorem dX9_spend_1 : decode cX9_spend 1 = .ok (.iload_n 1, 1) := by decide +kernel
theorem dX9_spend_2 : decode cX9_spend 2 = .ok (.invokevirtual 58, 3) := by decide +kernel
theorem dX9_spend_5 : decode cX9_spend 5 = .ok (.ifCond .ne 5, 3) := by decide +kernel
theorem dX9_spend_8 : decode cX9_spend 8 = .ok (.iconst (-1), 1) := by decide +kernel
theorem dX9_spend_9 : decode cX9_spend 9 = .ok (.ireturn, 1) := by decide +kernel
theorem dX9_spend_10 : decode cX9_spend 10 = .ok (.iload_n 2, 1) := by decide +kernel
theorem dX9_spend_11 : decode cX9_spend 11 = .ok (.iconst 1, 1) := by decide +kernel
theorem dX9_spend_12 : decode cX9_spend 12 = .ok (.ldc 51, 2) := by decide +kernel
theorem dX9_spend_14 : decode cX9_spend 14 = .ok (.invokestatic 36, 3) := by decide +kernel
theorem dX9_spend_17 : decode cX9_spend 17 = .ok (.ifCond .ne 6, 3) := by decide +kernel
theorem dX9_spend_20 : decode cX9_spend 20 = .ok (.bipush (-2), 2) := by decide +kernel
theorem dX9_spend_22 : decode cX9_spend 22 = .ok (.ireturn, 1) := by decide +kernel
theorem dX9_spend_23 : decode cX9_spend 23 = .ok (.aload_n 0, 1) := by decide +kernel
theorem dX9_spend_24 : decode cX9_spend 24 = .ok (.getfield 7, 3) := by decide +kernel
theorem dX9_spend_27 : decode cX9_spend 27 = .ok (.iload_n 1, 1) := by decide +kernel
theorem dX9_spend_28 : decode cX9_spend 28 = .ok (.iaload, 1) := by decide +kernel
theorem dX9_spend_29 : decode cX9_spend 29 = .ok (.iconst 3, 1) := by decide +kernel
theorem dX9_spend_30 : decode cX9_spend 30 = .ok (.if_icmp .ne 21, 3) := by decide +kernel
theorem dX9_spend_33 : decode cX9_spend 33 = .ok (.aload_n 0, 1) := by decide +kernel
theorem dX9_spend_34 : decode cX9_spend 34 = .ok (.getfield 25, 3) := by decide +kernel
theorem dX9_spend_37 : decode cX9_spend 37 = .ok (.iload_n 1, 1) := by decide +kernel
theorem dX9_spend_38 : decode cX9_spend 38 = .ok (.iaload, 1) := by decide +kernel
theorem dX9_spend_39 : decode cX9_spend 39 = .ok (.aload_n 0, 1) := by decide +kernel
theorem dX9_spend_40 : decode cX9_spend 40 = .ok (.getfield 52, 3) := by decide +kernel
theorem dX9_spend_43 : decode cX9_spend 43 = .ok (.iconst 1, 1) := by decide +kernel
theorem dX9_spend_44 : decode cX9_spend 44 = .ok (.iadd, 1) := by decide +kernel
theorem dX9_spend_45 : decode cX9_spend 45 = .ok (.if_icmp .ne 6, 3) := by decide +kernel
theorem dX9_spend_48 : decode cX9_spend 48 = .ok (.bipush (-6), 2) := by decide +kernel
theorem dX9_spend_50 : decode cX9_spend 50 = .ok (.ireturn, 1) := by decide +kernel
theorem dX9_spend_51 : decode cX9_spend 51 = .ok (.aload_n 0, 1) := by decide +kernel
theorem dX9_spend_52 : decode cX9_spend 52 = .ok (.iload_n 1, 1) := by decide +kernel
theorem dX9_spend_53 : decode cX9_spend 53 = .ok (.iload_n 2, 1) := by decide +kernel
theorem dX9_spend_54 : decode cX9_spend 54 = .ok (.invokevirtual 65, 3) := by decide +kernel
theorem dX9_spend_57 : decode cX9_spend 57 = .ok (.istore_n 3, 1) := by decide +kernel
theorem dX9_spend_58 : decode cX9_spend 58 = .ok (.iload_n 2, 1) := by decide +kernel
theorem dX9_spend_59 : decode cX9_spend 59 = .ok (.aload_n 0, 1) := by decide +kernel
theorem dX9_spend_60 : decode cX9_spend 60 = .ok (.iload_n 1, 1) := by decide +kernel
theorem dX9_spend_61 : decode cX9_spend 61 = .ok (.aload_n 0, 1) := by decide +kernel
theorem dX9_spend_62 : decode cX9_spend 62 = .ok (.getfield 52, 3) := by decide +kernel
theorem dX9_spend_65 : decode cX9_spend 65 = .ok (.invokevirtual 61, 3) := by decide +kernel
theorem dX9_spend_68 : decode cX9_spend 68 = .ok (.if_icmp .gt 15, 3) := by decide +kernel
theorem dX9_spend_71 : decode cX9_spend 71 = .ok (.iload_n 2, 1) := by decide +kernel
theorem dX9_spend_72 : decode cX9_spend 72 = .ok (.iload_n 3, 1) := by decide +kernel
theorem dX9_spend_73 : decode cX9_spend 73 = .ok (.iadd, 1) := by decide +kernel
theorem dX9_spend_74 : decode cX9_spend 74 = .ok (.aload_n 0, 1) := by decide +kernel
theorem dX9_spend_75 : decode cX9_spend 75 = .ok (.getfield 16, 3) := by decide +kernel
theorem dX9_spend_78 : decode cX9_spend 78 = .ok (.iload_n 1, 1) := by decide +kernel
theorem dX9_spend_79 : decode cX9_spend 79 = .ok (.iaload, 1) := by decide +kernel
theorem dX9_spend_80 : decode cX9_spend 80 = .ok (.if_icmp .le 6, 3) := by decide +kernel
theorem dX9_spend_83 : decode cX9_spend 83 = .ok (.bipush (-5), 2) := by decide +kernel
theorem dX9_spend_85 : decode cX9_spend 85 = .ok (.ireturn, 1) := by decide +kernel
theorem dX9_spend_86 : decode cX9_spend 86 = .ok (.aload_n 0, 1) := by decide +kernel
theorem dX9_spend_87 : decode cX9_spend 87 = .ok (.getfield 16, 3) := by decide +kernel
theorem dX9_spend_90 : decode cX9_spend 90 = .ok (.iload_n 1, 1) := by decide +kernel
theorem dX9_spend_91 : decode cX9_spend 91 = .ok (.dup2, 1) := by decide +kernel
theorem dX9_spend_92 : decode cX9_spend 92 = .ok (.iaload, 1) := by decide +kernel
theorem dX9_spend_93 : decode cX9_spend 93 = .ok (.iload_n 2, 1) := by decide +kernel
theorem dX9_spend_94 : decode cX9_spend 94 = .ok (.iload_n 3, 1) := by decide +kernel
theorem dX9_spend_95 : decode cX9_spend 95 = .ok (.iadd, 1) := by decide +kernel
theorem dX9_spend_96 : decode cX9_spend 96 = .ok (.isub, 1) := by decide +kernel
theorem dX9_spend_97 : decode cX9_spend 97 = .ok (.iastore, 1) := by decide +kernel
theorem dX9_spend_98 : decode cX9_spend 98 = .ok (.aload_n 0, 1) := by decide +kernel
theorem dX9_spend_99 : decode cX9_spend 99 = .ok (.getfield 25, 3) := by decide +kernel
theorem dX9_spend_102 : decode cX9_spend 102 = .ok (.iload_n 1, 1) := by decide +kernel
theorem dX9_spend_103 : decode cX9_spend 103 = .ok (.aload_n 0, 1) := by decide +kernel
theorem dX9_spend_104 : decode cX9_spend 104 = .ok (.getfield 52, 3) := by decide +kernel
theorem dX9_spend_107 : decode cX9_spend 107 = .ok (.iconst 1, 1) := by decide +kernel
theorem dX9_spend_108 : decode cX9_spend 108 = .ok (.iadd, 1) := by decide +kernel
theorem dX9_spend_109 : decode cX9_spend 109 = .ok (.iastore, 1) := by decide +kernel
theorem dX9_spend_110 : decode cX9_spend 110 = .ok (.aload_n 0, 1) := by decide +kernel
theorem dX9_spend_111 : decode cX9_spend 111 = .ok (.dup, 1) := by decide +kernel
theorem dX9_spend_112 : decode cX9_spend 112 = .ok (.getfield 68, 3) := by decide +kernel
theorem dX9_spend_115 : decode cX9_spend 115 = .ok (.iload_n 2, 1) := by decide +kernel
theorem dX9_spend_116 : decode cX9_spend 116 = .ok (.iadd, 1) := by decide +kernel
theorem dX9_spend_117 : decode cX9_spend 117 = .ok (.putfield 68, 3) := by decide +kernel
theorem dX9_spend_120 : decode cX9_spend 120 = .ok (.aload_n 0, 1) := by decide +kernel
theorem dX9_spend_121 : decode cX9_spend 121 = .ok (.dup, 1) := by decide +kernel
theorem dX9_spend_122 : decode cX9_spend 122 = .ok (.getfield 71, 3) := by decide +kernel
theorem dX9_spend_125 : decode cX9_spend 125 = .ok (.iload_n 3, 1) := by decide +kernel
theorem dX9_spend_126 : decode cX9_spend 126 = .ok (.iadd, 1) := by decide +kernel
theorem dX9_spend_127 : decode cX9_spend 127 = .ok (.putfield 71, 3) := by decide +kernel
theorem dX9_spend_130 : decode cX9_spend 130 = .ok (.aload_n 0, 1) := by decide +kernel
theorem dX9_spend_131 : decode cX9_spend 131 = .ok (.iload_n 1, 1) := by decide +kernel
theorem dX9_spend_132 : decode cX9_spend 132 = .ok (.invokevirtual 48, 3) := by decide +kernel
theorem dX9_spend_135 : decode cX9_spend 135 = .ok (.ifCond .eq 16, 3) := by decide +kernel
theorem dX9_spend_138 : decode cX9_spend 138 = .ok (.aload_n 0, 1) := by decide +kernel
theorem dX9_spend_139 : decode cX9_spend 139 = .ok (.getfield 22, 3) := by decide +kernel
theorem dX9_spend_142 : decode cX9_spend 142 = .ok (.iload_n 1, 1) := by decide +kernel
theorem dX9_spend_143 : decode cX9_spend 143 = .ok (.dup2, 1) := by decide +kernel
theorem dX9_spend_144 : decode cX9_spend 144 = .ok (.iaload, 1) := by decide +kernel
theorem dX9_spend_145 : decode cX9_spend 145 = .ok (.iload_n 2, 1) := by decide +kernel
theorem dX9_spend_146 : decode cX9_spend 146 = .ok (.bipush 100, 2) := by decide +kernel
theorem dX9_spend_148 : decode cX9_spend 148 = .ok (.idiv, 1) := by decide +kernel
theorem dX9_spend_149 : decode cX9_spend 149 = .ok (.iadd, 1) := by decide +kernel
theorem dX9_spend_150 : decode cX9_spend 150 = .ok (.iastore, 1) := by decide +kernel
theorem dX9_spend_151 : decode cX9_spend 151 = .ok (.aload_n 0, 1) := by decide +kernel
theorem dX9_spend_152 : decode cX9_spend 152 = .ok (.getfield 16, 3) := by decide +kernel
theorem dX9_spend_155 : decode cX9_spend 155 = .ok (.iload_n 1, 1) := by decide +kernel
theorem dX9_spend_156 : decode cX9_spend 156 = .ok (.iaload, 1) := by decide +kernel
theorem dX9_spend_157 : decode cX9_spend 157 = .ok (.ireturn, 1) := by decide +kernel
theorem dX9_seal_0 : decode cX9_seal 0 = .ok (.aload_n 0, 1) := by decide +kernel
theorem dX9_seal_1 : decode cX9_seal 1 = .ok (.iload_n 1, 1) := by decide +kernel
theorem dX9_seal_2 : decode cX9_seal 2 = .ok (.invokevirtual 58, 3) := by decide +kernel
theorem dX9_seal_5 : decode cX9_seal 5 = .ok (.ifCond .eq 11, 3) := by decide +kernel
theorem dX9_seal_8 : decode cX9_seal 8 = .ok (.aload_n 0, 1) := by decide +kernel
theorem dX9_seal_9 : decode cX9_seal 9 = .ok (.iload_n 1, 1) := by decide +kernel
theorem dX9_seal_10 : decode cX9_seal 10 = .ok (.invokevirtual 74, 3) := by decide +kernel
theorem dX9_seal_13 : decode cX9_seal 13 = .ok (.goto 4, 3) := by decide +kernel
theorem dX9_seal_16 : decode cX9_seal 16 = .ok (.iconst (-1), 1) := by decide +kernel
theorem dX9_seal_17 : decode cX9_seal 17 = .ok (.ireturn, 1) := by decide +kernel
theorem dX9_mark_0 : decode cX9_mark 0 = .ok (.aload_n 0, 1) := by decide +kernel
theorem dX9_mark_1 : decode cX9_mark 1 = .ok (.iload_n 1, 1) := by decide +kernel
theorem dX9_mark_2 : decode cX9_mark 2 = .ok (.invokevirtual 58, 3) := by decide +kernel
theorem dX9_mark_5 : decode cX9_mark 5 = .ok (.ifCond .ne 5, 3) := by decide +kernel
theorem dX9_mark_8 : decode cX9_mark 8 = .ok (.iconst (-1), 1) := by decide +kernel
theorem dX9_mark_9 : decode cX9_mark 9 = .ok (.ireturn, 1) := by decide +kernel
theorem dX9_mark_10 : decode cX9_mark 10 = .ok (.iload_n 2, 1) := by decide +kernel
theorem dX9_mark_11 : decode cX9_mark 11 = .ok (.iconst 0, 1) := by decide +kernel
theorem dX9_mark_12 : decode cX9_mark 12 = .ok (.sipush 999, 3) := by decide +kernel
theorem dX9_mark_15 : decode cX9_mark 15 = .ok (.invokestatic 36, 3) := by decide +kernel
theorem dX9_mark_18 : decode cX9_mark 18 = .ok (.ifCond .ne 6, 3) := by decide +kernel
theorem dX9_mark_21 : decode cX9_mark 21 = .ok (.bipush (-2), 2) := by decide +kernel
theorem dX9_mark_23 : decode cX9_mark 23 = .ok (.ireturn, 1) := by decide +kernel
theorem dX9_mark_24 : decode cX9_mark 24 = .ok (.aload_n 0, 1) := by decide +kernel
theorem dX9_mark_25 : decode cX9_mark 25 = .ok (.getfield 7, 3) := by decide +kernel
theorem dX9_mark_28 : decode cX9_mark 28 = .ok (.iload_n 1, 1) := by decide +kernel
theorem dX9_mark_29 : decode cX9_mark 29 = .ok (.iaload, 1) := by decide +kernel
theorem dX9_mark_30 : decode cX9_mark 30 = .ok (.iconst 5, 1) := by decide +kernel
theorem dX9_mark_31 : decode cX9_mark 31 = .ok (.if_icmp .lt 16, 3) := by decide +kernel
theorem dX9_mark_34 : decode cX9_mark 34 = .ok (.aload_n 0, 1) := by decide +kernel
theorem dX9_mark_35 : decode cX9_mark 35 = .ok (.iload_n 1, 1) := by decide +kernel
theorem dX9_mark_36 : decode cX9_mark 36 = .ok (.invokevirtual 74, 3) := by decide +kernel
theorem dX9_mark_39 : decode cX9_mark 39 = .ok (.bipush 7, 2) := by decide +kernel
theorem dX9_mark_41 : decode cX9_mark 41 = .ok (.imul, 1) := by decide +kernel
theorem dX9_mark_42 : decode cX9_mark 42 = .ok (.iload_n 2, 1) := by decide +kernel
theorem dX9_mark_43 : decode cX9_mark 43 = .ok (.iadd, 1) := by decide +kernel
theorem dX9_mark_44 : decode cX9_mark 44 = .ok (.goto 5, 3) := by decide +kernel
theorem dX9_mark_47 : decode cX9_mark 47 = .ok (.bipush (-3), 2) := by decide +kernel
theorem dX9_mark_49 : decode cX9_mark 49 = .ok (.ireturn, 1) := by decide +kernel
theorem dX9_daysLeft_0 : decode cX9_daysLeft 0 = .ok (.aload_n 0, 1) := by decide +kernel
theorem dX9_daysLeft_1 : decode cX9_daysLeft 1 = .ok (.iload_n 1, 1) := by decide +kernel
theorem dX9_daysLeft_2 : decode cX9_daysLeft 2 = .ok (.invokevirtual 58, 3) := by decide +kernel
theorem dX9_daysLeft_5 : decode cX9_daysLeft 5 = .ok (.ifCond .ne 5, 3) := by decide +kernel
theorem dX9_daysLeft_8 : decode cX9_daysLeft 8 = .ok (.iconst (-1), 1) := by decide +kernel
theorem dX9_daysLeft_9 : decode cX9_daysLeft 9 = .ok (.ireturn, 1) := by decide +kernel
theorem dX9_daysLeft_10 : decode cX9_daysLeft 10 = .ok (.iload_n 2, 1) := by decide +kernel
theorem dX9_daysLeft_11 : decode cX9_daysLeft 11 = .ok (.iconst 0, 1) := by decide +kernel
theorem dX9_daysLeft_12 : decode cX9_daysLeft 12 = .ok (.sipush 20000, 3) := by decide +kernel
theorem dX9_daysLeft_15 : decode cX9_daysLeft 15 = .ok (.invokestatic 36, 3) := by decide +kernel
theorem dX9_daysLeft_18 : decode cX9_daysLeft 18 = .ok (.ifCond .ne 6, 3) := by decide +kernel
theorem dX9_daysLeft_21 : decode cX9_daysLeft 21 = .ok (.bipush (-2), 2) := by decide +kernel
theorem dX9_daysLeft_23 : decode cX9_daysLeft 23 = .ok (.ireturn, 1) := by decide +kernel
theorem dX9_daysLeft_24 : decode cX9_daysLeft 24 = .ok (.aload_n 0, 1) := by decide +kernel
theorem dX9_daysLeft_25 : decode cX9_daysLeft 25 = .ok (.iload_n 1, 1) := by decide +kernel
theorem dX9_daysLeft_26 : decode cX9_daysLeft 26 = .ok (.invokevirtual 40, 3) := by decide +kernel
theorem dX9_daysLeft_29 : decode cX9_daysLeft 29 = .ok (.ifCond .ne 6, 3) := by decide +kernel
theorem dX9_daysLeft_32 : decode cX9_daysLeft 32 = .ok (.bipush (-3), 2) := by decide +kernel
theorem dX9_daysLeft_34 : decode cX9_daysLeft 34 = .ok (.ireturn, 1) := by decide +kernel
theorem dX9_daysLeft_35 : decode cX9_daysLeft 35 = .ok (.aload_n 0, 1) := by decide +kernel
theorem dX9_daysLeft_36 : decode cX9_daysLeft 36 = .ok (.iload_n 1, 1) := by decide +kernel
theorem dX9_daysLeft_37 : decode cX9_daysLeft 37 = .ok (.invokevirtual 44, 3) := by decide +kernel
theorem dX9_daysLeft_40 : decode cX9_daysLeft 40 = .ok (.iload_n 2, 1) := by decide +kernel
theorem dX9_daysLeft_41 : decode cX9_daysLeft 41 = .ok (.isub, 1) := by decide +kernel
theorem dX9_daysLeft_42 : decode cX9_daysLeft 42 = .ok (.istore_n 3, 1) := by decide +kernel
theorem dX9_daysLeft_43 : decode cX9_daysLeft 43 = .ok (.iload_n 3, 1) := by decide +kernel
theorem dX9_daysLeft_44 : decode cX9_daysLeft 44 = .ok (.ifCond .le 7, 3) := by decide +kernel
theorem dX9_daysLeft_47 : decode cX9_daysLeft 47 = .ok (.iload_n 3, 1) := by decide +kernel
theorem dX9_daysLeft_48 : decode cX9_daysLeft 48 = .ok (.goto 4, 3) := by decide +kernel
theorem dX9_daysLeft_51 : decode cX9_daysLeft 51 = .ok (.iconst 0, 1) := by decide +kernel
theorem dX9_daysLeft_52 : decode cX9_daysLeft 52 = .ok (.ireturn, 1) := by decide +kernel
theorem dX9_lapse_0 : decode cX9_lapse 0 = .ok (.iconst 0, 1) := by decide +kernel
theorem dX9_lapse_1 : decode cX9_lapse 1 = .ok (.istore_n 1, 1) := by decide +kernel
theorem dX9_lapse_2 : decode cX9_lapse 2 = .ok (.iconst 0, 1) := by decide +kernel
theorem dX9_lapse_3 : decode cX9_lapse 3 = .ok (.istore_n 2, 1) := by decide +kernel
theorem dX9_lapse_4 : decode cX9_lapse 4 = .ok (.iload_n 2, 1) := by decide +kernel
theorem dX9_lapse_5 : decode cX9_lapse 5 = .ok (.aload_n 0, 1) := by decide +kernel
theorem dX9_lapse_6 : decode cX9_lapse 6 = .ok (.getfield 32, 3) := by decide +kernel
theorem dX9_lapse_9 : decode cX9_lapse 9 = .ok (.if_icmp .ge 57, 3) := by decide +kernel
theorem dX9_lapse_12 : decode cX9_lapse 12 = .ok (.aload_n 0, 1) := by decide +kernel
theorem dX9_lapse_13 : decode cX9_lapse 13 = .ok (.getfield 28, 3) := by decide +kernel
theorem dX9_lapse_16 : decode cX9_lapse 16 = .ok (.iload_n 2, 1) := by decide +kernel
theorem dX9_lapse_17 : decode cX9_lapse 17 = .ok (.baload, 1) := by decide +kernel
theorem dX9_lapse_18 : decode cX9_lapse 18 = .ok (.ifCond .ne 42, 3) := by decide +kernel
theorem dX9_lapse_21 : decode cX9_lapse 21 = .ok (.aload_n 0, 1) := by decide +kernel
theorem dX9_lapse_22 : decode cX9_lapse 22 = .ok (.iload_n 2, 1) := by decide +kernel
theorem dX9_lapse_23 : decode cX9_lapse 23 = .ok (.invokevirtual 40, 3) := by decide +kernel
theorem dX9_lapse_26 : decode cX9_lapse 26 = .ok (.ifCond .eq 34, 3) := by decide +kernel
theorem dX9_lapse_29 : decode cX9_lapse 29 = .ok (.aload_n 0, 1) := by decide +kernel
theorem dX9_lapse_30 : decode cX9_lapse 30 = .ok (.iload_n 2, 1) := by decide +kernel
theorem dX9_lapse_31 : decode cX9_lapse 31 = .ok (.invokevirtual 44, 3) := by decide +kernel
theorem dX9_lapse_34 : decode cX9_lapse 34 = .ok (.aload_n 0, 1) := by decide +kernel
theorem dX9_lapse_35 : decode cX9_lapse 35 = .ok (.getfield 52, 3) := by decide +kernel
theorem dX9_lapse_38 : decode cX9_lapse 38 = .ok (.if_icmp .lt 6, 3) := by decide +kernel
theorem dX9_lapse_41 : decode cX9_lapse 41 = .ok (.goto 19, 3) := by decide +kernel
theorem dX9_lapse_44 : decode cX9_lapse 44 = .ok (.iload_n 1, 1) := by decide +kernel
theorem dX9_lapse_45 : decode cX9_lapse 45 = .ok (.aload_n 0, 1) := by decide +kernel
theorem dX9_lapse_46 : decode cX9_lapse 46 = .ok (.getfield 16, 3) := by decide +kernel
theorem dX9_lapse_49 : decode cX9_lapse 49 = .ok (.iload_n 2, 1) := by decide +kernel
theorem dX9_lapse_50 : decode cX9_lapse 50 = .ok (.iaload, 1) := by decide +kernel
theorem dX9_lapse_51 : decode cX9_lapse 51 = .ok (.iadd, 1) := by decide +kernel
theorem dX9_lapse_52 : decode cX9_lapse 52 = .ok (.istore_n 1, 1) := by decide +kernel
theorem dX9_lapse_53 : decode cX9_lapse 53 = .ok (.aload_n 0, 1) := by decide +kernel
theorem dX9_lapse_54 : decode cX9_lapse 54 = .ok (.getfield 16, 3) := by decide +kernel
theorem dX9_lapse_57 : decode cX9_lapse 57 = .ok (.iload_n 2, 1) := by decide +kernel
theorem dX9_lapse_58 : decode cX9_lapse 58 = .ok (.iconst 0, 1) := by decide +kernel
theorem dX9_lapse_59 : decode cX9_lapse 59 = .ok (.iastore, 1) := by decide +kernel
theorem dX9_lapse_60 : decode cX9_lapse 60 = .ok (.iinc 2 1, 3) := by decide +kernel
theorem dX9_lapse_63 : decode cX9_lapse 63 = .ok (.goto (-59), 3) := by decide +kernel
theorem dX9_lapse_66 : decode cX9_lapse 66 = .ok (.aload_n 0, 1) := by decide +kernel
theorem dX9_lapse_67 : decode cX9_lapse 67 = .ok (.dup, 1) := by decide +kernel
theorem dX9_lapse_68 : decode cX9_lapse 68 = .ok (.getfield 77, 3) := by decide +kernel
theorem dX9_lapse_71 : decode cX9_lapse 71 = .ok (.iload_n 1, 1) := by decide +kernel
theorem dX9_lapse_72 : decode cX9_lapse 72 = .ok (.iadd, 1) := by decide +kernel
theorem dX9_lapse_73 : decode cX9_lapse 73 = .ok (.putfield 77, 3) := by decide +kernel
theorem dX9_lapse_76 : decode cX9_lapse 76 = .ok (.iload_n 1, 1) := by decide +kernel
theorem dX9_lapse_77 : decode cX9_lapse 77 = .ok (.ireturn, 1) := by decide +kernel
theorem dX9_merge_0 : decode cX9_merge 0 = .ok (.aload_n 0, 1) := by decide +kernel
theorem dX9_merge_1 : decode cX9_merge 1 = .ok (.iload_n 1, 1) := by decide +kernel
theorem dX9_merge_2 : decode cX9_merge 2 = .ok (.invokevirtual 58, 3) := by decide +kernel
theorem dX9_merge_5 : decode cX9_merge 5 = .ok (.ifCond .eq 11, 3) := by decide +kernel
theorem dX9_merge_8 : decode cX9_merge 8 = .ok (.aload_n 0, 1) := by decide +kernel
theorem dX9_merge_9 : decode cX9_merge 9 = .ok (.iload_n 2, 1) := by decide +kernel
theorem dX9_merge_10 : decode cX9_merge 10 = .ok (.invokevirtual 58, 3) := by decide +kernel
theorem dX9_merge_13 : decode cX9_merge 13 = .ok (.ifCond .ne 5, 3) := by decide +kernel
theorem dX9_merge_16 : decode cX9_merge 16 = .ok (.iconst (-1), 1) := by decide +kernel
theorem dX9_merge_17 : decode cX9_merge 17 = .ok (.ireturn, 1) := by decide +kernel
theorem dX9_merge_18 : decode cX9_merge 18 = .ok (.iload_n 1, 1) := by decide +kernel
theorem dX9_merge_19 : decode cX9_merge 19 = .ok (.iload_n 2, 1) := by decide +kernel
theorem dX9_merge_20 : decode cX9_merge 20 = .ok (.if_icmp .ne 6, 3) := by decide +kernel
theorem dX9_merge_23 : decode cX9_merge 23 = .ok (.bipush (-2), 2) := by decide +kernel
theorem dX9_merge_25 : decode cX9_merge 25 = .ok (.ireturn, 1) := by decide +kernel
theorem dX9_merge_26 : decode cX9_merge 26 = .ok (.aload_n 0, 1) := by decide +kernel
theorem dX9_merge_27 : decode cX9_merge 27 = .ok (.getfield 7, 3) := by decide +kernel
theorem dX9_merge_30 : decode cX9_merge 30 = .ok (.iload_n 1, 1) := by decide +kernel
theorem dX9_merge_31 : decode cX9_merge 31 = .ok (.iaload, 1) := by decide +kernel
theorem dX9_merge_32 : decode cX9_merge 32 = .ok (.aload_n 0, 1) := by decide +kernel
theorem dX9_merge_33 : decode cX9_merge 33 = .ok (.getfield 7, 3) := by decide +kernel
theorem dX9_merge_36 : decode cX9_merge 36 = .ok (.iload_n 2, 1) := by decide +kernel
theorem dX9_merge_37 : decode cX9_merge 37 = .ok (.iaload, 1) := by decide +kernel
theorem dX9_merge_38 : decode cX9_merge 38 = .ok (.if_icmp .eq 6, 3) := by decide +kernel
theorem dX9_merge_41 : decode cX9_merge 41 = .ok (.bipush (-3), 2) := by decide +kernel
theorem dX9_merge_43 : decode cX9_merge 43 = .ok (.ireturn, 1) := by decide +kernel
theorem dX9_merge_44 : decode cX9_merge 44 = .ok (.aload_n 0, 1) := by decide +kernel
theorem dX9_merge_45 : decode cX9_merge 45 = .ok (.getfield 13, 3) := by decide +kernel
theorem dX9_merge_48 : decode cX9_merge 48 = .ok (.iload_n 1, 1) := by decide +kernel
theorem dX9_merge_49 : decode cX9_merge 49 = .ok (.iaload, 1) := by decide +kernel
theorem dX9_merge_50 : decode cX9_merge 50 = .ok (.aload_n 0, 1) := by decide +kernel
theorem dX9_merge_51 : decode cX9_merge 51 = .ok (.getfield 13, 3) := by decide +kernel
theorem dX9_merge_54 : decode cX9_merge 54 = .ok (.iload_n 2, 1) := by decide +kernel
theorem dX9_merge_55 : decode cX9_merge 55 = .ok (.iaload, 1) := by decide +kernel
theorem dX9_merge_56 : decode cX9_merge 56 = .ok (.iadd, 1) := by decide +kernel
theorem dX9_merge_57 : decode cX9_merge 57 = .ok (.ldc 51, 2) := by decide +kernel
theorem dX9_merge_59 : decode cX9_merge 59 = .ok (.if_icmp .le 6, 3) := by decide +kernel
theorem dX9_merge_62 : decode cX9_merge 62 = .ok (.bipush (-4), 2) := by decide +kernel
theorem dX9_merge_64 : decode cX9_merge 64 = .ok (.ireturn, 1) := by decide +kernel
theorem dX9_merge_65 : decode cX9_merge 65 = .ok (.aload_n 0, 1) := by decide +kernel
theorem dX9_merge_66 : decode cX9_merge 66 = .ok (.getfield 13, 3) := by decide +kernel
theorem dX9_merge_69 : decode cX9_merge 69 = .ok (.iload_n 1, 1) := by decide +kernel
theorem dX9_merge_70 : decode cX9_merge 70 = .ok (.dup2, 1) := by decide +kernel
theorem dX9_merge_71 : decode cX9_merge 71 = .ok (.iaload, 1) := by decide +kernel
theorem dX9_merge_72 : decode cX9_merge 72 = .ok (.aload_n 0, 1) := by decide +kernel
theorem dX9_merge_73 : decode cX9_merge 73 = .ok (.getfield 13, 3) := by decide +kernel
theorem dX9_merge_76 : decode cX9_merge 76 = .ok (.iload_n 2, 1) := by decide +kernel
theorem dX9_merge_77 : decode cX9_merge 77 = .ok (.iaload, 1) := by decide +kernel
theorem dX9_merge_78 : decode cX9_merge 78 = .ok (.iadd, 1) := by decide +kernel
theorem dX9_merge_79 : decode cX9_merge 79 = .ok (.iastore, 1) := by decide +kernel
theorem dX9_merge_80 : decode cX9_merge 80 = .ok (.aload_n 0, 1) := by decide +kernel
theorem dX9_merge_81 : decode cX9_merge 81 = .ok (.getfield 16, 3) := by decide +kernel
theorem dX9_merge_84 : decode cX9_merge 84 = .ok (.iload_n 1, 1) := by decide +kernel
theorem dX9_merge_85 : decode cX9_merge 85 = .ok (.dup2, 1) := by decide +kernel
theorem dX9_merge_86 : decode cX9_merge 86 = .ok (.iaload, 1) := by decide +kernel
theorem dX9_merge_87 : decode cX9_merge 87 = .ok (.aload_n 0, 1) := by decide +kernel
theorem dX9_merge_88 : decode cX9_merge 88 = .ok (.getfield 16, 3) := by decide +kernel
theorem dX9_merge_91 : decode cX9_merge 91 = .ok (.iload_n 2, 1) := by decide +kernel
theorem dX9_merge_92 : decode cX9_merge 92 = .ok (.iaload, 1) := by decide +kernel
theorem dX9_merge_93 : decode cX9_merge 93 = .ok (.iadd, 1) := by decide +kernel
theorem dX9_merge_94 : decode cX9_merge 94 = .ok (.iastore, 1) := by decide +kernel
theorem dX9_merge_95 : decode cX9_merge 95 = .ok (.aload_n 0, 1) := by decide +kernel
theorem dX9_merge_96 : decode cX9_merge 96 = .ok (.getfield 22, 3) := by decide +kernel
theorem dX9_merge_99 : decode cX9_merge 99 = .ok (.iload_n 1, 1) := by decide +kernel
theorem dX9_merge_100 : decode cX9_merge 100 = .ok (.dup2, 1) := by decide +kernel
theorem dX9_merge_101 : decode cX9_merge 101 = .ok (.iaload, 1) := by decide +kernel
theorem dX9_merge_102 : decode cX9_merge 102 = .ok (.aload_n 0, 1) := by decide +kernel
theorem dX9_merge_103 : decode cX9_merge 103 = .ok (.getfield 22, 3) := by decide +kernel
theorem dX9_merge_106 : decode cX9_merge 106 = .ok (.iload_n 2, 1) := by decide +kernel
theorem dX9_merge_107 : decode cX9_merge 107 = .ok (.iaload, 1) := by decide +kernel
theorem dX9_merge_108 : decode cX9_merge 108 = .ok (.iadd, 1) := by decide +kernel
theorem dX9_merge_109 : decode cX9_merge 109 = .ok (.iastore, 1) := by decide +kernel
theorem dX9_merge_110 : decode cX9_merge 110 = .ok (.aload_n 0, 1) := by decide +kernel
theorem dX9_merge_111 : decode cX9_merge 111 = .ok (.getfield 25, 3) := by decide +kernel
theorem dX9_merge_114 : decode cX9_merge 114 = .ok (.iload_n 1, 1) := by decide +kernel
theorem dX9_merge_115 : decode cX9_merge 115 = .ok (.aload_n 0, 1) := by decide +kernel
theorem dX9_merge_116 : decode cX9_merge 116 = .ok (.getfield 25, 3) := by decide +kernel
theorem dX9_merge_119 : decode cX9_merge 119 = .ok (.iload_n 2, 1) := by decide +kernel
theorem dX9_merge_120 : decode cX9_merge 120 = .ok (.iaload, 1) := by decide +kernel
theorem dX9_merge_121 : decode cX9_merge 121 = .ok (.aload_n 0, 1) := by decide +kernel
theorem dX9_merge_122 : decode cX9_merge 122 = .ok (.getfield 25, 3) := by decide +kernel
theorem dX9_merge_125 : decode cX9_merge 125 = .ok (.iload_n 1, 1) := by decide +kernel
theorem dX9_merge_126 : decode cX9_merge 126 = .ok (.iaload, 1) := by decide +kernel
theorem dX9_merge_127 : decode cX9_merge 127 = .ok (.if_icmp .le 12, 3) := by decide +kernel
theorem dX9_merge_130 : decode cX9_merge 130 = .ok (.aload_n 0, 1) := by decide +kernel
theorem dX9_merge_131 : decode cX9_merge 131 = .ok (.getfield 25, 3) := by decide +kernel
theorem dX9_merge_134 : decode cX9_merge 134 = .ok (.iload_n 2, 1) := by decide +kernel
theorem dX9_merge_135 : decode cX9_merge 135 = .ok (.iaload, 1) := by decide +kernel
theorem dX9_merge_136 : decode cX9_merge 136 = .ok (.goto 9, 3) := by decide +kernel
theorem dX9_merge_139 : decode cX9_merge 139 = .ok (.aload_n 0, 1) := by decide +kernel
theorem dX9_merge_140 : decode cX9_merge 140 = .ok (.getfield 25, 3) := by decide +kernel
theorem dX9_merge_143 : decode cX9_merge 143 = .ok (.iload_n 1, 1) := by decide +kernel
theorem dX9_merge_144 : decode cX9_merge 144 = .ok (.iaload, 1) := by decide +kernel
theorem dX9_merge_145 : decode cX9_merge 145 = .ok (.iastore, 1) := by decide +kernel
theorem dX9_merge_146 : decode cX9_merge 146 = .ok (.aload_n 0, 1) := by decide +kernel
theorem dX9_merge_147 : decode cX9_merge 147 = .ok (.getfield 28, 3) := by decide +kernel
theorem dX9_merge_150 : decode cX9_merge 150 = .ok (.iload_n 2, 1) := by decide +kernel
theorem dX9_merge_151 : decode cX9_merge 151 = .ok (.iconst 1, 1) := by decide +kernel
theorem dX9_merge_152 : decode cX9_merge 152 = .ok (.bastore, 1) := by decide +kernel
theorem dX9_merge_153 : decode cX9_merge 153 = .ok (.aload_n 0, 1) := by decide +kernel
theorem dX9_merge_154 : decode cX9_merge 154 = .ok (.getfield 13, 3) := by decide +kernel
theorem dX9_merge_157 : decode cX9_merge 157 = .ok (.iload_n 1, 1) := by decide +kernel
theorem dX9_merge_158 : decode cX9_merge 158 = .ok (.iaload, 1) := by decide +kernel
theorem dX9_merge_159 : decode cX9_merge 159 = .ok (.ireturn, 1) := by decide +kernel
theorem dX9_total_0 : decode cX9_total 0 = .ok (.iload_n 1, 1) := by decide +kernel
theorem dX9_total_1 : decode cX9_total 1 = .ok (.iconst 0, 1) := by decide +kernel
theorem dX9_total_2 : decode cX9_total 2 = .ok (.sipush 20000, 3) := by decide +kernel
theorem dX9_total_5 : decode cX9_total 5 = .ok (.invokestatic 36, 3) := by decide +kernel
theorem dX9_total_8 : decode cX9_total 8 = .ok (.ifCond .ne 6, 3) := by decide +kernel
theorem dX9_total_11 : decode cX9_total 11 = .ok (.bipush (-2), 2) := by decide +kernel
theorem dX9_total_13 : decode cX9_total 13 = .ok (.ireturn, 1) := by decide +kernel
theorem dX9_total_14 : decode cX9_total 14 = .ok (.iconst 0, 1) := by decide +kernel
theorem dX9_total_15 : decode cX9_total 15 = .ok (.istore_n 2, 1) := by decide +kernel
theorem dX9_total_16 : decode cX9_total 16 = .ok (.iconst 0, 1) := by decide +kernel
theorem dX9_total_17 : decode cX9_total 17 = .ok (.istore_n 3, 1) := by decide +kernel
theorem dX9_total_18 : decode cX9_total 18 = .ok (.iload_n 3, 1) := by decide +kernel
theorem dX9_total_19 : decode cX9_total 19 = .ok (.aload_n 0, 1) := by decide +kernel
theorem dX9_total_20 : decode cX9_total 20 = .ok (.getfield 32, 3) := by decide +kernel
theorem dX9_total_23 : decode cX9_total 23 = .ok (.if_icmp .ge 31, 3) := by decide +kernel
theorem dX9_total_26 : decode cX9_total 26 = .ok (.iload_n 2, 1) := by decide +kernel
theorem dX9_total_27 : decode cX9_total 27 = .ok (.aload_n 0, 1) := by decide +kernel
theorem dX9_total_28 : decode cX9_total 28 = .ok (.getfield 28, 3) := by decide +kernel
theorem dX9_total_31 : decode cX9_total 31 = .ok (.iload_n 3, 1) := by decide +kernel
theorem dX9_total_32 : decode cX9_total 32 = .ok (.baload, 1) := by decide +kernel
theorem dX9_total_33 : decode cX9_total 33 = .ok (.ifCond .eq 7, 3) := by decide +kernel
theorem dX9_total_36 : decode cX9_total 36 = .ok (.iconst 0, 1) := by decide +kernel
theorem dX9_total_37 : decode cX9_total 37 = .ok (.goto 9, 3) := by decide +kernel
theorem dX9_total_40 : decode cX9_total 40 = .ok (.aload_n 0, 1) := by decide +kernel
theorem dX9_total_41 : decode cX9_total 41 = .ok (.iload_n 3, 1) := by decide +kernel
theorem dX9_total_42 : decode cX9_total 42 = .ok (.iload_n 1, 1) := by decide +kernel
theorem dX9_total_43 : decode cX9_total 43 = .ok (.invokevirtual 61, 3) := by decide +kernel
theorem dX9_total_46 : decode cX9_total 46 = .ok (.iadd, 1) := by decide +kernel
theorem dX9_total_47 : decode cX9_total 47 = .ok (.istore_n 2, 1) := by decide +kernel
theorem dX9_total_48 : decode cX9_total 48 = .ok (.iinc 3 1, 3) := by decide +kernel
theorem dX9_total_51 : decode cX9_total 51 = .ok (.goto (-33), 3) := by decide +kernel
theorem dX9_total_54 : decode cX9_total 54 = .ok (.iload_n 2, 1) := by decide +kernel
theorem dX9_total_55 : decode cX9_total 55 = .ok (.ireturn, 1) := by decide +kernel
theorem dX9_paper_0 : decode cX9_paper 0 = .ok (.aload_n 0, 1) := by decide +kernel
theorem dX9_paper_1 : decode cX9_paper 1 = .ok (.iload_n 1, 1) := by decide +kernel
theorem dX9_paper_2 : decode cX9_paper 2 = .ok (.invokevirtual 58, 3) := by decide +kernel
theorem dX9_paper_5 : decode cX9_paper 5 = .ok (.ifCond .ne 5, 3) := by decide +kernel
theorem dX9_paper_8 : decode cX9_paper 8 = .ok (.iconst (-1), 1) := by decide +kernel
theorem dX9_paper_9 : decode cX9_paper 9 = .ok (.ireturn, 1) := by decide +kernel
theorem dX9_paper_10 : decode cX9_paper 10 = .ok (.iload_n 2, 1) := by decide +kernel
theorem dX9_paper_11 : decode cX9_paper 11 = .ok (.iconst 0, 1) := by decide +kernel
theorem dX9_paper_12 : decode cX9_paper 12 = .ok (.iconst 5, 1) := by decide +kernel
theorem dX9_paper_13 : decode cX9_paper 13 = .ok (.invokestatic 36, 3) := by decide +kernel
theorem dX9_paper_16 : decode cX9_paper 16 = .ok (.ifCond .ne 6, 3) := by decide +kernel
theorem dX9_paper_19 : decode cX9_paper 19 = .ok (.bipush (-2), 2) := by decide +kernel
theorem dX9_paper_21 : decode cX9_paper 21 = .ok (.ireturn, 1) := by decide +kernel
theorem dX9_paper_22 : decode cX9_paper 22 = .ok (.iload_n 2, 1) := by decide +kernel
theorem dX9_paper_23 : decode cX9_paper 23 = .ok (.tableswitch 68 0 4 #[33, 40, 47, 54, 61], 33) := by decide +kernel
theorem dX9_paper_56 : decode cX9_paper 56 = .ok (.aload_n 0, 1) := by decide +kernel
theorem dX9_paper_57 : decode cX9_paper 57 = .ok (.getfield 7, 3) := by decide +kernel
theorem dX9_paper_60 : decode cX9_paper 60 = .ok (.iload_n 1, 1) := by decide +kernel
theorem dX9_paper_61 : decode cX9_paper 61 = .ok (.iaload, 1) := by decide +kernel
theorem dX9_paper_62 : decode cX9_paper 62 = .ok (.ireturn, 1) := by decide +kernel
theorem dX9_paper_63 : decode cX9_paper 63 = .ok (.aload_n 0, 1) := by decide +kernel
theorem dX9_paper_64 : decode cX9_paper 64 = .ok (.getfield 13, 3) := by decide +kernel
theorem dX9_paper_67 : decode cX9_paper 67 = .ok (.iload_n 1, 1) := by decide +kernel
theorem dX9_paper_68 : decode cX9_paper 68 = .ok (.iaload, 1) := by decide +kernel
theorem dX9_paper_69 : decode cX9_paper 69 = .ok (.ireturn, 1) := by decide +kernel
theorem dX9_paper_70 : decode cX9_paper 70 = .ok (.aload_n 0, 1) := by decide +kernel
theorem dX9_paper_71 : decode cX9_paper 71 = .ok (.getfield 16, 3) := by decide +kernel
theorem dX9_paper_74 : decode cX9_paper 74 = .ok (.iload_n 1, 1) := by decide +kernel
theorem dX9_paper_75 : decode cX9_paper 75 = .ok (.iaload, 1) := by decide +kernel
theorem dX9_paper_76 : decode cX9_paper 76 = .ok (.ireturn, 1) := by decide +kernel
theorem dX9_paper_77 : decode cX9_paper 77 = .ok (.aload_n 0, 1) := by decide +kernel
theorem dX9_paper_78 : decode cX9_paper 78 = .ok (.getfield 19, 3) := by decide +kernel
theorem dX9_paper_81 : decode cX9_paper 81 = .ok (.iload_n 1, 1) := by decide +kernel
theorem dX9_paper_82 : decode cX9_paper 82 = .ok (.iaload, 1) := by decide +kernel
theorem dX9_paper_83 : decode cX9_paper 83 = .ok (.ireturn, 1) := by decide +kernel
theorem dX9_paper_84 : decode cX9_paper 84 = .ok (.aload_n 0, 1) := by decide +kernel
theorem dX9_paper_85 : decode cX9_paper 85 = .ok (.getfield 22, 3) := by decide +kernel
theorem dX9_paper_88 : decode cX9_paper 88 = .ok (.iload_n 1, 1) := by decide +kernel
theorem dX9_paper_89 : decode cX9_paper 89 = .ok (.iaload, 1) := by decide +kernel
theorem dX9_paper_90 : decode cX9_paper 90 = .ok (.ireturn, 1) := by decide +kernel
theorem dX9_paper_91 : decode cX9_paper 91 = .ok (.aload_n 0, 1) := by decide +kernel
theorem dX9_paper_92 : decode cX9_paper 92 = .ok (.iload_n 1, 1) := by decide +kernel
theorem dX9_paper_93 : decode cX9_paper 93 = .ok (.invokevirtual 40, 3) := by decide +kernel
theorem dX9_paper_96 : decode cX9_paper 96 = .ok (.ifCond .eq 11, 3) := by decide +kernel
theorem dX9_paper_99 : decode cX9_paper 99 = .ok (.aload_n 0, 1) := by decide +kernel
theorem dX9_paper_100 : decode cX9_paper 100 = .ok (.iload_n 1, 1) := by decide +kernel
theorem dX9_paper_101 : decode cX9_paper 101 = .ok (.invokevirtual 44, 3) := by decide +kernel
theorem dX9_paper_104 : decode cX9_paper 104 = .ok (.goto 5, 3) := by decide +kernel
theorem dX9_paper_107 : decode cX9_paper 107 = .ok (.bipush (-3), 2) := by decide +kernel
theorem dX9_paper_109 : decode cX9_paper 109 = .ok (.ireturn, 1) := by decide +kernel
theorem dX9_leftOfAll_0 : decode cX9_leftOfAll 0 = .ok (.iconst 0, 1) := by decide +kernel
theorem dX9_leftOfAll_1 : decode cX9_leftOfAll 1 = .ok (.istore_n 1, 1) := by decide +kernel
theorem dX9_leftOfAll_2 : decode cX9_leftOfAll 2 = .ok (.iconst 0, 1) := by decide +kernel
theorem dX9_leftOfAll_3 : decode cX9_leftOfAll 3 = .ok (.istore_n 2, 1) := by decide +kernel
theorem dX9_leftOfAll_4 : decode cX9_leftOfAll 4 = .ok (.iload_n 2, 1) := by decide +kernel
theorem dX9_leftOfAll_5 : decode cX9_leftOfAll 5 = .ok (.aload_n 0, 1) := by decide +kernel
theorem dX9_leftOfAll_6 : decode cX9_leftOfAll 6 = .ok (.getfield 32, 3) := by decide +kernel
theorem dX9_leftOfAll_9 : decode cX9_leftOfAll 9 = .ok (.if_icmp .ge 31, 3) := by decide +kernel
theorem dX9_leftOfAll_12 : decode cX9_leftOfAll 12 = .ok (.iload_n 1, 1) := by decide +kernel
theorem dX9_leftOfAll_13 : decode cX9_leftOfAll 13 = .ok (.aload_n 0, 1) := by decide +kernel
theorem dX9_leftOfAll_14 : decode cX9_leftOfAll 14 = .ok (.getfield 28, 3) := by decide +kernel
theorem dX9_leftOfAll_17 : decode cX9_leftOfAll 17 = .ok (.iload_n 2, 1) := by decide +kernel
theorem dX9_leftOfAll_18 : decode cX9_leftOfAll 18 = .ok (.baload, 1) := by decide +kernel
theorem dX9_leftOfAll_19 : decode cX9_leftOfAll 19 = .ok (.ifCond .eq 7, 3) := by decide +kernel
theorem dX9_leftOfAll_22 : decode cX9_leftOfAll 22 = .ok (.iconst 0, 1) := by decide +kernel
theorem dX9_leftOfAll_23 : decode cX9_leftOfAll 23 = .ok (.goto 9, 3) := by decide +kernel
theorem dX9_leftOfAll_26 : decode cX9_leftOfAll 26 = .ok (.aload_n 0, 1) := by decide +kernel
theorem dX9_leftOfAll_27 : decode cX9_leftOfAll 27 = .ok (.getfield 16, 3) := by decide +kernel
theorem dX9_leftOfAll_30 : decode cX9_leftOfAll 30 = .ok (.iload_n 2, 1) := by decide +kernel
theorem dX9_leftOfAll_31 : decode cX9_leftOfAll 31 = .ok (.iaload, 1) := by decide +kernel
theorem dX9_leftOfAll_32 : decode cX9_leftOfAll 32 = .ok (.iadd, 1) := by decide +kernel
theorem dX9_leftOfAll_33 : decode cX9_leftOfAll 33 = .ok (.istore_n 1, 1) := by decide +kernel
theorem dX9_leftOfAll_34 : decode cX9_leftOfAll 34 = .ok (.iinc 2 1, 3) := by decide +kernel
theorem dX9_leftOfAll_37 : decode cX9_leftOfAll 37 = .ok (.goto (-33), 3) := by decide +kernel
theorem dX9_leftOfAll_40 : decode cX9_leftOfAll 40 = .ok (.iload_n 1, 1) := by decide +kernel
theorem dX9_leftOfAll_41 : decode cX9_leftOfAll 41 = .ok (.ireturn, 1) := by decide +kernel
theorem dX9_count_0 : decode cX9_count 0 = .ok (.iload_n 1, 1) := by decide +kernel
theorem dX9_count_1 : decode cX9_count 1 = .ok (.tableswitch 78 0 6 #[43, 48, 53, 58, 63, 68, 73], 43) := by decide +kernel
theorem dX9_count_44 : decode cX9_count 44 = .ok (.aload_n 0, 1) := by decide +kernel
theorem dX9_count_45 : decode cX9_count 45 = .ok (.getfield 52, 3) := by decide +kernel
theorem dX9_count_48 : decode cX9_count 48 = .ok (.ireturn, 1) := by decide +kernel
theorem dX9_count_49 : decode cX9_count 49 = .ok (.aload_n 0, 1) := by decide +kernel
theorem dX9_count_50 : decode cX9_count 50 = .ok (.getfield 32, 3) := by decide +kernel
theorem dX9_count_53 : decode cX9_count 53 = .ok (.ireturn, 1) := by decide +kernel
theorem dX9_count_54 : decode cX9_count 54 = .ok (.aload_n 0, 1) := by decide +kernel
theorem dX9_count_55 : decode cX9_count 55 = .ok (.getfield 55, 3) := by decide +kernel
theorem dX9_count_58 : decode cX9_count 58 = .ok (.ireturn, 1) := by decide +kernel
theorem dX9_count_59 : decode cX9_count 59 = .ok (.aload_n 0, 1) := by decide +kernel
theorem dX9_count_60 : decode cX9_count 60 = .ok (.getfield 68, 3) := by decide +kernel
theorem dX9_count_63 : decode cX9_count 63 = .ok (.ireturn, 1) := by decide +kernel
theorem dX9_count_64 : decode cX9_count 64 = .ok (.aload_n 0, 1) := by decide +kernel
theorem dX9_count_65 : decode cX9_count 65 = .ok (.getfield 71, 3) := by decide +kernel
theorem dX9_count_68 : decode cX9_count 68 = .ok (.ireturn, 1) := by decide +kernel
theorem dX9_count_69 : decode cX9_count 69 = .ok (.aload_n 0, 1) := by decide +kernel
theorem dX9_count_70 : decode cX9_count 70 = .ok (.getfield 77, 3) := by decide +kernel
theorem dX9_count_73 : decode cX9_count 73 = .ok (.ireturn, 1) := by decide +kernel
theorem dX9_count_74 : decode cX9_count 74 = .ok (.aload_n 0, 1) := by decide +kernel
theorem dX9_count_75 : decode cX9_count 75 = .ok (.invokevirtual 80, 3) := by decide +kernel
theorem dX9_count_78 : decode cX9_count 78 = .ok (.ireturn, 1) := by decide +kernel
theorem dX9_count_79 : decode cX9_count 79 = .ok (.bipush (-2), 2) := by decide +kernel
theorem dX9_count_81 : decode cX9_count 81 = .ok (.ireturn, 1) := by decide +kernel
theorem dJ9_max_7cf53_0 : decode cJ9_max_7cf53 0 = .ok (.iload_n 0, 1) := by decide +kernel
theorem dJ9_max_7cf53_1 : decode cJ9_max_7cf53 1 = .ok (.iload_n 1, 1) := by decide +kernel
theorem dJ9_max_7cf53_2 : decode cJ9_max_7cf53 2 = .ok (.if_icmp .lt 7, 3) := by decide +kernel
theorem dJ9_max_7cf53_5 : decode cJ9_max_7cf53 5 = .ok (.iload_n 0, 1) := by decide +kernel
theorem dJ9_max_7cf53_6 : decode cJ9_max_7cf53 6 = .ok (.goto 4, 3) := by decide +kernel
theorem dJ9_max_7cf53_9 : decode cJ9_max_7cf53 9 = .ok (.iload_n 1, 1) := by decide +kernel
theorem dJ9_max_7cf53_10 : decode cJ9_max_7cf53 10 = .ok (.ireturn, 1) := by decide +kernel
end
section
theorem dL_law_0 : decode cL_law 0 = .ok (.new 7, 3) := by decide +kernel
theorem dL_law_3 : decode cL_law 3 = .ok (.dup, 1) := by decide +kernel
theorem dL_law_4 : decode cL_law 4 = .ok (.invokespecial 9, 3) := by decide +kernel
theorem dL_law_7 : decode cL_law 7 = .ok (.astore_n 1, 1) := by decide +kernel
theorem dL_law_8 : decode cL_law 8 = .ok (.new 10, 3) := by decide +kernel
theorem dL_law_11 : decode cL_law 11 = .ok (.dup, 1) := by decide +kernel
theorem dL_law_12 : decode cL_law 12 = .ok (.invokespecial 12, 3) := by decide +kernel
theorem dL_law_15 : decode cL_law 15 = .ok (.astore_n 2, 1) := by decide +kernel
theorem dL_law_16 : decode cL_law 16 = .ok (.iconst 0, 1) := by decide +kernel
theorem dL_law_17 : decode cL_law 17 = .ok (.istore_n 3, 1) := by decide +kernel
theorem dL_law_18 : decode cL_law 18 = .ok (.iload_n 3, 1) := by decide +kernel
theorem dL_law_19 : decode cL_law 19 = .ok (.aload_n 0, 1) := by decide +kernel
theorem dL_law_20 : decode cL_law 20 = .ok (.arraylength, 1) := by decide +kernel
theorem dL_law_21 : decode cL_law 21 = .ok (.iconst 3, 1) := by decide +kernel
theorem dL_law_22 : decode cL_law 22 = .ok (.isub, 1) := by decide +kernel
theorem dL_law_23 : decode cL_law 23 = .ok (.if_icmp .gt 452, 3) := by decide +kernel
theorem dL_law_26 : decode cL_law 26 = .ok (.aload_n 0, 1) := by decide +kernel
theorem dL_law_27 : decode cL_law 27 = .ok (.iload_n 3, 1) := by decide +kernel
theorem dL_law_28 : decode cL_law 28 = .ok (.iaload, 1) := by decide +kernel
theorem dL_law_29 : decode cL_law 29 = .ok (.bipush 15, 2) := by decide +kernel
theorem dL_law_31 : decode cL_law 31 = .ok (.iand, 1) := by decide +kernel
theorem dL_law_32 : decode cL_law 32 = .ok (.tableswitch 437 0 12 #[68, 101, 124, 157, 190, 223, 246, 279, 312, 325, 358, 381, 414], 68) := by decide +kernel
theorem dL_law_100 : decode cL_law 100 = .ok (.aload_n 1, 1) := by decide +kernel
theorem dL_law_101 : decode cL_law 101 = .ok (.aload_n 0, 1) := by decide +kernel
theorem dL_law_102 : decode cL_law 102 = .ok (.iload_n 3, 1) := by decide +kernel
theorem dL_law_103 : decode cL_law 103 = .ok (.iconst 1, 1) := by decide +kernel
theorem dL_law_104 : decode cL_law 104 = .ok (.iadd, 1) := by decide +kernel
theorem dL_law_105 : decode cL_law 105 = .ok (.iaload, 1) := by decide +kernel
theorem dL_law_106 : decode cL_law 106 = .ok (.aload_n 0, 1) := by decide +kernel
theorem dL_law_107 : decode cL_law 107 = .ok (.iload_n 3, 1) := by decide +kernel
theorem dL_law_108 : decode cL_law 108 = .ok (.iconst 2, 1) := by decide +kernel
theorem dL_law_109 : decode cL_law 109 = .ok (.iadd, 1) := by decide +kernel
theorem dL_law_110 : decode cL_law 110 = .ok (.iaload, 1) := by decide +kernel
theorem dL_law_111 : decode cL_law 111 = .ok (.invokevirtual 13, 3) := by decide +kernel
theorem dL_law_114 : decode cL_law 114 = .ok (.aload_n 2, 1) := by decide +kernel
theorem dL_law_115 : decode cL_law 115 = .ok (.aload_n 0, 1) := by decide +kernel
theorem dL_law_116 : decode cL_law 116 = .ok (.iload_n 3, 1) := by decide +kernel
theorem dL_law_117 : decode cL_law 117 = .ok (.iconst 1, 1) := by decide +kernel
theorem dL_law_118 : decode cL_law 118 = .ok (.iadd, 1) := by decide +kernel
theorem dL_law_119 : decode cL_law 119 = .ok (.iaload, 1) := by decide +kernel
theorem dL_law_120 : decode cL_law 120 = .ok (.aload_n 0, 1) := by decide +kernel
theorem dL_law_121 : decode cL_law 121 = .ok (.iload_n 3, 1) := by decide +kernel
theorem dL_law_122 : decode cL_law 122 = .ok (.iconst 2, 1) := by decide +kernel
theorem dL_law_123 : decode cL_law 123 = .ok (.iadd, 1) := by decide +kernel
theorem dL_law_124 : decode cL_law 124 = .ok (.iaload, 1) := by decide +kernel
theorem dL_law_125 : decode cL_law 125 = .ok (.invokevirtual 17, 3) := by decide +kernel
theorem dL_law_128 : decode cL_law 128 = .ok (.if_icmp .eq 341, 3) := by decide +kernel
theorem dL_law_131 : decode cL_law 131 = .ok (.iconst 0, 1) := by decide +kernel
theorem dL_law_132 : decode cL_law 132 = .ok (.ireturn, 1) := by decide +kernel
theorem dL_law_133 : decode cL_law 133 = .ok (.aload_n 1, 1) := by decide +kernel
theorem dL_law_134 : decode cL_law 134 = .ok (.aload_n 0, 1) := by decide +kernel
theorem dL_law_135 : decode cL_law 135 = .ok (.iload_n 3, 1) := by decide +kernel
theorem dL_law_136 : decode cL_law 136 = .ok (.iconst 1, 1) := by decide +kernel
theorem dL_law_137 : decode cL_law 137 = .ok (.iadd, 1) := by decide +kernel
theorem dL_law_138 : decode cL_law 138 = .ok (.iaload, 1) := by decide +kernel
theorem dL_law_139 : decode cL_law 139 = .ok (.invokevirtual 18, 3) := by decide +kernel
theorem dL_law_142 : decode cL_law 142 = .ok (.aload_n 2, 1) := by decide +kernel
theorem dL_law_143 : decode cL_law 143 = .ok (.aload_n 0, 1) := by decide +kernel
theorem dL_law_144 : decode cL_law 144 = .ok (.iload_n 3, 1) := by decide +kernel
theorem dL_law_145 : decode cL_law 145 = .ok (.iconst 1, 1) := by decide +kernel
theorem dL_law_146 : decode cL_law 146 = .ok (.iadd, 1) := by decide +kernel
theorem dL_law_147 : decode cL_law 147 = .ok (.iaload, 1) := by decide +kernel
theorem dL_law_148 : decode cL_law 148 = .ok (.invokevirtual 22, 3) := by decide +kernel
theorem dL_law_151 : decode cL_law 151 = .ok (.if_icmp .eq 318, 3) := by decide +kernel
theorem dL_law_154 : decode cL_law 154 = .ok (.iconst 0, 1) := by decide +kernel
theorem dL_law_155 : decode cL_law 155 = .ok (.ireturn, 1) := by decide +kernel
theorem dL_law_156 : decode cL_law 156 = .ok (.aload_n 1, 1) := by decide +kernel
theorem dL_law_157 : decode cL_law 157 = .ok (.aload_n 0, 1) := by decide +kernel
theorem dL_law_158 : decode cL_law 158 = .ok (.iload_n 3, 1) := by decide +kernel
theorem dL_law_159 : decode cL_law 159 = .ok (.iconst 1, 1) := by decide +kernel
theorem dL_law_160 : decode cL_law 160 = .ok (.iadd, 1) := by decide +kernel
theorem dL_law_161 : decode cL_law 161 = .ok (.iaload, 1) := by decide +kernel
theorem dL_law_162 : decode cL_law 162 = .ok (.aload_n 0, 1) := by decide +kernel
theorem dL_law_163 : decode cL_law 163 = .ok (.iload_n 3, 1) := by decide +kernel
theorem dL_law_164 : decode cL_law 164 = .ok (.iconst 2, 1) := by decide +kernel
theorem dL_law_165 : decode cL_law 165 = .ok (.iadd, 1) := by decide +kernel
theorem dL_law_166 : decode cL_law 166 = .ok (.iaload, 1) := by decide +kernel
theorem dL_law_167 : decode cL_law 167 = .ok (.invokevirtual 23, 3) := by decide +kernel
theorem dL_law_170 : decode cL_law 170 = .ok (.aload_n 2, 1) := by decide +kernel
theorem dL_law_171 : decode cL_law 171 = .ok (.aload_n 0, 1) := by decide +kernel
theorem dL_law_172 : decode cL_law 172 = .ok (.iload_n 3, 1) := by decide +kernel
theorem dL_law_173 : decode cL_law 173 = .ok (.iconst 1, 1) := by decide +kernel
theorem dL_law_174 : decode cL_law 174 = .ok (.iadd, 1) := by decide +kernel
theorem dL_law_175 : decode cL_law 175 = .ok (.iaload, 1) := by decide +kernel
theorem dL_law_176 : decode cL_law 176 = .ok (.aload_n 0, 1) := by decide +kernel
theorem dL_law_177 : decode cL_law 177 = .ok (.iload_n 3, 1) := by decide +kernel
theorem dL_law_178 : decode cL_law 178 = .ok (.iconst 2, 1) := by decide +kernel
theorem dL_law_179 : decode cL_law 179 = .ok (.iadd, 1) := by decide +kernel
theorem dL_law_180 : decode cL_law 180 = .ok (.iaload, 1) := by decide +kernel
theorem dL_law_181 : decode cL_law 181 = .ok (.invokevirtual 26, 3) := by decide +kernel
theorem dL_law_184 : decode cL_law 184 = .ok (.if_icmp .eq 285, 3) := by decide +kernel
theorem dL_law_187 : decode cL_law 187 = .ok (.iconst 0, 1) := by decide +kernel
theorem dL_law_188 : decode cL_law 188 = .ok (.ireturn, 1) := by decide +kernel
theorem dL_law_189 : decode cL_law 189 = .ok (.aload_n 1, 1) := by decide +kernel
theorem dL_law_190 : decode cL_law 190 = .ok (.aload_n 0, 1) := by decide +kernel
theorem dL_law_191 : decode cL_law 191 = .ok (.iload_n 3, 1) := by decide +kernel
theorem dL_law_192 : decode cL_law 192 = .ok (.iconst 1, 1) := by decide +kernel
theorem dL_law_193 : decode cL_law 193 = .ok (.iadd, 1) := by decide +kernel
theorem dL_law_194 : decode cL_law 194 = .ok (.iaload, 1) := by decide +kernel
theorem dL_law_195 : decode cL_law 195 = .ok (.aload_n 0, 1) := by decide +kernel
theorem dL_law_196 : decode cL_law 196 = .ok (.iload_n 3, 1) := by decide +kernel
theorem dL_law_197 : decode cL_law 197 = .ok (.iconst 2, 1) := by decide +kernel
theorem dL_law_198 : decode cL_law 198 = .ok (.iadd, 1) := by decide +kernel
theorem dL_law_199 : decode cL_law 199 = .ok (.iaload, 1) := by decide +kernel
theorem dL_law_200 : decode cL_law 200 = .ok (.invokevirtual 27, 3) := by decide +kernel
theorem dL_law_203 : decode cL_law 203 = .ok (.aload_n 2, 1) := by decide +kernel
theorem dL_law_204 : decode cL_law 204 = .ok (.aload_n 0, 1) := by decide +kernel
theorem dL_law_205 : decode cL_law 205 = .ok (.iload_n 3, 1) := by decide +kernel
theorem dL_law_206 : decode cL_law 206 = .ok (.iconst 1, 1) := by decide +kernel
theorem dL_law_207 : decode cL_law 207 = .ok (.iadd, 1) := by decide +kernel
theorem dL_law_208 : decode cL_law 208 = .ok (.iaload, 1) := by decide +kernel
theorem dL_law_209 : decode cL_law 209 = .ok (.aload_n 0, 1) := by decide +kernel
theorem dL_law_210 : decode cL_law 210 = .ok (.iload_n 3, 1) := by decide +kernel
theorem dL_law_211 : decode cL_law 211 = .ok (.iconst 2, 1) := by decide +kernel
theorem dL_law_212 : decode cL_law 212 = .ok (.iadd, 1) := by decide +kernel
theorem dL_law_213 : decode cL_law 213 = .ok (.iaload, 1) := by decide +kernel
theorem dL_law_214 : decode cL_law 214 = .ok (.invokevirtual 30, 3) := by decide +kernel
theorem dL_law_217 : decode cL_law 217 = .ok (.if_icmp .eq 252, 3) := by decide +kernel
theorem dL_law_220 : decode cL_law 220 = .ok (.iconst 0, 1) := by decide +kernel
theorem dL_law_221 : decode cL_law 221 = .ok (.ireturn, 1) := by decide +kernel
theorem dL_law_222 : decode cL_law 222 = .ok (.aload_n 1, 1) := by decide +kernel
theorem dL_law_223 : decode cL_law 223 = .ok (.aload_n 0, 1) := by decide +kernel
theorem dL_law_224 : decode cL_law 224 = .ok (.iload_n 3, 1) := by decide +kernel
theorem dL_law_225 : decode cL_law 225 = .ok (.iconst 1, 1) := by decide +kernel
theorem dL_law_226 : decode cL_law 226 = .ok (.iadd, 1) := by decide +kernel
theorem dL_law_227 : decode cL_law 227 = .ok (.iaload, 1) := by decide +kernel
theorem dL_law_228 : decode cL_law 228 = .ok (.aload_n 0, 1) := by decide +kernel
theorem dL_law_229 : decode cL_law 229 = .ok (.iload_n 3, 1) := by decide +kernel
theorem dL_law_230 : decode cL_law 230 = .ok (.iconst 2, 1) := by decide +kernel
theorem dL_law_231 : decode cL_law 231 = .ok (.iadd, 1) := by decide +kernel
theorem dL_law_232 : decode cL_law 232 = .ok (.iaload, 1) := by decide +kernel
theorem dL_law_233 : decode cL_law 233 = .ok (.invokevirtual 31, 3) := by decide +kernel
theorem dL_law_236 : decode cL_law 236 = .ok (.aload_n 2, 1) := by decide +kernel
theorem dL_law_237 : decode cL_law 237 = .ok (.aload_n 0, 1) := by decide +kernel
theorem dL_law_238 : decode cL_law 238 = .ok (.iload_n 3, 1) := by decide +kernel
theorem dL_law_239 : decode cL_law 239 = .ok (.iconst 1, 1) := by decide +kernel
theorem dL_law_240 : decode cL_law 240 = .ok (.iadd, 1) := by decide +kernel
theorem dL_law_241 : decode cL_law 241 = .ok (.iaload, 1) := by decide +kernel
theorem dL_law_242 : decode cL_law 242 = .ok (.aload_n 0, 1) := by decide +kernel
theorem dL_law_243 : decode cL_law 243 = .ok (.iload_n 3, 1) := by decide +kernel
theorem dL_law_244 : decode cL_law 244 = .ok (.iconst 2, 1) := by decide +kernel
theorem dL_law_245 : decode cL_law 245 = .ok (.iadd, 1) := by decide +kernel
theorem dL_law_246 : decode cL_law 246 = .ok (.iaload, 1) := by decide +kernel
theorem dL_law_247 : decode cL_law 247 = .ok (.invokevirtual 34, 3) := by decide +kernel
theorem dL_law_250 : decode cL_law 250 = .ok (.if_icmp .eq 219, 3) := by decide +kernel
theorem dL_law_253 : decode cL_law 253 = .ok (.iconst 0, 1) := by decide +kernel
theorem dL_law_254 : decode cL_law 254 = .ok (.ireturn, 1) := by decide +kernel
theorem dL_law_255 : decode cL_law 255 = .ok (.aload_n 1, 1) := by decide +kernel
theorem dL_law_256 : decode cL_law 256 = .ok (.aload_n 0, 1) := by decide +kernel
theorem dL_law_257 : decode cL_law 257 = .ok (.iload_n 3, 1) := by decide +kernel
theorem dL_law_258 : decode cL_law 258 = .ok (.iconst 1, 1) := by decide +kernel
theorem dL_law_259 : decode cL_law 259 = .ok (.iadd, 1) := by decide +kernel
theorem dL_law_260 : decode cL_law 260 = .ok (.iaload, 1) := by decide +kernel
theorem dL_law_261 : decode cL_law 261 = .ok (.invokevirtual 35, 3) := by decide +kernel
theorem dL_law_264 : decode cL_law 264 = .ok (.aload_n 2, 1) := by decide +kernel
theorem dL_law_265 : decode cL_law 265 = .ok (.aload_n 0, 1) := by decide +kernel
theorem dL_law_266 : decode cL_law 266 = .ok (.iload_n 3, 1) := by decide +kernel
theorem dL_law_267 : decode cL_law 267 = .ok (.iconst 1, 1) := by decide +kernel
theorem dL_law_268 : decode cL_law 268 = .ok (.iadd, 1) := by decide +kernel
theorem dL_law_269 : decode cL_law 269 = .ok (.iaload, 1) := by decide +kernel
theorem dL_law_270 : decode cL_law 270 = .ok (.invokevirtual 38, 3) := by decide +kernel
theorem dL_law_273 : decode cL_law 273 = .ok (.if_icmp .eq 196, 3) := by decide +kernel
theorem dL_law_276 : decode cL_law 276 = .ok (.iconst 0, 1) := by decide +kernel
theorem dL_law_277 : decode cL_law 277 = .ok (.ireturn, 1) := by decide +kernel
theorem dL_law_278 : decode cL_law 278 = .ok (.aload_n 1, 1) := by decide +kernel
theorem dL_law_279 : decode cL_law 279 = .ok (.aload_n 0, 1) := by decide +kernel
theorem dL_law_280 : decode cL_law 280 = .ok (.iload_n 3, 1) := by decide +kernel
theorem dL_law_281 : decode cL_law 281 = .ok (.iconst 1, 1) := by decide +kernel
theorem dL_law_282 : decode cL_law 282 = .ok (.iadd, 1) := by decide +kernel
theorem dL_law_283 : decode cL_law 283 = .ok (.iaload, 1) := by decide +kernel
theorem dL_law_284 : decode cL_law 284 = .ok (.aload_n 0, 1) := by decide +kernel
theorem dL_law_285 : decode cL_law 285 = .ok (.iload_n 3, 1) := by decide +kernel
theorem dL_law_286 : decode cL_law 286 = .ok (.iconst 2, 1) := by decide +kernel
theorem dL_law_287 : decode cL_law 287 = .ok (.iadd, 1) := by decide +kernel
theorem dL_law_288 : decode cL_law 288 = .ok (.iaload, 1) := by decide +kernel
theorem dL_law_289 : decode cL_law 289 = .ok (.invokevirtual 39, 3) := by decide +kernel
theorem dL_law_292 : decode cL_law 292 = .ok (.aload_n 2, 1) := by decide +kernel
theorem dL_law_293 : decode cL_law 293 = .ok (.aload_n 0, 1) := by decide +kernel
theorem dL_law_294 : decode cL_law 294 = .ok (.iload_n 3, 1) := by decide +kernel
theorem dL_law_295 : decode cL_law 295 = .ok (.iconst 1, 1) := by decide +kernel
theorem dL_law_296 : decode cL_law 296 = .ok (.iadd, 1) := by decide +kernel
theorem dL_law_297 : decode cL_law 297 = .ok (.iaload, 1) := by decide +kernel
theorem dL_law_298 : decode cL_law 298 = .ok (.aload_n 0, 1) := by decide +kernel
theorem dL_law_299 : decode cL_law 299 = .ok (.iload_n 3, 1) := by decide +kernel
theorem dL_law_300 : decode cL_law 300 = .ok (.iconst 2, 1) := by decide +kernel
theorem dL_law_301 : decode cL_law 301 = .ok (.iadd, 1) := by decide +kernel
theorem dL_law_302 : decode cL_law 302 = .ok (.iaload, 1) := by decide +kernel
theorem dL_law_303 : decode cL_law 303 = .ok (.invokevirtual 42, 3) := by decide +kernel
theorem dL_law_306 : decode cL_law 306 = .ok (.if_icmp .eq 163, 3) := by decide +kernel
theorem dL_law_309 : decode cL_law 309 = .ok (.iconst 0, 1) := by decide +kernel
theorem dL_law_310 : decode cL_law 310 = .ok (.ireturn, 1) := by decide +kernel
theorem dL_law_311 : decode cL_law 311 = .ok (.aload_n 1, 1) := by decide +kernel
theorem dL_law_312 : decode cL_law 312 = .ok (.aload_n 0, 1) := by decide +kernel
theorem dL_law_313 : decode cL_law 313 = .ok (.iload_n 3, 1) := by decide +kernel
theorem dL_law_314 : decode cL_law 314 = .ok (.iconst 1, 1) := by decide +kernel
theorem dL_law_315 : decode cL_law 315 = .ok (.iadd, 1) := by decide +kernel
theorem dL_law_316 : decode cL_law 316 = .ok (.iaload, 1) := by decide +kernel
theorem dL_law_317 : decode cL_law 317 = .ok (.aload_n 0, 1) := by decide +kernel
theorem dL_law_318 : decode cL_law 318 = .ok (.iload_n 3, 1) := by decide +kernel
theorem dL_law_319 : decode cL_law 319 = .ok (.iconst 2, 1) := by decide +kernel
theorem dL_law_320 : decode cL_law 320 = .ok (.iadd, 1) := by decide +kernel
theorem dL_law_321 : decode cL_law 321 = .ok (.iaload, 1) := by decide +kernel
theorem dL_law_322 : decode cL_law 322 = .ok (.invokevirtual 43, 3) := by decide +kernel
theorem dL_law_325 : decode cL_law 325 = .ok (.aload_n 2, 1) := by decide +kernel
theorem dL_law_326 : decode cL_law 326 = .ok (.aload_n 0, 1) := by decide +kernel
theorem dL_law_327 : decode cL_law 327 = .ok (.iload_n 3, 1) := by decide +kernel
theorem dL_law_328 : decode cL_law 328 = .ok (.iconst 1, 1) := by decide +kernel
theorem dL_law_329 : decode cL_law 329 = .ok (.iadd, 1) := by decide +kernel
theorem dL_law_330 : decode cL_law 330 = .ok (.iaload, 1) := by decide +kernel
theorem dL_law_331 : decode cL_law 331 = .ok (.aload_n 0, 1) := by decide +kernel
theorem dL_law_332 : decode cL_law 332 = .ok (.iload_n 3, 1) := by decide +kernel
theorem dL_law_333 : decode cL_law 333 = .ok (.iconst 2, 1) := by decide +kernel
theorem dL_law_334 : decode cL_law 334 = .ok (.iadd, 1) := by decide +kernel
theorem dL_law_335 : decode cL_law 335 = .ok (.iaload, 1) := by decide +kernel
theorem dL_law_336 : decode cL_law 336 = .ok (.invokevirtual 46, 3) := by decide +kernel
theorem dL_law_339 : decode cL_law 339 = .ok (.if_icmp .eq 130, 3) := by decide +kernel
theorem dL_law_342 : decode cL_law 342 = .ok (.iconst 0, 1) := by decide +kernel
theorem dL_law_343 : decode cL_law 343 = .ok (.ireturn, 1) := by decide +kernel
theorem dL_law_344 : decode cL_law 344 = .ok (.aload_n 1, 1) := by decide +kernel
theorem dL_law_345 : decode cL_law 345 = .ok (.invokevirtual 47, 3) := by decide +kernel
theorem dL_law_348 : decode cL_law 348 = .ok (.aload_n 2, 1) := by decide +kernel
theorem dL_law_349 : decode cL_law 349 = .ok (.invokevirtual 51, 3) := by decide +kernel
theorem dL_law_352 : decode cL_law 352 = .ok (.if_icmp .eq 117, 3) := by decide +kernel
theorem dL_law_355 : decode cL_law 355 = .ok (.iconst 0, 1) := by decide +kernel
theorem dL_law_356 : decode cL_law 356 = .ok (.ireturn, 1) := by decide +kernel
theorem dL_law_357 : decode cL_law 357 = .ok (.aload_n 1, 1) := by decide +kernel
theorem dL_law_358 : decode cL_law 358 = .ok (.aload_n 0, 1) := by decide +kernel
theorem dL_law_359 : decode cL_law 359 = .ok (.iload_n 3, 1) := by decide +kernel
theorem dL_law_360 : decode cL_law 360 = .ok (.iconst 1, 1) := by decide +kernel
theorem dL_law_361 : decode cL_law 361 = .ok (.iadd, 1) := by decide +kernel
theorem dL_law_362 : decode cL_law 362 = .ok (.iaload, 1) := by decide +kernel
theorem dL_law_363 : decode cL_law 363 = .ok (.aload_n 0, 1) := by decide +kernel
theorem dL_law_364 : decode cL_law 364 = .ok (.iload_n 3, 1) := by decide +kernel
theorem dL_law_365 : decode cL_law 365 = .ok (.iconst 2, 1) := by decide +kernel
theorem dL_law_366 : decode cL_law 366 = .ok (.iadd, 1) := by decide +kernel
theorem dL_law_367 : decode cL_law 367 = .ok (.iaload, 1) := by decide +kernel
theorem dL_law_368 : decode cL_law 368 = .ok (.invokevirtual 52, 3) := by decide +kernel
theorem dL_law_371 : decode cL_law 371 = .ok (.aload_n 2, 1) := by decide +kernel
theorem dL_law_372 : decode cL_law 372 = .ok (.aload_n 0, 1) := by decide +kernel
theorem dL_law_373 : decode cL_law 373 = .ok (.iload_n 3, 1) := by decide +kernel
theorem dL_law_374 : decode cL_law 374 = .ok (.iconst 1, 1) := by decide +kernel
theorem dL_law_375 : decode cL_law 375 = .ok (.iadd, 1) := by decide +kernel
theorem dL_law_376 : decode cL_law 376 = .ok (.iaload, 1) := by decide +kernel
theorem dL_law_377 : decode cL_law 377 = .ok (.aload_n 0, 1) := by decide +kernel
theorem dL_law_378 : decode cL_law 378 = .ok (.iload_n 3, 1) := by decide +kernel
theorem dL_law_379 : decode cL_law 379 = .ok (.iconst 2, 1) := by decide +kernel
theorem dL_law_380 : decode cL_law 380 = .ok (.iadd, 1) := by decide +kernel
theorem dL_law_381 : decode cL_law 381 = .ok (.iaload, 1) := by decide +kernel
theorem dL_law_382 : decode cL_law 382 = .ok (.invokevirtual 55, 3) := by decide +kernel
theorem dL_law_385 : decode cL_law 385 = .ok (.if_icmp .eq 84, 3) := by decide +kernel
theorem dL_law_388 : decode cL_law 388 = .ok (.iconst 0, 1) := by decide +kernel
theorem dL_law_389 : decode cL_law 389 = .ok (.ireturn, 1) := by decide +kernel
theorem dL_law_390 : decode cL_law 390 = .ok (.aload_n 1, 1) := by decide +kernel
theorem dL_law_391 : decode cL_law 391 = .ok (.aload_n 0, 1) := by decide +kernel
theorem dL_law_392 : decode cL_law 392 = .ok (.iload_n 3, 1) := by decide +kernel
theorem dL_law_393 : decode cL_law 393 = .ok (.iconst 1, 1) := by decide +kernel
theorem dL_law_394 : decode cL_law 394 = .ok (.iadd, 1) := by decide +kernel
theorem dL_law_395 : decode cL_law 395 = .ok (.iaload, 1) := by decide +kernel
theorem dL_law_396 : decode cL_law 396 = .ok (.invokevirtual 56, 3) := by decide +kernel
theorem dL_law_399 : decode cL_law 399 = .ok (.aload_n 2, 1) := by decide +kernel
theorem dL_law_400 : decode cL_law 400 = .ok (.aload_n 0, 1) := by decide +kernel
theorem dL_law_401 : decode cL_law 401 = .ok (.iload_n 3, 1) := by decide +kernel
theorem dL_law_402 : decode cL_law 402 = .ok (.iconst 1, 1) := by decide +kernel
theorem dL_law_403 : decode cL_law 403 = .ok (.iadd, 1) := by decide +kernel
theorem dL_law_404 : decode cL_law 404 = .ok (.iaload, 1) := by decide +kernel
theorem dL_law_405 : decode cL_law 405 = .ok (.invokevirtual 59, 3) := by decide +kernel
theorem dL_law_408 : decode cL_law 408 = .ok (.if_icmp .eq 61, 3) := by decide +kernel
theorem dL_law_411 : decode cL_law 411 = .ok (.iconst 0, 1) := by decide +kernel
theorem dL_law_412 : decode cL_law 412 = .ok (.ireturn, 1) := by decide +kernel
theorem dL_law_413 : decode cL_law 413 = .ok (.aload_n 1, 1) := by decide +kernel
theorem dL_law_414 : decode cL_law 414 = .ok (.aload_n 0, 1) := by decide +kernel
theorem dL_law_415 : decode cL_law 415 = .ok (.iload_n 3, 1) := by decide +kernel
theorem dL_law_416 : decode cL_law 416 = .ok (.iconst 1, 1) := by decide +kernel
theorem dL_law_417 : decode cL_law 417 = .ok (.iadd, 1) := by decide +kernel
theorem dL_law_418 : decode cL_law 418 = .ok (.iaload, 1) := by decide +kernel
theorem dL_law_419 : decode cL_law 419 = .ok (.aload_n 0, 1) := by decide +kernel
theorem dL_law_420 : decode cL_law 420 = .ok (.iload_n 3, 1) := by decide +kernel
theorem dL_law_421 : decode cL_law 421 = .ok (.iconst 2, 1) := by decide +kernel
theorem dL_law_422 : decode cL_law 422 = .ok (.iadd, 1) := by decide +kernel
theorem dL_law_423 : decode cL_law 423 = .ok (.iaload, 1) := by decide +kernel
theorem dL_law_424 : decode cL_law 424 = .ok (.invokevirtual 60, 3) := by decide +kernel
theorem dL_law_427 : decode cL_law 427 = .ok (.aload_n 2, 1) := by decide +kernel
theorem dL_law_428 : decode cL_law 428 = .ok (.aload_n 0, 1) := by decide +kernel
theorem dL_law_429 : decode cL_law 429 = .ok (.iload_n 3, 1) := by decide +kernel
theorem dL_law_430 : decode cL_law 430 = .ok (.iconst 1, 1) := by decide +kernel
theorem dL_law_431 : decode cL_law 431 = .ok (.iadd, 1) := by decide +kernel
theorem dL_law_432 : decode cL_law 432 = .ok (.iaload, 1) := by decide +kernel
theorem dL_law_433 : decode cL_law 433 = .ok (.aload_n 0, 1) := by decide +kernel
theorem dL_law_434 : decode cL_law 434 = .ok (.iload_n 3, 1) := by decide +kernel
theorem dL_law_435 : decode cL_law 435 = .ok (.iconst 2, 1) := by decide +kernel
theorem dL_law_436 : decode cL_law 436 = .ok (.iadd, 1) := by decide +kernel
theorem dL_law_437 : decode cL_law 437 = .ok (.iaload, 1) := by decide +kernel
theorem dL_law_438 : decode cL_law 438 = .ok (.invokevirtual 63, 3) := by decide +kernel
theorem dL_law_441 : decode cL_law 441 = .ok (.if_icmp .eq 28, 3) := by decide +kernel
theorem dL_law_444 : decode cL_law 444 = .ok (.iconst 0, 1) := by decide +kernel
theorem dL_law_445 : decode cL_law 445 = .ok (.ireturn, 1) := by decide +kernel
theorem dL_law_446 : decode cL_law 446 = .ok (.aload_n 1, 1) := by decide +kernel
theorem dL_law_447 : decode cL_law 447 = .ok (.aload_n 0, 1) := by decide +kernel
theorem dL_law_448 : decode cL_law 448 = .ok (.iload_n 3, 1) := by decide +kernel
theorem dL_law_449 : decode cL_law 449 = .ok (.iconst 1, 1) := by decide +kernel
theorem dL_law_450 : decode cL_law 450 = .ok (.iadd, 1) := by decide +kernel
theorem dL_law_451 : decode cL_law 451 = .ok (.iaload, 1) := by decide +kernel
theorem dL_law_452 : decode cL_law 452 = .ok (.invokevirtual 64, 3) := by decide +kernel
theorem dL_law_455 : decode cL_law 455 = .ok (.aload_n 2, 1) := by decide +kernel
theorem dL_law_456 : decode cL_law 456 = .ok (.aload_n 0, 1) := by decide +kernel
theorem dL_law_457 : decode cL_law 457 = .ok (.iload_n 3, 1) := by decide +kernel
theorem dL_law_458 : decode cL_law 458 = .ok (.iconst 1, 1) := by decide +kernel
theorem dL_law_459 : decode cL_law 459 = .ok (.iadd, 1) := by decide +kernel
theorem dL_law_460 : decode cL_law 460 = .ok (.iaload, 1) := by decide +kernel
theorem dL_law_461 : decode cL_law 461 = .ok (.invokevirtual 67, 3) := by decide +kernel
theorem dL_law_464 : decode cL_law 464 = .ok (.if_icmp .eq 5, 3) := by decide +kernel
theorem dL_law_467 : decode cL_law 467 = .ok (.iconst 0, 1) := by decide +kernel
theorem dL_law_468 : decode cL_law 468 = .ok (.ireturn, 1) := by decide +kernel
theorem dL_law_469 : decode cL_law 469 = .ok (.iinc 3 3, 3) := by decide +kernel
theorem dL_law_472 : decode cL_law 472 = .ok (.goto (-454), 3) := by decide +kernel
theorem dL_law_475 : decode cL_law 475 = .ok (.iconst 1, 1) := by decide +kernel
theorem dL_law_476 : decode cL_law 476 = .ok (.ireturn, 1) := by decide +kernel
end
section
def wd_big : List Cond := lw_tbl.filter goodWord
theorem wd_in {w : Cond} (h : w ∈ lw_tbl) (hg : goodWord w = true) : w ∈ wd_big := List.mem_filter.mpr ⟨h, hg⟩
theorem wd_lw {w : Cond} (h : w ∈ wd_big) : w ∈ lw_tbl := (List.mem_filter.mp h).1
theorem wd_good {w : Cond} (h : w ∈ wd_big) : (w.onTables && w.keeps) = true ∨ ∃ ty, w = .arrayClass ty := good_of_word (List.mem_filter.mp h).2
theorem wd_tb {w : Cond} {i : Nat} (h : tables_1[i]? = some w) (hg : goodWord w = true) : w ∈ wd_big := wd_in (List.mem_append_right _ (List.mem_of_getElem? h)) hg
theorem wd_pv {w : Cond} {i : Nat} (h : (k2_sels lw_privs)[i]? = some w) (hg : goodWord w = true) : w ∈ wd_big := wd_in (List.mem_append_left _ (List.mem_of_getElem? h)) hg
theorem mw_0 : (Cond.initialized "VoucherOfficeLaw") ∈ wd_big := wd_tb (i := 0) (by decide +kernel) (by decide +kernel)
theorem mw_1 : (Cond.initialized "VoucherOffice") ∈ wd_big := wd_tb (i := 1) (by decide +kernel) (by decide +kernel)
theorem mw_2 : (Cond.initialized "VoucherOfficeModel") ∈ wd_big := wd_tb (i := 2) (by decide +kernel) (by decide +kernel)
theorem mw_3 : (Cond.initialized "VoucherOffice$Plain") ∈ wd_big := wd_tb (i := 3) (by decide +kernel) (by decide +kernel)
theorem mw_4 : (Cond.initialized "VoucherOffice$Gift") ∈ wd_big := wd_tb (i := 4) (by decide +kernel) (by decide +kernel)
theorem mw_5 : (Cond.initialized "VoucherOffice$Season") ∈ wd_big := wd_tb (i := 5) (by decide +kernel) (by decide +kernel)
theorem mw_6 : (Cond.initialized "VoucherOffice$Staff") ∈ wd_big := wd_tb (i := 6) (by decide +kernel) (by decide +kernel)
theorem mw_7 : (Cond.initialized "VoucherOffice$Round") ∈ wd_big := wd_tb (i := 7) (by decide +kernel) (by decide +kernel)
theorem mw_8 : (Cond.initialized "VoucherOffice$Club") ∈ wd_big := wd_tb (i := 8) (by decide +kernel) (by decide +kernel)
theorem mw_9 : (Cond.initialized "VoucherOffice$House") ∈ wd_big := wd_tb (i := 9) (by decide +kernel) (by decide +kernel)
theorem mw_10 : (Cond.initialized "VoucherOffice$Crest") ∈ wd_big := wd_tb (i := 10) (by decide +kernel) (by decide +kernel)
theorem mw_11 : (Cond.initialized "java/lang/Math") ∈ wd_big := wd_tb (i := 11) (by decide +kernel) (by decide +kernel)
theorem mw_12 : (Cond.classLink "VoucherOfficeLaw" 7 "VoucherOffice") ∈ wd_big := wd_tb (i := 12) (by decide +kernel) (by decide +kernel)
theorem mw_13 : (Cond.instantiable "VoucherOffice" 7) ∈ wd_big := wd_tb (i := 13) (by decide +kernel) (by decide +kernel)
theorem mw_14 : (Cond.methodLink "VoucherOfficeLaw" 9 yX8_init) ∈ wd_big := wd_tb (i := 14) (by decide +kernel) (by decide +kernel)
theorem mw_15 : (Cond.instanceMethod yX8_init) ∈ wd_big := wd_tb (i := 15) (by decide +kernel) (by decide +kernel)
theorem mw_16 : (Cond.code yX8_init cX8_init 1 none) ∈ wd_big := wd_tb (i := 16) (by decide +kernel) (by decide +kernel)
theorem mw_17 : (Cond.methodLink "VoucherOffice" 1 Lib.objectInit) ∈ wd_big := wd_tb (i := 17) (by decide +kernel) (by decide +kernel)
theorem mw_18 : (Cond.instanceMethod Lib.objectInit) ∈ wd_big := wd_tb (i := 18) (by decide +kernel) (by decide +kernel)
theorem mw_19 : (Cond.code Lib.objectInit ⟨#[0xb1]⟩ 1 none) ∈ wd_big := wd_tb (i := 19) (by decide +kernel) (by decide +kernel)
theorem mw_20 : (Cond.classLink "VoucherOffice" 9 "VoucherOffice$Plain") ∈ wd_big := wd_tb (i := 20) (by decide +kernel) (by decide +kernel)
theorem mw_22 : (Cond.fieldLink "VoucherOffice" 11 "VoucherOffice" "vouchers" "[LVoucherOffice$Plain;") ∈ wd_big := wd_tb (i := 22) (by decide +kernel) (by decide +kernel)
theorem mw_23 : (Cond.fieldLink "VoucherOffice" 15 "VoucherOffice" "issued" "I") ∈ wd_big := wd_tb (i := 23) (by decide +kernel) (by decide +kernel)
theorem mw_24 : (Cond.fieldLink "VoucherOffice" 19 "VoucherOffice" "today" "I") ∈ wd_big := wd_tb (i := 24) (by decide +kernel) (by decide +kernel)
theorem mw_25 : (Cond.fieldLink "VoucherOffice" 22 "VoucherOffice" "issuedAmounts" "I") ∈ wd_big := wd_tb (i := 25) (by decide +kernel) (by decide +kernel)
theorem mw_26 : (Cond.fieldLink "VoucherOffice" 25 "VoucherOffice" "spentTogether" "I") ∈ wd_big := wd_tb (i := 26) (by decide +kernel) (by decide +kernel)
theorem mw_27 : (Cond.fieldLink "VoucherOffice" 28 "VoucherOffice" "feesTogether" "I") ∈ wd_big := wd_tb (i := 27) (by decide +kernel) (by decide +kernel)
theorem mw_28 : (Cond.fieldLink "VoucherOffice" 31 "VoucherOffice" "lapsedTogether" "I") ∈ wd_big := wd_tb (i := 28) (by decide +kernel) (by decide +kernel)
theorem mw_29 : (Cond.laysFinal "VoucherOffice" "VoucherOffice" "vouchers" "[LVoucherOffice$Plain;") ∈ wd_big := wd_tb (i := 29) (by decide +kernel) (by decide +kernel)
theorem mw_30 : (Cond.soleField "VoucherOffice" "vouchers") ∈ wd_big := wd_tb (i := 30) (by decide +kernel) (by decide +kernel)
theorem mw_31 : (Cond.lays "VoucherOffice" "VoucherOffice" "issued" "I") ∈ wd_big := wd_tb (i := 31) (by decide +kernel) (by decide +kernel)
theorem mw_32 : (Cond.soleField "VoucherOffice" "issued") ∈ wd_big := wd_tb (i := 32) (by decide +kernel) (by decide +kernel)
theorem mw_33 : (Cond.lays "VoucherOffice" "VoucherOffice" "today" "I") ∈ wd_big := wd_tb (i := 33) (by decide +kernel) (by decide +kernel)
theorem mw_34 : (Cond.soleField "VoucherOffice" "today") ∈ wd_big := wd_tb (i := 34) (by decide +kernel) (by decide +kernel)
theorem mw_35 : (Cond.lays "VoucherOffice" "VoucherOffice" "issuedAmounts" "I") ∈ wd_big := wd_tb (i := 35) (by decide +kernel) (by decide +kernel)
theorem mw_36 : (Cond.soleField "VoucherOffice" "issuedAmounts") ∈ wd_big := wd_tb (i := 36) (by decide +kernel) (by decide +kernel)
theorem mw_37 : (Cond.lays "VoucherOffice" "VoucherOffice" "spentTogether" "I") ∈ wd_big := wd_tb (i := 37) (by decide +kernel) (by decide +kernel)
theorem mw_38 : (Cond.soleField "VoucherOffice" "spentTogether") ∈ wd_big := wd_tb (i := 38) (by decide +kernel) (by decide +kernel)
theorem mw_39 : (Cond.lays "VoucherOffice" "VoucherOffice" "feesTogether" "I") ∈ wd_big := wd_tb (i := 39) (by decide +kernel) (by decide +kernel)
theorem mw_40 : (Cond.soleField "VoucherOffice" "feesTogether") ∈ wd_big := wd_tb (i := 40) (by decide +kernel) (by decide +kernel)
theorem mw_41 : (Cond.lays "VoucherOffice" "VoucherOffice" "lapsedTogether" "I") ∈ wd_big := wd_tb (i := 41) (by decide +kernel) (by decide +kernel)
theorem mw_42 : (Cond.soleField "VoucherOffice" "lapsedTogether") ∈ wd_big := wd_tb (i := 42) (by decide +kernel) (by decide +kernel)
theorem mw_43 : (Cond.superclass "VoucherOffice" "java/lang/Object") ∈ wd_big := wd_tb (i := 43) (by decide +kernel) (by decide +kernel)
theorem mw_44 : (Cond.methodLink "VoucherOfficeLaw" 13 yX8_issue) ∈ wd_big := wd_tb (i := 44) (by decide +kernel) (by decide +kernel)
theorem mw_45 : (Cond.instanceMethod yX8_issue) ∈ wd_big := wd_tb (i := 45) (by decide +kernel) (by decide +kernel)
theorem mw_46 : (Cond.selects "VoucherOffice" yX8_issue yX8_issue) ∈ wd_big := wd_tb (i := 46) (by decide +kernel) (by decide +kernel)
theorem mw_47 : (Cond.code yX8_issue cX8_issue 4 (some FieldType.int)) ∈ wd_big := wd_tb (i := 47) (by decide +kernel) (by decide +kernel)
theorem mw_48 : (Cond.methodLink "VoucherOffice" 34 yX8_isOutside) ∈ wd_big := wd_tb (i := 48) (by decide +kernel) (by decide +kernel)
theorem mw_49 : (Cond.static yX8_isOutside) ∈ wd_big := wd_tb (i := 49) (by decide +kernel) (by decide +kernel)
theorem mw_50 : (Cond.code yX8_isOutside cX8_isOutside 3 (some FieldType.boolean)) ∈ wd_big := wd_tb (i := 50) (by decide +kernel) (by decide +kernel)
theorem mw_51 : (Cond.constant "VoucherOffice" 38 (100000 : Int32)) ∈ wd_big := wd_tb (i := 51) (by decide +kernel) (by decide +kernel)
theorem mw_52 : (Cond.methodLink "VoucherOffice" 39 yX8_newVoucher) ∈ wd_big := wd_tb (i := 52) (by decide +kernel) (by decide +kernel)
theorem mw_53 : (Cond.static yX8_newVoucher) ∈ wd_big := wd_tb (i := 53) (by decide +kernel) (by decide +kernel)
theorem mw_54 : (Cond.code yX8_newVoucher cX8_newVoucher 3 (some (FieldType.object "VoucherOffice$Plain"))) ∈ wd_big := wd_tb (i := 54) (by decide +kernel) (by decide +kernel)
theorem mw_55 : (Cond.instantiable "VoucherOffice$Plain" 4) ∈ wd_big := wd_tb (i := 55) (by decide +kernel) (by decide +kernel)
theorem mw_56 : (Cond.methodLink "VoucherOffice" 96 yX4_init) ∈ wd_big := wd_tb (i := 56) (by decide +kernel) (by decide +kernel)
theorem mw_57 : (Cond.instanceMethod yX4_init) ∈ wd_big := wd_tb (i := 57) (by decide +kernel) (by decide +kernel)
theorem mw_58 : (Cond.code yX4_init cX4_init 4 none) ∈ wd_big := wd_tb (i := 58) (by decide +kernel) (by decide +kernel)
theorem mw_59 : (Cond.methodLink "VoucherOffice$Plain" 3 Lib.objectInit) ∈ wd_big := wd_tb (i := 59) (by decide +kernel) (by decide +kernel)
theorem mw_60 : (Cond.fieldLink "VoucherOffice$Plain" 9 "VoucherOffice$Plain" "kind" "I") ∈ wd_big := wd_tb (i := 60) (by decide +kernel) (by decide +kernel)
theorem mw_61 : (Cond.fieldLink "VoucherOffice" 71 "VoucherOffice$Plain" "kind" "I") ∈ wd_big := wd_tb (i := 61) (by decide +kernel) (by decide +kernel)
theorem mw_62 : (Cond.fieldLink "VoucherOffice$Plain" 15 "VoucherOffice$Plain" "from" "I") ∈ wd_big := wd_tb (i := 62) (by decide +kernel) (by decide +kernel)
theorem mw_63 : (Cond.fieldLink "VoucherOffice$Season" 7 "VoucherOffice$Season" "from" "I") ∈ wd_big := wd_tb (i := 63) (by decide +kernel) (by decide +kernel)
theorem mw_64 : (Cond.sameField "VoucherOffice$Season" "VoucherOffice$Plain" "from" "I") ∈ wd_big := wd_tb (i := 64) (by decide +kernel) (by decide +kernel)
theorem mw_65 : (Cond.fieldLink "VoucherOffice$Staff" 17 "VoucherOffice$Staff" "from" "I") ∈ wd_big := wd_tb (i := 65) (by decide +kernel) (by decide +kernel)
theorem mw_66 : (Cond.sameField "VoucherOffice$Staff" "VoucherOffice$Plain" "from" "I") ∈ wd_big := wd_tb (i := 66) (by decide +kernel) (by decide +kernel)
theorem mw_67 : (Cond.fieldLink "VoucherOffice" 84 "VoucherOffice$Plain" "from" "I") ∈ wd_big := wd_tb (i := 67) (by decide +kernel) (by decide +kernel)
theorem mw_68 : (Cond.fieldLink "VoucherOffice$Plain" 18 "VoucherOffice$Plain" "amount" "I") ∈ wd_big := wd_tb (i := 68) (by decide +kernel) (by decide +kernel)
theorem mw_69 : (Cond.fieldLink "VoucherOffice" 74 "VoucherOffice$Plain" "amount" "I") ∈ wd_big := wd_tb (i := 69) (by decide +kernel) (by decide +kernel)
theorem mw_70 : (Cond.fieldLink "VoucherOffice$Plain" 21 "VoucherOffice$Plain" "left" "I") ∈ wd_big := wd_tb (i := 70) (by decide +kernel) (by decide +kernel)
theorem mw_71 : (Cond.fieldLink "VoucherOffice$Season" 30 "VoucherOffice$Season" "left" "I") ∈ wd_big := wd_tb (i := 71) (by decide +kernel) (by decide +kernel)
theorem mw_72 : (Cond.sameField "VoucherOffice$Season" "VoucherOffice$Plain" "left" "I") ∈ wd_big := wd_tb (i := 72) (by decide +kernel) (by decide +kernel)
theorem mw_73 : (Cond.fieldLink "VoucherOffice" 81 "VoucherOffice$Plain" "left" "I") ∈ wd_big := wd_tb (i := 73) (by decide +kernel) (by decide +kernel)
theorem mw_74 : (Cond.laysFinal "VoucherOffice$Plain" "VoucherOffice$Plain" "kind" "I") ∈ wd_big := wd_tb (i := 74) (by decide +kernel) (by decide +kernel)
theorem mw_75 : (Cond.soleField "VoucherOffice$Plain" "kind") ∈ wd_big := wd_tb (i := 75) (by decide +kernel) (by decide +kernel)
theorem mw_76 : (Cond.laysFinal "VoucherOffice$Plain" "VoucherOffice$Plain" "from" "I") ∈ wd_big := wd_tb (i := 76) (by decide +kernel) (by decide +kernel)
theorem mw_77 : (Cond.soleField "VoucherOffice$Plain" "from") ∈ wd_big := wd_tb (i := 77) (by decide +kernel) (by decide +kernel)
theorem mw_78 : (Cond.lays "VoucherOffice$Plain" "VoucherOffice$Plain" "amount" "I") ∈ wd_big := wd_tb (i := 78) (by decide +kernel) (by decide +kernel)
theorem mw_79 : (Cond.soleField "VoucherOffice$Plain" "amount") ∈ wd_big := wd_tb (i := 79) (by decide +kernel) (by decide +kernel)
theorem mw_80 : (Cond.lays "VoucherOffice$Plain" "VoucherOffice$Plain" "left" "I") ∈ wd_big := wd_tb (i := 80) (by decide +kernel) (by decide +kernel)
theorem mw_81 : (Cond.soleField "VoucherOffice$Plain" "left") ∈ wd_big := wd_tb (i := 81) (by decide +kernel) (by decide +kernel)
theorem mw_82 : (Cond.superclass "VoucherOffice$Plain" "java/lang/Object") ∈ wd_big := wd_tb (i := 82) (by decide +kernel) (by decide +kernel)
theorem mw_83 : (Cond.classLink "VoucherOffice" 99 "VoucherOffice$Gift") ∈ wd_big := wd_tb (i := 83) (by decide +kernel) (by decide +kernel)
theorem mw_84 : (Cond.instantiable "VoucherOffice$Gift" 4) ∈ wd_big := wd_tb (i := 84) (by decide +kernel) (by decide +kernel)
theorem mw_85 : (Cond.methodLink "VoucherOffice" 101 yX2_init) ∈ wd_big := wd_tb (i := 85) (by decide +kernel) (by decide +kernel)
theorem mw_86 : (Cond.instanceMethod yX2_init) ∈ wd_big := wd_tb (i := 86) (by decide +kernel) (by decide +kernel)
theorem mw_87 : (Cond.code yX2_init cX2_init 4 none) ∈ wd_big := wd_tb (i := 87) (by decide +kernel) (by decide +kernel)
theorem mw_88 : (Cond.methodLink "VoucherOffice$Gift" 1 yX4_init) ∈ wd_big := wd_tb (i := 88) (by decide +kernel) (by decide +kernel)
theorem mw_89 : (Cond.laysFinal "VoucherOffice$Gift" "VoucherOffice$Plain" "kind" "I") ∈ wd_big := wd_tb (i := 89) (by decide +kernel) (by decide +kernel)
theorem mw_90 : (Cond.laysFinal "VoucherOffice$Gift" "VoucherOffice$Plain" "from" "I") ∈ wd_big := wd_tb (i := 90) (by decide +kernel) (by decide +kernel)
theorem mw_91 : (Cond.lays "VoucherOffice$Gift" "VoucherOffice$Plain" "amount" "I") ∈ wd_big := wd_tb (i := 91) (by decide +kernel) (by decide +kernel)
theorem mw_92 : (Cond.lays "VoucherOffice$Gift" "VoucherOffice$Plain" "left" "I") ∈ wd_big := wd_tb (i := 92) (by decide +kernel) (by decide +kernel)
theorem mw_93 : (Cond.superclass "VoucherOffice$Gift" "VoucherOffice$Plain") ∈ wd_big := wd_tb (i := 93) (by decide +kernel) (by decide +kernel)
theorem mw_94 : (Cond.classLink "VoucherOffice" 102 "VoucherOffice$Season") ∈ wd_big := wd_tb (i := 94) (by decide +kernel) (by decide +kernel)
theorem mw_95 : (Cond.instantiable "VoucherOffice$Season" 4) ∈ wd_big := wd_tb (i := 95) (by decide +kernel) (by decide +kernel)
theorem mw_96 : (Cond.methodLink "VoucherOffice" 104 yX6_init) ∈ wd_big := wd_tb (i := 96) (by decide +kernel) (by decide +kernel)
theorem mw_97 : (Cond.instanceMethod yX6_init) ∈ wd_big := wd_tb (i := 97) (by decide +kernel) (by decide +kernel)
theorem mw_98 : (Cond.code yX6_init cX6_init 4 none) ∈ wd_big := wd_tb (i := 98) (by decide +kernel) (by decide +kernel)
theorem mw_99 : (Cond.methodLink "VoucherOffice$Season" 1 yX2_init) ∈ wd_big := wd_tb (i := 99) (by decide +kernel) (by decide +kernel)
theorem mw_100 : (Cond.laysFinal "VoucherOffice$Season" "VoucherOffice$Plain" "kind" "I") ∈ wd_big := wd_tb (i := 100) (by decide +kernel) (by decide +kernel)
theorem mw_101 : (Cond.laysFinal "VoucherOffice$Season" "VoucherOffice$Plain" "from" "I") ∈ wd_big := wd_tb (i := 101) (by decide +kernel) (by decide +kernel)
theorem mw_102 : (Cond.lays "VoucherOffice$Season" "VoucherOffice$Plain" "amount" "I") ∈ wd_big := wd_tb (i := 102) (by decide +kernel) (by decide +kernel)
theorem mw_103 : (Cond.lays "VoucherOffice$Season" "VoucherOffice$Plain" "left" "I") ∈ wd_big := wd_tb (i := 103) (by decide +kernel) (by decide +kernel)
theorem mw_104 : (Cond.superclass "VoucherOffice$Season" "VoucherOffice$Gift") ∈ wd_big := wd_tb (i := 104) (by decide +kernel) (by decide +kernel)
theorem mw_105 : (Cond.classLink "VoucherOffice" 105 "VoucherOffice$Staff") ∈ wd_big := wd_tb (i := 105) (by decide +kernel) (by decide +kernel)
theorem mw_106 : (Cond.instantiable "VoucherOffice$Staff" 5) ∈ wd_big := wd_tb (i := 106) (by decide +kernel) (by decide +kernel)
theorem mw_107 : (Cond.methodLink "VoucherOffice" 107 yX7_init) ∈ wd_big := wd_tb (i := 107) (by decide +kernel) (by decide +kernel)
theorem mw_108 : (Cond.instanceMethod yX7_init) ∈ wd_big := wd_tb (i := 108) (by decide +kernel) (by decide +kernel)
theorem mw_109 : (Cond.code yX7_init cX7_init 4 none) ∈ wd_big := wd_tb (i := 109) (by decide +kernel) (by decide +kernel)
theorem mw_110 : (Cond.methodLink "VoucherOffice$Staff" 3 yX6_init) ∈ wd_big := wd_tb (i := 110) (by decide +kernel) (by decide +kernel)
theorem mw_111 : (Cond.fieldLink "VoucherOffice$Staff" 11 "VoucherOffice$Staff" "lastSpent" "I") ∈ wd_big := wd_tb (i := 111) (by decide +kernel) (by decide +kernel)
theorem mw_112 : (Cond.lays "VoucherOffice$Staff" "VoucherOffice$Staff" "lastSpent" "I") ∈ wd_big := wd_tb (i := 112) (by decide +kernel) (by decide +kernel)
theorem mw_113 : (Cond.soleField "VoucherOffice$Staff" "lastSpent") ∈ wd_big := wd_tb (i := 113) (by decide +kernel) (by decide +kernel)
theorem mw_114 : (Cond.laysFinal "VoucherOffice$Staff" "VoucherOffice$Plain" "kind" "I") ∈ wd_big := wd_tb (i := 114) (by decide +kernel) (by decide +kernel)
theorem mw_115 : (Cond.laysFinal "VoucherOffice$Staff" "VoucherOffice$Plain" "from" "I") ∈ wd_big := wd_tb (i := 115) (by decide +kernel) (by decide +kernel)
theorem mw_116 : (Cond.lays "VoucherOffice$Staff" "VoucherOffice$Plain" "amount" "I") ∈ wd_big := wd_tb (i := 116) (by decide +kernel) (by decide +kernel)
theorem mw_117 : (Cond.lays "VoucherOffice$Staff" "VoucherOffice$Plain" "left" "I") ∈ wd_big := wd_tb (i := 117) (by decide +kernel) (by decide +kernel)
theorem mw_118 : (Cond.superclass "VoucherOffice$Staff" "VoucherOffice$Season") ∈ wd_big := wd_tb (i := 118) (by decide +kernel) (by decide +kernel)
theorem mw_119 : (Cond.classLink "VoucherOffice" 108 "VoucherOffice$Round") ∈ wd_big := wd_tb (i := 119) (by decide +kernel) (by decide +kernel)
theorem mw_120 : (Cond.instantiable "VoucherOffice$Round" 4) ∈ wd_big := wd_tb (i := 120) (by decide +kernel) (by decide +kernel)
theorem mw_121 : (Cond.methodLink "VoucherOffice" 110 yX5_init) ∈ wd_big := wd_tb (i := 121) (by decide +kernel) (by decide +kernel)
theorem mw_122 : (Cond.instanceMethod yX5_init) ∈ wd_big := wd_tb (i := 122) (by decide +kernel) (by decide +kernel)
theorem mw_123 : (Cond.code yX5_init cX5_init 4 none) ∈ wd_big := wd_tb (i := 123) (by decide +kernel) (by decide +kernel)
theorem mw_124 : (Cond.methodLink "VoucherOffice$Round" 1 yX4_init) ∈ wd_big := wd_tb (i := 124) (by decide +kernel) (by decide +kernel)
theorem mw_125 : (Cond.laysFinal "VoucherOffice$Round" "VoucherOffice$Plain" "kind" "I") ∈ wd_big := wd_tb (i := 125) (by decide +kernel) (by decide +kernel)
theorem mw_126 : (Cond.laysFinal "VoucherOffice$Round" "VoucherOffice$Plain" "from" "I") ∈ wd_big := wd_tb (i := 126) (by decide +kernel) (by decide +kernel)
theorem mw_127 : (Cond.lays "VoucherOffice$Round" "VoucherOffice$Plain" "amount" "I") ∈ wd_big := wd_tb (i := 127) (by decide +kernel) (by decide +kernel)
theorem mw_128 : (Cond.lays "VoucherOffice$Round" "VoucherOffice$Plain" "left" "I") ∈ wd_big := wd_tb (i := 128) (by decide +kernel) (by decide +kernel)
theorem mw_129 : (Cond.superclass "VoucherOffice$Round" "VoucherOffice$Plain") ∈ wd_big := wd_tb (i := 129) (by decide +kernel) (by decide +kernel)
theorem mw_130 : (Cond.classLink "VoucherOffice" 111 "VoucherOffice$Club") ∈ wd_big := wd_tb (i := 130) (by decide +kernel) (by decide +kernel)
theorem mw_131 : (Cond.instantiable "VoucherOffice$Club" 4) ∈ wd_big := wd_tb (i := 131) (by decide +kernel) (by decide +kernel)
theorem mw_132 : (Cond.methodLink "VoucherOffice" 113 yX0_init) ∈ wd_big := wd_tb (i := 132) (by decide +kernel) (by decide +kernel)
theorem mw_133 : (Cond.instanceMethod yX0_init) ∈ wd_big := wd_tb (i := 133) (by decide +kernel) (by decide +kernel)
theorem mw_134 : (Cond.code yX0_init cX0_init 4 none) ∈ wd_big := wd_tb (i := 134) (by decide +kernel) (by decide +kernel)
theorem mw_135 : (Cond.methodLink "VoucherOffice$Club" 1 yX5_init) ∈ wd_big := wd_tb (i := 135) (by decide +kernel) (by decide +kernel)
theorem mw_136 : (Cond.laysFinal "VoucherOffice$Club" "VoucherOffice$Plain" "kind" "I") ∈ wd_big := wd_tb (i := 136) (by decide +kernel) (by decide +kernel)
theorem mw_137 : (Cond.laysFinal "VoucherOffice$Club" "VoucherOffice$Plain" "from" "I") ∈ wd_big := wd_tb (i := 137) (by decide +kernel) (by decide +kernel)
theorem mw_138 : (Cond.lays "VoucherOffice$Club" "VoucherOffice$Plain" "amount" "I") ∈ wd_big := wd_tb (i := 138) (by decide +kernel) (by decide +kernel)
theorem mw_139 : (Cond.lays "VoucherOffice$Club" "VoucherOffice$Plain" "left" "I") ∈ wd_big := wd_tb (i := 139) (by decide +kernel) (by decide +kernel)
theorem mw_140 : (Cond.superclass "VoucherOffice$Club" "VoucherOffice$Round") ∈ wd_big := wd_tb (i := 140) (by decide +kernel) (by decide +kernel)
theorem mw_141 : (Cond.classLink "VoucherOffice" 114 "VoucherOffice$House") ∈ wd_big := wd_tb (i := 141) (by decide +kernel) (by decide +kernel)
theorem mw_142 : (Cond.instantiable "VoucherOffice$House" 5) ∈ wd_big := wd_tb (i := 142) (by decide +kernel) (by decide +kernel)
theorem mw_143 : (Cond.methodLink "VoucherOffice" 116 yX3_init) ∈ wd_big := wd_tb (i := 143) (by decide +kernel) (by decide +kernel)
theorem mw_144 : (Cond.instanceMethod yX3_init) ∈ wd_big := wd_tb (i := 144) (by decide +kernel) (by decide +kernel)
theorem mw_145 : (Cond.code yX3_init cX3_init 4 none) ∈ wd_big := wd_tb (i := 145) (by decide +kernel) (by decide +kernel)
theorem mw_146 : (Cond.methodLink "VoucherOffice$House" 1 yX0_init) ∈ wd_big := wd_tb (i := 146) (by decide +kernel) (by decide +kernel)
theorem mw_147 : (Cond.fieldLink "VoucherOffice$House" 7 "VoucherOffice$House" "points" "I") ∈ wd_big := wd_tb (i := 147) (by decide +kernel) (by decide +kernel)
theorem mw_148 : (Cond.fieldLink "VoucherOffice$Crest" 14 "VoucherOffice$Crest" "points" "I") ∈ wd_big := wd_tb (i := 148) (by decide +kernel) (by decide +kernel)
theorem mw_149 : (Cond.sameField "VoucherOffice$Crest" "VoucherOffice$House" "points" "I") ∈ wd_big := wd_tb (i := 149) (by decide +kernel) (by decide +kernel)
theorem mw_150 : (Cond.lays "VoucherOffice$House" "VoucherOffice$House" "points" "I") ∈ wd_big := wd_tb (i := 150) (by decide +kernel) (by decide +kernel)
theorem mw_151 : (Cond.soleField "VoucherOffice$House" "points") ∈ wd_big := wd_tb (i := 151) (by decide +kernel) (by decide +kernel)
theorem mw_152 : (Cond.laysFinal "VoucherOffice$House" "VoucherOffice$Plain" "kind" "I") ∈ wd_big := wd_tb (i := 152) (by decide +kernel) (by decide +kernel)
theorem mw_153 : (Cond.laysFinal "VoucherOffice$House" "VoucherOffice$Plain" "from" "I") ∈ wd_big := wd_tb (i := 153) (by decide +kernel) (by decide +kernel)
theorem mw_154 : (Cond.lays "VoucherOffice$House" "VoucherOffice$Plain" "amount" "I") ∈ wd_big := wd_tb (i := 154) (by decide +kernel) (by decide +kernel)
theorem mw_155 : (Cond.lays "VoucherOffice$House" "VoucherOffice$Plain" "left" "I") ∈ wd_big := wd_tb (i := 155) (by decide +kernel) (by decide +kernel)
theorem mw_156 : (Cond.superclass "VoucherOffice$House" "VoucherOffice$Club") ∈ wd_big := wd_tb (i := 156) (by decide +kernel) (by decide +kernel)
theorem mw_157 : (Cond.classLink "VoucherOffice" 117 "VoucherOffice$Crest") ∈ wd_big := wd_tb (i := 157) (by decide +kernel) (by decide +kernel)
theorem mw_158 : (Cond.instantiable "VoucherOffice$Crest" 5) ∈ wd_big := wd_tb (i := 158) (by decide +kernel) (by decide +kernel)
theorem mw_159 : (Cond.methodLink "VoucherOffice" 119 yX1_init) ∈ wd_big := wd_tb (i := 159) (by decide +kernel) (by decide +kernel)
theorem mw_160 : (Cond.instanceMethod yX1_init) ∈ wd_big := wd_tb (i := 160) (by decide +kernel) (by decide +kernel)
theorem mw_161 : (Cond.code yX1_init cX1_init 4 none) ∈ wd_big := wd_tb (i := 161) (by decide +kernel) (by decide +kernel)
theorem mw_162 : (Cond.methodLink "VoucherOffice$Crest" 1 yX3_init) ∈ wd_big := wd_tb (i := 162) (by decide +kernel) (by decide +kernel)
theorem mw_163 : (Cond.lays "VoucherOffice$Crest" "VoucherOffice$House" "points" "I") ∈ wd_big := wd_tb (i := 163) (by decide +kernel) (by decide +kernel)
theorem mw_164 : (Cond.laysFinal "VoucherOffice$Crest" "VoucherOffice$Plain" "kind" "I") ∈ wd_big := wd_tb (i := 164) (by decide +kernel) (by decide +kernel)
theorem mw_165 : (Cond.laysFinal "VoucherOffice$Crest" "VoucherOffice$Plain" "from" "I") ∈ wd_big := wd_tb (i := 165) (by decide +kernel) (by decide +kernel)
theorem mw_166 : (Cond.lays "VoucherOffice$Crest" "VoucherOffice$Plain" "amount" "I") ∈ wd_big := wd_tb (i := 166) (by decide +kernel) (by decide +kernel)
theorem mw_167 : (Cond.lays "VoucherOffice$Crest" "VoucherOffice$Plain" "left" "I") ∈ wd_big := wd_tb (i := 167) (by decide +kernel) (by decide +kernel)
theorem mw_168 : (Cond.superclass "VoucherOffice$Crest" "VoucherOffice$House") ∈ wd_big := wd_tb (i := 168) (by decide +kernel) (by decide +kernel)
theorem mw_169 : (Cond.methodLink "VoucherOfficeLaw" 18 yX8_pass) ∈ wd_big := wd_tb (i := 169) (by decide +kernel) (by decide +kernel)
theorem mw_170 : (Cond.instanceMethod yX8_pass) ∈ wd_big := wd_tb (i := 170) (by decide +kernel) (by decide +kernel)
theorem mw_171 : (Cond.selects "VoucherOffice" yX8_pass yX8_pass) ∈ wd_big := wd_tb (i := 171) (by decide +kernel) (by decide +kernel)
theorem mw_172 : (Cond.code yX8_pass cX8_pass 2 (some FieldType.int)) ∈ wd_big := wd_tb (i := 172) (by decide +kernel) (by decide +kernel)
theorem mw_173 : (Cond.methodLink "VoucherOfficeLaw" 23 yX8_value) ∈ wd_big := wd_tb (i := 173) (by decide +kernel) (by decide +kernel)
theorem mw_174 : (Cond.instanceMethod yX8_value) ∈ wd_big := wd_tb (i := 174) (by decide +kernel) (by decide +kernel)
theorem mw_175 : (Cond.selects "VoucherOffice" yX8_value yX8_value) ∈ wd_big := wd_tb (i := 175) (by decide +kernel) (by decide +kernel)
theorem mw_176 : (Cond.code yX8_value cX8_value 4 (some FieldType.int)) ∈ wd_big := wd_tb (i := 176) (by decide +kernel) (by decide +kernel)
theorem mw_177 : (Cond.methodLink "VoucherOffice" 43 yX8_find) ∈ wd_big := wd_tb (i := 177) (by decide +kernel) (by decide +kernel)
theorem mw_179 : (Cond.instanceMethod yX8_find) ∈ wd_big := wd_tb (i := 179) (by decide +kernel) (by decide +kernel)
theorem mw_180 : (Cond.code yX8_find cX8_find 2 (some (FieldType.object "VoucherOffice$Plain"))) ∈ wd_big := wd_tb (i := 180) (by decide +kernel) (by decide +kernel)
theorem mw_181 : (Cond.methodLink "VoucherOffice" 47 yX4_valueOn) ∈ wd_big := wd_tb (i := 181) (by decide +kernel) (by decide +kernel)
theorem mw_182 : (Cond.instanceMethod yX4_valueOn) ∈ wd_big := wd_tb (i := 182) (by decide +kernel) (by decide +kernel)
theorem mw_183 : (Cond.selects "VoucherOffice$Plain" yX4_valueOn yX4_valueOn) ∈ wd_big := wd_tb (i := 183) (by decide +kernel) (by decide +kernel)
theorem mw_184 : (Cond.sameMethod "VoucherOffice$Plain" "VoucherOffice$Plain" "valueOn" "(I)I") ∈ wd_big := wd_tb (i := 184) (by decide +kernel) (by decide +kernel)
theorem mw_185 : (Cond.selects "VoucherOffice$Club" yX4_valueOn yX5_valueOn) ∈ wd_big := wd_tb (i := 185) (by decide +kernel) (by decide +kernel)
theorem mw_186 : (Cond.instanceMethod yX5_valueOn) ∈ wd_big := wd_tb (i := 186) (by decide +kernel) (by decide +kernel)
theorem mw_187 : (Cond.code yX5_valueOn cX5_valueOn 3 (some FieldType.int)) ∈ wd_big := wd_tb (i := 187) (by decide +kernel) (by decide +kernel)
theorem mw_188 : (Cond.methodLink "VoucherOffice$Round" 7 yX4_valueOn) ∈ wd_big := wd_tb (i := 188) (by decide +kernel) (by decide +kernel)
theorem mw_189 : (Cond.selects "VoucherOffice$Crest" yX4_valueOn yX1_valueOn) ∈ wd_big := wd_tb (i := 189) (by decide +kernel) (by decide +kernel)
theorem mw_190 : (Cond.instanceMethod yX1_valueOn) ∈ wd_big := wd_tb (i := 190) (by decide +kernel) (by decide +kernel)
theorem mw_191 : (Cond.code yX1_valueOn cX1_valueOn 3 (some FieldType.int)) ∈ wd_big := wd_tb (i := 191) (by decide +kernel) (by decide +kernel)
theorem mw_192 : (Cond.methodLink "VoucherOffice$Crest" 7 yX3_valueOn) ∈ wd_big := wd_tb (i := 192) (by decide +kernel) (by decide +kernel)
theorem mw_193 : (Cond.instanceMethod yX3_valueOn) ∈ wd_big := wd_tb (i := 193) (by decide +kernel) (by decide +kernel)
theorem mw_194 : (Cond.code yX3_valueOn cX3_valueOn 2 (some FieldType.int)) ∈ wd_big := wd_tb (i := 194) (by decide +kernel) (by decide +kernel)
theorem mw_195 : (Cond.methodLink "VoucherOffice$House" 13 ⟨"VoucherOffice$Club", "valueOn", "(I)I"⟩) ∈ wd_big := wd_tb (i := 195) (by decide +kernel) (by decide +kernel)
theorem mw_196 : (Cond.sameMethod "VoucherOffice$Club" "VoucherOffice$Round" "valueOn" "(I)I") ∈ wd_big := wd_tb (i := 196) (by decide +kernel) (by decide +kernel)
theorem mw_198 : (Cond.selects "VoucherOffice$Gift" yX4_valueOn yX4_valueOn) ∈ wd_big := wd_tb (i := 198) (by decide +kernel) (by decide +kernel)
theorem mw_199 : (Cond.selects "VoucherOffice$House" yX4_valueOn yX3_valueOn) ∈ wd_big := wd_tb (i := 199) (by decide +kernel) (by decide +kernel)
theorem mw_200 : (Cond.selects "VoucherOffice$Round" yX4_valueOn yX5_valueOn) ∈ wd_big := wd_tb (i := 200) (by decide +kernel) (by decide +kernel)
theorem mw_201 : (Cond.selects "VoucherOffice$Season" yX4_valueOn yX6_valueOn) ∈ wd_big := wd_tb (i := 201) (by decide +kernel) (by decide +kernel)
theorem mw_202 : (Cond.instanceMethod yX6_valueOn) ∈ wd_big := wd_tb (i := 202) (by decide +kernel) (by decide +kernel)
theorem mw_203 : (Cond.code yX6_valueOn cX6_valueOn 2 (some FieldType.int)) ∈ wd_big := wd_tb (i := 203) (by decide +kernel) (by decide +kernel)
theorem mw_204 : (Cond.methodLink "VoucherOffice$Season" 13 yX6_lastDay) ∈ wd_big := wd_tb (i := 204) (by decide +kernel) (by decide +kernel)
theorem mw_205 : (Cond.instanceMethod yX6_lastDay) ∈ wd_big := wd_tb (i := 205) (by decide +kernel) (by decide +kernel)
theorem mw_206 : (Cond.selects "VoucherOffice$Season" yX6_lastDay yX6_lastDay) ∈ wd_big := wd_tb (i := 206) (by decide +kernel) (by decide +kernel)
theorem mw_207 : (Cond.sameMethod "VoucherOffice$Season" "VoucherOffice$Season" "lastDay" "()I") ∈ wd_big := wd_tb (i := 207) (by decide +kernel) (by decide +kernel)
theorem mw_208 : (Cond.selects "VoucherOffice$Staff" yX6_lastDay yX7_lastDay) ∈ wd_big := wd_tb (i := 208) (by decide +kernel) (by decide +kernel)
theorem mw_209 : (Cond.instanceMethod yX7_lastDay) ∈ wd_big := wd_tb (i := 209) (by decide +kernel) (by decide +kernel)
theorem mw_210 : (Cond.code yX7_lastDay cX7_lastDay 1 (some FieldType.int)) ∈ wd_big := wd_tb (i := 210) (by decide +kernel) (by decide +kernel)
theorem mw_211 : (Cond.code yX6_lastDay cX6_lastDay 1 (some FieldType.int)) ∈ wd_big := wd_tb (i := 211) (by decide +kernel) (by decide +kernel)
theorem mw_212 : (Cond.methodLink "VoucherOffice$Season" 17 ⟨"VoucherOffice$Gift", "valueOn", "(I)I"⟩) ∈ wd_big := wd_tb (i := 212) (by decide +kernel) (by decide +kernel)
theorem mw_213 : (Cond.sameMethod "VoucherOffice$Gift" "VoucherOffice$Plain" "valueOn" "(I)I") ∈ wd_big := wd_tb (i := 213) (by decide +kernel) (by decide +kernel)
theorem mw_215 : (Cond.selects "VoucherOffice$Staff" yX4_valueOn yX7_valueOn) ∈ wd_big := wd_tb (i := 215) (by decide +kernel) (by decide +kernel)
theorem mw_216 : (Cond.instanceMethod yX7_valueOn) ∈ wd_big := wd_tb (i := 216) (by decide +kernel) (by decide +kernel)
theorem mw_217 : (Cond.code yX7_valueOn cX7_valueOn 3 (some FieldType.int)) ∈ wd_big := wd_tb (i := 217) (by decide +kernel) (by decide +kernel)
theorem mw_218 : (Cond.methodLink "VoucherOffice$Staff" 20 yX6_valueOn) ∈ wd_big := wd_tb (i := 218) (by decide +kernel) (by decide +kernel)
theorem mw_219 : (Cond.code yX4_valueOn cX4_valueOn 2 (some FieldType.int)) ∈ wd_big := wd_tb (i := 219) (by decide +kernel) (by decide +kernel)
theorem mw_220 : (Cond.methodLink "VoucherOfficeLaw" 27 yX8_fee) ∈ wd_big := wd_tb (i := 220) (by decide +kernel) (by decide +kernel)
theorem mw_221 : (Cond.instanceMethod yX8_fee) ∈ wd_big := wd_tb (i := 221) (by decide +kernel) (by decide +kernel)
theorem mw_222 : (Cond.selects "VoucherOffice" yX8_fee yX8_fee) ∈ wd_big := wd_tb (i := 222) (by decide +kernel) (by decide +kernel)
theorem mw_223 : (Cond.code yX8_fee cX8_fee 4 (some FieldType.int)) ∈ wd_big := wd_tb (i := 223) (by decide +kernel) (by decide +kernel)
theorem mw_224 : (Cond.methodLink "VoucherOffice" 51 yX4_feeOf) ∈ wd_big := wd_tb (i := 224) (by decide +kernel) (by decide +kernel)
theorem mw_225 : (Cond.instanceMethod yX4_feeOf) ∈ wd_big := wd_tb (i := 225) (by decide +kernel) (by decide +kernel)
theorem mw_226 : (Cond.selects "VoucherOffice$Plain" yX4_feeOf yX4_feeOf) ∈ wd_big := wd_tb (i := 226) (by decide +kernel) (by decide +kernel)
theorem mw_227 : (Cond.sameMethod "VoucherOffice$Plain" "VoucherOffice$Plain" "feeOf" "(I)I") ∈ wd_big := wd_tb (i := 227) (by decide +kernel) (by decide +kernel)
theorem mw_228 : (Cond.selects "VoucherOffice$Club" yX4_feeOf yX4_feeOf) ∈ wd_big := wd_tb (i := 228) (by decide +kernel) (by decide +kernel)
theorem mw_229 : (Cond.selects "VoucherOffice$Crest" yX4_feeOf yX1_feeOf) ∈ wd_big := wd_tb (i := 229) (by decide +kernel) (by decide +kernel)
theorem mw_230 : (Cond.instanceMethod yX1_feeOf) ∈ wd_big := wd_tb (i := 230) (by decide +kernel) (by decide +kernel)
theorem mw_231 : (Cond.code yX1_feeOf cX1_feeOf 2 (some FieldType.int)) ∈ wd_big := wd_tb (i := 231) (by decide +kernel) (by decide +kernel)
theorem mw_232 : (Cond.methodLink "VoucherOffice$Crest" 11 ⟨"VoucherOffice$House", "feeOf", "(I)I"⟩) ∈ wd_big := wd_tb (i := 232) (by decide +kernel) (by decide +kernel)
theorem mw_233 : (Cond.sameMethod "VoucherOffice$House" "VoucherOffice$Plain" "feeOf" "(I)I") ∈ wd_big := wd_tb (i := 233) (by decide +kernel) (by decide +kernel)
theorem mw_235 : (Cond.methodLink "VoucherOffice$Crest" 20 Lib.Math.max.name) ∈ wd_big := wd_tb (i := 235) (by decide +kernel) (by decide +kernel)
theorem mw_236 : (Cond.static Lib.Math.max.name) ∈ wd_big := wd_tb (i := 236) (by decide +kernel) (by decide +kernel)
theorem mw_237 : (Cond.code Lib.Math.max.name Lib.Math.max.code 2 (some FieldType.int)) ∈ wd_big := wd_tb (i := 237) (by decide +kernel) (by decide +kernel)
theorem mw_238 : (Cond.selects "VoucherOffice$Gift" yX4_feeOf yX4_feeOf) ∈ wd_big := wd_tb (i := 238) (by decide +kernel) (by decide +kernel)
theorem mw_239 : (Cond.selects "VoucherOffice$House" yX4_feeOf yX4_feeOf) ∈ wd_big := wd_tb (i := 239) (by decide +kernel) (by decide +kernel)
theorem mw_240 : (Cond.selects "VoucherOffice$Round" yX4_feeOf yX4_feeOf) ∈ wd_big := wd_tb (i := 240) (by decide +kernel) (by decide +kernel)
theorem mw_241 : (Cond.selects "VoucherOffice$Season" yX4_feeOf yX4_feeOf) ∈ wd_big := wd_tb (i := 241) (by decide +kernel) (by decide +kernel)
theorem mw_242 : (Cond.selects "VoucherOffice$Staff" yX4_feeOf yX7_feeOf) ∈ wd_big := wd_tb (i := 242) (by decide +kernel) (by decide +kernel)
theorem mw_243 : (Cond.instanceMethod yX7_feeOf) ∈ wd_big := wd_tb (i := 243) (by decide +kernel) (by decide +kernel)
theorem mw_244 : (Cond.code yX7_feeOf cX7_feeOf 2 (some FieldType.int)) ∈ wd_big := wd_tb (i := 244) (by decide +kernel) (by decide +kernel)
theorem mw_245 : (Cond.methodLink "VoucherOffice$Staff" 24 ⟨"VoucherOffice$Season", "feeOf", "(I)I"⟩) ∈ wd_big := wd_tb (i := 245) (by decide +kernel) (by decide +kernel)
theorem mw_246 : (Cond.sameMethod "VoucherOffice$Season" "VoucherOffice$Plain" "feeOf" "(I)I") ∈ wd_big := wd_tb (i := 246) (by decide +kernel) (by decide +kernel)
theorem mw_247 : (Cond.code yX4_feeOf cX4_feeOf 2 (some FieldType.int)) ∈ wd_big := wd_tb (i := 247) (by decide +kernel) (by decide +kernel)
theorem mw_248 : (Cond.methodLink "VoucherOfficeLaw" 31 yX8_spend) ∈ wd_big := wd_tb (i := 248) (by decide +kernel) (by decide +kernel)
theorem mw_249 : (Cond.instanceMethod yX8_spend) ∈ wd_big := wd_tb (i := 249) (by decide +kernel) (by decide +kernel)
theorem mw_250 : (Cond.selects "VoucherOffice" yX8_spend yX8_spend) ∈ wd_big := wd_tb (i := 250) (by decide +kernel) (by decide +kernel)
theorem mw_251 : (Cond.code yX8_spend cX8_spend 6 (some FieldType.int)) ∈ wd_big := wd_tb (i := 251) (by decide +kernel) (by decide +kernel)
theorem mw_252 : (Cond.methodLink "VoucherOffice" 54 yX4_spendOn) ∈ wd_big := wd_tb (i := 252) (by decide +kernel) (by decide +kernel)
theorem mw_253 : (Cond.instanceMethod yX4_spendOn) ∈ wd_big := wd_tb (i := 253) (by decide +kernel) (by decide +kernel)
theorem mw_254 : (Cond.selects "VoucherOffice$Plain" yX4_spendOn yX4_spendOn) ∈ wd_big := wd_tb (i := 254) (by decide +kernel) (by decide +kernel)
theorem mw_255 : (Cond.sameMethod "VoucherOffice$Plain" "VoucherOffice$Plain" "spendOn" "(II)I") ∈ wd_big := wd_tb (i := 255) (by decide +kernel) (by decide +kernel)
theorem mw_256 : (Cond.selects "VoucherOffice$Club" yX4_spendOn yX4_spendOn) ∈ wd_big := wd_tb (i := 256) (by decide +kernel) (by decide +kernel)
theorem mw_257 : (Cond.selects "VoucherOffice$Crest" yX4_spendOn yX3_spendOn) ∈ wd_big := wd_tb (i := 257) (by decide +kernel) (by decide +kernel)
theorem mw_258 : (Cond.instanceMethod yX3_spendOn) ∈ wd_big := wd_tb (i := 258) (by decide +kernel) (by decide +kernel)
theorem mw_259 : (Cond.code yX3_spendOn cX3_spendOn 4 (some FieldType.int)) ∈ wd_big := wd_tb (i := 259) (by decide +kernel) (by decide +kernel)
theorem mw_260 : (Cond.methodLink "VoucherOffice$House" 17 ⟨"VoucherOffice$Club", "spendOn", "(II)I"⟩) ∈ wd_big := wd_tb (i := 260) (by decide +kernel) (by decide +kernel)
theorem mw_261 : (Cond.sameMethod "VoucherOffice$Club" "VoucherOffice$Plain" "spendOn" "(II)I") ∈ wd_big := wd_tb (i := 261) (by decide +kernel) (by decide +kernel)
theorem mw_263 : (Cond.selects "VoucherOffice$Gift" yX4_spendOn yX4_spendOn) ∈ wd_big := wd_tb (i := 263) (by decide +kernel) (by decide +kernel)
theorem mw_264 : (Cond.selects "VoucherOffice$House" yX4_spendOn yX3_spendOn) ∈ wd_big := wd_tb (i := 264) (by decide +kernel) (by decide +kernel)
theorem mw_265 : (Cond.selects "VoucherOffice$Round" yX4_spendOn yX4_spendOn) ∈ wd_big := wd_tb (i := 265) (by decide +kernel) (by decide +kernel)
theorem mw_266 : (Cond.selects "VoucherOffice$Season" yX4_spendOn yX4_spendOn) ∈ wd_big := wd_tb (i := 266) (by decide +kernel) (by decide +kernel)
theorem mw_267 : (Cond.selects "VoucherOffice$Staff" yX4_spendOn yX7_spendOn) ∈ wd_big := wd_tb (i := 267) (by decide +kernel) (by decide +kernel)
theorem mw_268 : (Cond.instanceMethod yX7_spendOn) ∈ wd_big := wd_tb (i := 268) (by decide +kernel) (by decide +kernel)
theorem mw_269 : (Cond.code yX7_spendOn cX7_spendOn 4 (some FieldType.int)) ∈ wd_big := wd_tb (i := 269) (by decide +kernel) (by decide +kernel)
theorem mw_270 : (Cond.methodLink "VoucherOffice$Staff" 27 ⟨"VoucherOffice$Season", "spendOn", "(II)I"⟩) ∈ wd_big := wd_tb (i := 270) (by decide +kernel) (by decide +kernel)
theorem mw_271 : (Cond.sameMethod "VoucherOffice$Season" "VoucherOffice$Plain" "spendOn" "(II)I") ∈ wd_big := wd_tb (i := 271) (by decide +kernel) (by decide +kernel)
theorem mw_272 : (Cond.code yX4_spendOn cX4_spendOn 4 (some FieldType.int)) ∈ wd_big := wd_tb (i := 272) (by decide +kernel) (by decide +kernel)
theorem mw_273 : (Cond.methodLink "VoucherOffice$Plain" 24 yX4_feeOf) ∈ wd_big := wd_tb (i := 273) (by decide +kernel) (by decide +kernel)
theorem mw_274 : (Cond.methodLink "VoucherOffice$Plain" 28 yX4_valueOn) ∈ wd_big := wd_tb (i := 274) (by decide +kernel) (by decide +kernel)
theorem mw_275 : (Cond.methodLink "VoucherOfficeLaw" 35 yX8_seal) ∈ wd_big := wd_tb (i := 275) (by decide +kernel) (by decide +kernel)
theorem mw_276 : (Cond.instanceMethod yX8_seal) ∈ wd_big := wd_tb (i := 276) (by decide +kernel) (by decide +kernel)
theorem mw_277 : (Cond.selects "VoucherOffice" yX8_seal yX8_seal) ∈ wd_big := wd_tb (i := 277) (by decide +kernel) (by decide +kernel)
theorem mw_278 : (Cond.code yX8_seal cX8_seal 3 (some FieldType.int)) ∈ wd_big := wd_tb (i := 278) (by decide +kernel) (by decide +kernel)
theorem mw_279 : (Cond.methodLink "VoucherOffice" 58 yX4_sealNow) ∈ wd_big := wd_tb (i := 279) (by decide +kernel) (by decide +kernel)
theorem mw_280 : (Cond.instanceMethod yX4_sealNow) ∈ wd_big := wd_tb (i := 280) (by decide +kernel) (by decide +kernel)
theorem mw_281 : (Cond.selects "VoucherOffice$Plain" yX4_sealNow yX4_sealNow) ∈ wd_big := wd_tb (i := 281) (by decide +kernel) (by decide +kernel)
theorem mw_282 : (Cond.sameMethod "VoucherOffice$Plain" "VoucherOffice$Plain" "sealNow" "()I") ∈ wd_big := wd_tb (i := 282) (by decide +kernel) (by decide +kernel)
theorem mw_283 : (Cond.selects "VoucherOffice$Club" yX4_sealNow yX4_sealNow) ∈ wd_big := wd_tb (i := 283) (by decide +kernel) (by decide +kernel)
theorem mw_284 : (Cond.selects "VoucherOffice$Crest" yX4_sealNow yX1_sealNow) ∈ wd_big := wd_tb (i := 284) (by decide +kernel) (by decide +kernel)
theorem mw_285 : (Cond.instanceMethod yX1_sealNow) ∈ wd_big := wd_tb (i := 285) (by decide +kernel) (by decide +kernel)
theorem mw_286 : (Cond.code yX1_sealNow cX1_sealNow 1 (some FieldType.int)) ∈ wd_big := wd_tb (i := 286) (by decide +kernel) (by decide +kernel)
theorem mw_287 : (Cond.methodLink "VoucherOffice$Crest" 26 ⟨"VoucherOffice$House", "sealNow", "()I"⟩) ∈ wd_big := wd_tb (i := 287) (by decide +kernel) (by decide +kernel)
theorem mw_288 : (Cond.sameMethod "VoucherOffice$House" "VoucherOffice$Plain" "sealNow" "()I") ∈ wd_big := wd_tb (i := 288) (by decide +kernel) (by decide +kernel)
theorem mw_290 : (Cond.selects "VoucherOffice$Gift" yX4_sealNow yX4_sealNow) ∈ wd_big := wd_tb (i := 290) (by decide +kernel) (by decide +kernel)
theorem mw_291 : (Cond.selects "VoucherOffice$House" yX4_sealNow yX4_sealNow) ∈ wd_big := wd_tb (i := 291) (by decide +kernel) (by decide +kernel)
theorem mw_292 : (Cond.selects "VoucherOffice$Round" yX4_sealNow yX4_sealNow) ∈ wd_big := wd_tb (i := 292) (by decide +kernel) (by decide +kernel)
theorem mw_293 : (Cond.selects "VoucherOffice$Season" yX4_sealNow yX6_sealNow) ∈ wd_big := wd_tb (i := 293) (by decide +kernel) (by decide +kernel)
theorem mw_294 : (Cond.instanceMethod yX6_sealNow) ∈ wd_big := wd_tb (i := 294) (by decide +kernel) (by decide +kernel)
theorem mw_295 : (Cond.code yX6_sealNow cX6_sealNow 1 (some FieldType.int)) ∈ wd_big := wd_tb (i := 295) (by decide +kernel) (by decide +kernel)
theorem mw_296 : (Cond.methodLink "VoucherOffice$Season" 21 ⟨"VoucherOffice$Gift", "sealNow", "()I"⟩) ∈ wd_big := wd_tb (i := 296) (by decide +kernel) (by decide +kernel)
theorem mw_297 : (Cond.sameMethod "VoucherOffice$Gift" "VoucherOffice$Plain" "sealNow" "()I") ∈ wd_big := wd_tb (i := 297) (by decide +kernel) (by decide +kernel)
theorem mw_298 : (Cond.selects "VoucherOffice$Staff" yX4_sealNow yX6_sealNow) ∈ wd_big := wd_tb (i := 298) (by decide +kernel) (by decide +kernel)
theorem mw_299 : (Cond.code yX4_sealNow cX4_sealNow 1 (some FieldType.int)) ∈ wd_big := wd_tb (i := 299) (by decide +kernel) (by decide +kernel)
theorem mw_300 : (Cond.methodLink "VoucherOfficeLaw" 39 yX8_mark) ∈ wd_big := wd_tb (i := 300) (by decide +kernel) (by decide +kernel)
theorem mw_301 : (Cond.instanceMethod yX8_mark) ∈ wd_big := wd_tb (i := 301) (by decide +kernel) (by decide +kernel)
theorem mw_302 : (Cond.selects "VoucherOffice" yX8_mark yX8_mark) ∈ wd_big := wd_tb (i := 302) (by decide +kernel) (by decide +kernel)
theorem mw_303 : (Cond.code yX8_mark cX8_mark 4 (some FieldType.int)) ∈ wd_big := wd_tb (i := 303) (by decide +kernel) (by decide +kernel)
theorem mw_304 : (Cond.methodLink "VoucherOffice" 62 yX4_markOf) ∈ wd_big := wd_tb (i := 304) (by decide +kernel) (by decide +kernel)
theorem mw_305 : (Cond.instanceMethod yX4_markOf) ∈ wd_big := wd_tb (i := 305) (by decide +kernel) (by decide +kernel)
theorem mw_306 : (Cond.selects "VoucherOffice$Plain" yX4_markOf yX4_markOf) ∈ wd_big := wd_tb (i := 306) (by decide +kernel) (by decide +kernel)
theorem mw_307 : (Cond.sameMethod "VoucherOffice$Plain" "VoucherOffice$Plain" "markOf" "(I)I") ∈ wd_big := wd_tb (i := 307) (by decide +kernel) (by decide +kernel)
theorem mw_308 : (Cond.selects "VoucherOffice$Club" yX4_markOf yX0_markOf) ∈ wd_big := wd_tb (i := 308) (by decide +kernel) (by decide +kernel)
theorem mw_309 : (Cond.instanceMethod yX0_markOf) ∈ wd_big := wd_tb (i := 309) (by decide +kernel) (by decide +kernel)
theorem mw_310 : (Cond.code yX0_markOf cX0_markOf 2 (some FieldType.int)) ∈ wd_big := wd_tb (i := 310) (by decide +kernel) (by decide +kernel)
theorem mw_311 : (Cond.methodLink "VoucherOffice$Club" 7 ⟨"VoucherOffice$Club", "sealNow", "()I"⟩) ∈ wd_big := wd_tb (i := 311) (by decide +kernel) (by decide +kernel)
theorem mw_312 : (Cond.sameMethod "VoucherOffice$Club" "VoucherOffice$Plain" "sealNow" "()I") ∈ wd_big := wd_tb (i := 312) (by decide +kernel) (by decide +kernel)
theorem mw_313 : (Cond.selects "VoucherOffice$Club" ⟨"VoucherOffice$Club", "sealNow", "()I"⟩ yX4_sealNow) ∈ wd_big := wd_tb (i := 313) (by decide +kernel) (by decide +kernel)
theorem mw_314 : (Cond.selects "VoucherOffice$Crest" ⟨"VoucherOffice$Club", "sealNow", "()I"⟩ yX1_sealNow) ∈ wd_big := wd_tb (i := 314) (by decide +kernel) (by decide +kernel)
theorem mw_315 : (Cond.selects "VoucherOffice$House" ⟨"VoucherOffice$Club", "sealNow", "()I"⟩ yX4_sealNow) ∈ wd_big := wd_tb (i := 315) (by decide +kernel) (by decide +kernel)
theorem mw_316 : (Cond.selects "VoucherOffice$Crest" yX4_markOf yX0_markOf) ∈ wd_big := wd_tb (i := 316) (by decide +kernel) (by decide +kernel)
theorem mw_317 : (Cond.selects "VoucherOffice$Gift" yX4_markOf yX4_markOf) ∈ wd_big := wd_tb (i := 317) (by decide +kernel) (by decide +kernel)
theorem mw_318 : (Cond.selects "VoucherOffice$House" yX4_markOf yX0_markOf) ∈ wd_big := wd_tb (i := 318) (by decide +kernel) (by decide +kernel)
theorem mw_319 : (Cond.selects "VoucherOffice$Round" yX4_markOf yX4_markOf) ∈ wd_big := wd_tb (i := 319) (by decide +kernel) (by decide +kernel)
theorem mw_320 : (Cond.selects "VoucherOffice$Season" yX4_markOf yX4_markOf) ∈ wd_big := wd_tb (i := 320) (by decide +kernel) (by decide +kernel)
theorem mw_321 : (Cond.selects "VoucherOffice$Staff" yX4_markOf yX4_markOf) ∈ wd_big := wd_tb (i := 321) (by decide +kernel) (by decide +kernel)
theorem mw_322 : (Cond.code yX4_markOf cX4_markOf 2 (some FieldType.int)) ∈ wd_big := wd_tb (i := 322) (by decide +kernel) (by decide +kernel)
theorem mw_323 : (Cond.methodLink "VoucherOfficeLaw" 43 yX8_daysLeft) ∈ wd_big := wd_tb (i := 323) (by decide +kernel) (by decide +kernel)
theorem mw_324 : (Cond.instanceMethod yX8_daysLeft) ∈ wd_big := wd_tb (i := 324) (by decide +kernel) (by decide +kernel)
theorem mw_325 : (Cond.selects "VoucherOffice" yX8_daysLeft yX8_daysLeft) ∈ wd_big := wd_tb (i := 325) (by decide +kernel) (by decide +kernel)
theorem mw_326 : (Cond.code yX8_daysLeft cX8_daysLeft 4 (some FieldType.int)) ∈ wd_big := wd_tb (i := 326) (by decide +kernel) (by decide +kernel)
theorem mw_327 : (Cond.methodLink "VoucherOffice" 65 yX4_daysLeftOn) ∈ wd_big := wd_tb (i := 327) (by decide +kernel) (by decide +kernel)
theorem mw_328 : (Cond.instanceMethod yX4_daysLeftOn) ∈ wd_big := wd_tb (i := 328) (by decide +kernel) (by decide +kernel)
theorem mw_329 : (Cond.selects "VoucherOffice$Plain" yX4_daysLeftOn yX4_daysLeftOn) ∈ wd_big := wd_tb (i := 329) (by decide +kernel) (by decide +kernel)
theorem mw_330 : (Cond.sameMethod "VoucherOffice$Plain" "VoucherOffice$Plain" "daysLeftOn" "(I)I") ∈ wd_big := wd_tb (i := 330) (by decide +kernel) (by decide +kernel)
theorem mw_331 : (Cond.selects "VoucherOffice$Club" yX4_daysLeftOn yX4_daysLeftOn) ∈ wd_big := wd_tb (i := 331) (by decide +kernel) (by decide +kernel)
theorem mw_332 : (Cond.selects "VoucherOffice$Crest" yX4_daysLeftOn yX4_daysLeftOn) ∈ wd_big := wd_tb (i := 332) (by decide +kernel) (by decide +kernel)
theorem mw_333 : (Cond.selects "VoucherOffice$Gift" yX4_daysLeftOn yX4_daysLeftOn) ∈ wd_big := wd_tb (i := 333) (by decide +kernel) (by decide +kernel)
theorem mw_334 : (Cond.selects "VoucherOffice$House" yX4_daysLeftOn yX4_daysLeftOn) ∈ wd_big := wd_tb (i := 334) (by decide +kernel) (by decide +kernel)
theorem mw_335 : (Cond.selects "VoucherOffice$Round" yX4_daysLeftOn yX4_daysLeftOn) ∈ wd_big := wd_tb (i := 335) (by decide +kernel) (by decide +kernel)
theorem mw_336 : (Cond.selects "VoucherOffice$Season" yX4_daysLeftOn yX6_daysLeftOn) ∈ wd_big := wd_tb (i := 336) (by decide +kernel) (by decide +kernel)
theorem mw_337 : (Cond.instanceMethod yX6_daysLeftOn) ∈ wd_big := wd_tb (i := 337) (by decide +kernel) (by decide +kernel)
theorem mw_338 : (Cond.code yX6_daysLeftOn cX6_daysLeftOn 2 (some FieldType.int)) ∈ wd_big := wd_tb (i := 338) (by decide +kernel) (by decide +kernel)
theorem mw_339 : (Cond.methodLink "VoucherOffice$Season" 24 Lib.Math.max.name) ∈ wd_big := wd_tb (i := 339) (by decide +kernel) (by decide +kernel)
theorem mw_340 : (Cond.selects "VoucherOffice$Staff" yX4_daysLeftOn yX6_daysLeftOn) ∈ wd_big := wd_tb (i := 340) (by decide +kernel) (by decide +kernel)
theorem mw_341 : (Cond.code yX4_daysLeftOn cX4_daysLeftOn 2 (some FieldType.int)) ∈ wd_big := wd_tb (i := 341) (by decide +kernel) (by decide +kernel)
theorem mw_342 : (Cond.methodLink "VoucherOfficeLaw" 47 yX8_lapse) ∈ wd_big := wd_tb (i := 342) (by decide +kernel) (by decide +kernel)
theorem mw_343 : (Cond.instanceMethod yX8_lapse) ∈ wd_big := wd_tb (i := 343) (by decide +kernel) (by decide +kernel)
theorem mw_344 : (Cond.selects "VoucherOffice" yX8_lapse yX8_lapse) ∈ wd_big := wd_tb (i := 344) (by decide +kernel) (by decide +kernel)
theorem mw_345 : (Cond.code yX8_lapse cX8_lapse 4 (some FieldType.int)) ∈ wd_big := wd_tb (i := 345) (by decide +kernel) (by decide +kernel)
theorem mw_346 : (Cond.methodLink "VoucherOffice" 68 yX4_lapseOn) ∈ wd_big := wd_tb (i := 346) (by decide +kernel) (by decide +kernel)
theorem mw_347 : (Cond.instanceMethod yX4_lapseOn) ∈ wd_big := wd_tb (i := 347) (by decide +kernel) (by decide +kernel)
theorem mw_348 : (Cond.selects "VoucherOffice$Plain" yX4_lapseOn yX4_lapseOn) ∈ wd_big := wd_tb (i := 348) (by decide +kernel) (by decide +kernel)
theorem mw_349 : (Cond.sameMethod "VoucherOffice$Plain" "VoucherOffice$Plain" "lapseOn" "(I)I") ∈ wd_big := wd_tb (i := 349) (by decide +kernel) (by decide +kernel)
theorem mw_350 : (Cond.selects "VoucherOffice$Club" yX4_lapseOn yX4_lapseOn) ∈ wd_big := wd_tb (i := 350) (by decide +kernel) (by decide +kernel)
theorem mw_351 : (Cond.selects "VoucherOffice$Crest" yX4_lapseOn yX4_lapseOn) ∈ wd_big := wd_tb (i := 351) (by decide +kernel) (by decide +kernel)
theorem mw_352 : (Cond.selects "VoucherOffice$Gift" yX4_lapseOn yX4_lapseOn) ∈ wd_big := wd_tb (i := 352) (by decide +kernel) (by decide +kernel)
theorem mw_353 : (Cond.selects "VoucherOffice$House" yX4_lapseOn yX4_lapseOn) ∈ wd_big := wd_tb (i := 353) (by decide +kernel) (by decide +kernel)
theorem mw_354 : (Cond.selects "VoucherOffice$Round" yX4_lapseOn yX4_lapseOn) ∈ wd_big := wd_tb (i := 354) (by decide +kernel) (by decide +kernel)
theorem mw_355 : (Cond.selects "VoucherOffice$Season" yX4_lapseOn yX6_lapseOn) ∈ wd_big := wd_tb (i := 355) (by decide +kernel) (by decide +kernel)
theorem mw_356 : (Cond.instanceMethod yX6_lapseOn) ∈ wd_big := wd_tb (i := 356) (by decide +kernel) (by decide +kernel)
theorem mw_357 : (Cond.code yX6_lapseOn cX6_lapseOn 3 (some FieldType.int)) ∈ wd_big := wd_tb (i := 357) (by decide +kernel) (by decide +kernel)
theorem mw_358 : (Cond.selects "VoucherOffice$Staff" yX4_lapseOn yX6_lapseOn) ∈ wd_big := wd_tb (i := 358) (by decide +kernel) (by decide +kernel)
theorem mw_359 : (Cond.code yX4_lapseOn cX4_lapseOn 2 (some FieldType.int)) ∈ wd_big := wd_tb (i := 359) (by decide +kernel) (by decide +kernel)
theorem mw_360 : (Cond.methodLink "VoucherOfficeLaw" 52 yX8_merge) ∈ wd_big := wd_tb (i := 360) (by decide +kernel) (by decide +kernel)
theorem mw_361 : (Cond.instanceMethod yX8_merge) ∈ wd_big := wd_tb (i := 361) (by decide +kernel) (by decide +kernel)
theorem mw_362 : (Cond.selects "VoucherOffice" yX8_merge yX8_merge) ∈ wd_big := wd_tb (i := 362) (by decide +kernel) (by decide +kernel)
theorem mw_363 : (Cond.code yX8_merge cX8_merge 5 (some FieldType.int)) ∈ wd_big := wd_tb (i := 363) (by decide +kernel) (by decide +kernel)
theorem mw_364 : (Cond.methodLink "VoucherOffice" 77 yX4_takeIn) ∈ wd_big := wd_tb (i := 364) (by decide +kernel) (by decide +kernel)
theorem mw_365 : (Cond.instanceMethod yX4_takeIn) ∈ wd_big := wd_tb (i := 365) (by decide +kernel) (by decide +kernel)
theorem mw_366 : (Cond.selects "VoucherOffice$Plain" yX4_takeIn yX4_takeIn) ∈ wd_big := wd_tb (i := 366) (by decide +kernel) (by decide +kernel)
theorem mw_367 : (Cond.sameMethod "VoucherOffice$Plain" "VoucherOffice$Plain" "takeIn" "(LVoucherOffice$Plain;)V") ∈ wd_big := wd_tb (i := 367) (by decide +kernel) (by decide +kernel)
theorem mw_368 : (Cond.selects "VoucherOffice$Club" yX4_takeIn yX4_takeIn) ∈ wd_big := wd_tb (i := 368) (by decide +kernel) (by decide +kernel)
theorem mw_369 : (Cond.selects "VoucherOffice$Crest" yX4_takeIn yX3_takeIn) ∈ wd_big := wd_tb (i := 369) (by decide +kernel) (by decide +kernel)
theorem mw_370 : (Cond.instanceMethod yX3_takeIn) ∈ wd_big := wd_tb (i := 370) (by decide +kernel) (by decide +kernel)
theorem mw_371 : (Cond.code yX3_takeIn cX3_takeIn 2 none) ∈ wd_big := wd_tb (i := 371) (by decide +kernel) (by decide +kernel)
theorem mw_372 : (Cond.methodLink "VoucherOffice$House" 21 ⟨"VoucherOffice$Club", "takeIn", "(LVoucherOffice$Plain;)V"⟩) ∈ wd_big := wd_tb (i := 372) (by decide +kernel) (by decide +kernel)
theorem mw_373 : (Cond.sameMethod "VoucherOffice$Club" "VoucherOffice$Plain" "takeIn" "(LVoucherOffice$Plain;)V") ∈ wd_big := wd_tb (i := 373) (by decide +kernel) (by decide +kernel)
theorem mw_375 : (Cond.methodLink "VoucherOffice$House" 25 yX4_pointsNow) ∈ wd_big := wd_tb (i := 375) (by decide +kernel) (by decide +kernel)
theorem mw_376 : (Cond.instanceMethod yX4_pointsNow) ∈ wd_big := wd_tb (i := 376) (by decide +kernel) (by decide +kernel)
theorem mw_377 : (Cond.selects "VoucherOffice$Plain" yX4_pointsNow yX4_pointsNow) ∈ wd_big := wd_tb (i := 377) (by decide +kernel) (by decide +kernel)
theorem mw_378 : (Cond.sameMethod "VoucherOffice$Plain" "VoucherOffice$Plain" "pointsNow" "()I") ∈ wd_big := wd_tb (i := 378) (by decide +kernel) (by decide +kernel)
theorem mw_379 : (Cond.selects "VoucherOffice$Club" yX4_pointsNow yX4_pointsNow) ∈ wd_big := wd_tb (i := 379) (by decide +kernel) (by decide +kernel)
theorem mw_380 : (Cond.selects "VoucherOffice$Crest" yX4_pointsNow yX3_pointsNow) ∈ wd_big := wd_tb (i := 380) (by decide +kernel) (by decide +kernel)
theorem mw_381 : (Cond.instanceMethod yX3_pointsNow) ∈ wd_big := wd_tb (i := 381) (by decide +kernel) (by decide +kernel)
theorem mw_382 : (Cond.code yX3_pointsNow cX3_pointsNow 1 (some FieldType.int)) ∈ wd_big := wd_tb (i := 382) (by decide +kernel) (by decide +kernel)
theorem mw_383 : (Cond.selects "VoucherOffice$Gift" yX4_pointsNow yX4_pointsNow) ∈ wd_big := wd_tb (i := 383) (by decide +kernel) (by decide +kernel)
theorem mw_384 : (Cond.selects "VoucherOffice$House" yX4_pointsNow yX3_pointsNow) ∈ wd_big := wd_tb (i := 384) (by decide +kernel) (by decide +kernel)
theorem mw_385 : (Cond.selects "VoucherOffice$Round" yX4_pointsNow yX4_pointsNow) ∈ wd_big := wd_tb (i := 385) (by decide +kernel) (by decide +kernel)
theorem mw_386 : (Cond.selects "VoucherOffice$Season" yX4_pointsNow yX4_pointsNow) ∈ wd_big := wd_tb (i := 386) (by decide +kernel) (by decide +kernel)
theorem mw_387 : (Cond.selects "VoucherOffice$Staff" yX4_pointsNow yX4_pointsNow) ∈ wd_big := wd_tb (i := 387) (by decide +kernel) (by decide +kernel)
theorem mw_388 : (Cond.code yX4_pointsNow cX4_pointsNow 1 (some FieldType.int)) ∈ wd_big := wd_tb (i := 388) (by decide +kernel) (by decide +kernel)
theorem mw_389 : (Cond.selects "VoucherOffice$Gift" yX4_takeIn yX4_takeIn) ∈ wd_big := wd_tb (i := 389) (by decide +kernel) (by decide +kernel)
theorem mw_390 : (Cond.selects "VoucherOffice$House" yX4_takeIn yX3_takeIn) ∈ wd_big := wd_tb (i := 390) (by decide +kernel) (by decide +kernel)
theorem mw_391 : (Cond.selects "VoucherOffice$Round" yX4_takeIn yX4_takeIn) ∈ wd_big := wd_tb (i := 391) (by decide +kernel) (by decide +kernel)
theorem mw_392 : (Cond.selects "VoucherOffice$Season" yX4_takeIn yX4_takeIn) ∈ wd_big := wd_tb (i := 392) (by decide +kernel) (by decide +kernel)
theorem mw_393 : (Cond.selects "VoucherOffice$Staff" yX4_takeIn yX7_takeIn) ∈ wd_big := wd_tb (i := 393) (by decide +kernel) (by decide +kernel)
theorem mw_394 : (Cond.instanceMethod yX7_takeIn) ∈ wd_big := wd_tb (i := 394) (by decide +kernel) (by decide +kernel)
theorem mw_395 : (Cond.code yX7_takeIn cX7_takeIn 2 none) ∈ wd_big := wd_tb (i := 395) (by decide +kernel) (by decide +kernel)
theorem mw_396 : (Cond.methodLink "VoucherOffice$Staff" 31 ⟨"VoucherOffice$Season", "takeIn", "(LVoucherOffice$Plain;)V"⟩) ∈ wd_big := wd_tb (i := 396) (by decide +kernel) (by decide +kernel)
theorem mw_397 : (Cond.sameMethod "VoucherOffice$Season" "VoucherOffice$Plain" "takeIn" "(LVoucherOffice$Plain;)V") ∈ wd_big := wd_tb (i := 397) (by decide +kernel) (by decide +kernel)
theorem mw_398 : (Cond.methodLink "VoucherOffice$Staff" 35 yX4_lastSpent) ∈ wd_big := wd_tb (i := 398) (by decide +kernel) (by decide +kernel)
theorem mw_399 : (Cond.instanceMethod yX4_lastSpent) ∈ wd_big := wd_tb (i := 399) (by decide +kernel) (by decide +kernel)
theorem mw_400 : (Cond.selects "VoucherOffice$Plain" yX4_lastSpent yX4_lastSpent) ∈ wd_big := wd_tb (i := 400) (by decide +kernel) (by decide +kernel)
theorem mw_401 : (Cond.sameMethod "VoucherOffice$Plain" "VoucherOffice$Plain" "lastSpent" "()I") ∈ wd_big := wd_tb (i := 401) (by decide +kernel) (by decide +kernel)
theorem mw_402 : (Cond.selects "VoucherOffice$Club" yX4_lastSpent yX4_lastSpent) ∈ wd_big := wd_tb (i := 402) (by decide +kernel) (by decide +kernel)
theorem mw_403 : (Cond.selects "VoucherOffice$Crest" yX4_lastSpent yX4_lastSpent) ∈ wd_big := wd_tb (i := 403) (by decide +kernel) (by decide +kernel)
theorem mw_404 : (Cond.selects "VoucherOffice$Gift" yX4_lastSpent yX4_lastSpent) ∈ wd_big := wd_tb (i := 404) (by decide +kernel) (by decide +kernel)
theorem mw_405 : (Cond.selects "VoucherOffice$House" yX4_lastSpent yX4_lastSpent) ∈ wd_big := wd_tb (i := 405) (by decide +kernel) (by decide +kernel)
theorem mw_406 : (Cond.selects "VoucherOffice$Round" yX4_lastSpent yX4_lastSpent) ∈ wd_big := wd_tb (i := 406) (by decide +kernel) (by decide +kernel)
theorem mw_407 : (Cond.selects "VoucherOffice$Season" yX4_lastSpent yX4_lastSpent) ∈ wd_big := wd_tb (i := 407) (by decide +kernel) (by decide +kernel)
theorem mw_408 : (Cond.selects "VoucherOffice$Staff" yX4_lastSpent yX7_lastSpent) ∈ wd_big := wd_tb (i := 408) (by decide +kernel) (by decide +kernel)
theorem mw_409 : (Cond.instanceMethod yX7_lastSpent) ∈ wd_big := wd_tb (i := 409) (by decide +kernel) (by decide +kernel)
theorem mw_410 : (Cond.code yX7_lastSpent cX7_lastSpent 1 (some FieldType.int)) ∈ wd_big := wd_tb (i := 410) (by decide +kernel) (by decide +kernel)
theorem mw_411 : (Cond.code yX4_lastSpent cX4_lastSpent 1 (some FieldType.int)) ∈ wd_big := wd_tb (i := 411) (by decide +kernel) (by decide +kernel)
theorem mw_412 : (Cond.methodLink "VoucherOffice$Staff" 38 Lib.Math.max.name) ∈ wd_big := wd_tb (i := 412) (by decide +kernel) (by decide +kernel)
theorem mw_413 : (Cond.code yX4_takeIn cX4_takeIn 2 none) ∈ wd_big := wd_tb (i := 413) (by decide +kernel) (by decide +kernel)
theorem mw_414 : (Cond.methodLink "VoucherOfficeLaw" 56 yX8_total) ∈ wd_big := wd_tb (i := 414) (by decide +kernel) (by decide +kernel)
theorem mw_415 : (Cond.instanceMethod yX8_total) ∈ wd_big := wd_tb (i := 415) (by decide +kernel) (by decide +kernel)
theorem mw_416 : (Cond.selects "VoucherOffice" yX8_total yX8_total) ∈ wd_big := wd_tb (i := 416) (by decide +kernel) (by decide +kernel)
theorem mw_417 : (Cond.code yX8_total cX8_total 5 (some FieldType.int)) ∈ wd_big := wd_tb (i := 417) (by decide +kernel) (by decide +kernel)
theorem mw_418 : (Cond.methodLink "VoucherOfficeLaw" 60 yX8_paper) ∈ wd_big := wd_tb (i := 418) (by decide +kernel) (by decide +kernel)
theorem mw_419 : (Cond.instanceMethod yX8_paper) ∈ wd_big := wd_tb (i := 419) (by decide +kernel) (by decide +kernel)
theorem mw_420 : (Cond.selects "VoucherOffice" yX8_paper yX8_paper) ∈ wd_big := wd_tb (i := 420) (by decide +kernel) (by decide +kernel)
theorem mw_421 : (Cond.code yX8_paper cX8_paper 4 (some FieldType.int)) ∈ wd_big := wd_tb (i := 421) (by decide +kernel) (by decide +kernel)
theorem mw_422 : (Cond.methodLink "VoucherOffice" 87 yX4_pointsNow) ∈ wd_big := wd_tb (i := 422) (by decide +kernel) (by decide +kernel)
theorem mw_423 : (Cond.methodLink "VoucherOffice" 90 yX4_lastDay) ∈ wd_big := wd_tb (i := 423) (by decide +kernel) (by decide +kernel)
theorem mw_424 : (Cond.instanceMethod yX4_lastDay) ∈ wd_big := wd_tb (i := 424) (by decide +kernel) (by decide +kernel)
theorem mw_425 : (Cond.selects "VoucherOffice$Plain" yX4_lastDay yX4_lastDay) ∈ wd_big := wd_tb (i := 425) (by decide +kernel) (by decide +kernel)
theorem mw_426 : (Cond.sameMethod "VoucherOffice$Plain" "VoucherOffice$Plain" "lastDay" "()I") ∈ wd_big := wd_tb (i := 426) (by decide +kernel) (by decide +kernel)
theorem mw_427 : (Cond.selects "VoucherOffice$Club" yX4_lastDay yX4_lastDay) ∈ wd_big := wd_tb (i := 427) (by decide +kernel) (by decide +kernel)
theorem mw_428 : (Cond.selects "VoucherOffice$Crest" yX4_lastDay yX4_lastDay) ∈ wd_big := wd_tb (i := 428) (by decide +kernel) (by decide +kernel)
theorem mw_429 : (Cond.selects "VoucherOffice$Gift" yX4_lastDay yX4_lastDay) ∈ wd_big := wd_tb (i := 429) (by decide +kernel) (by decide +kernel)
theorem mw_430 : (Cond.selects "VoucherOffice$House" yX4_lastDay yX4_lastDay) ∈ wd_big := wd_tb (i := 430) (by decide +kernel) (by decide +kernel)
theorem mw_431 : (Cond.selects "VoucherOffice$Round" yX4_lastDay yX4_lastDay) ∈ wd_big := wd_tb (i := 431) (by decide +kernel) (by decide +kernel)
theorem mw_432 : (Cond.selects "VoucherOffice$Season" yX4_lastDay yX6_lastDay) ∈ wd_big := wd_tb (i := 432) (by decide +kernel) (by decide +kernel)
theorem mw_433 : (Cond.selects "VoucherOffice$Staff" yX4_lastDay yX7_lastDay) ∈ wd_big := wd_tb (i := 433) (by decide +kernel) (by decide +kernel)
theorem mw_434 : (Cond.code yX4_lastDay cX4_lastDay 1 (some FieldType.int)) ∈ wd_big := wd_tb (i := 434) (by decide +kernel) (by decide +kernel)
theorem mw_435 : (Cond.methodLink "VoucherOfficeLaw" 64 yX8_count) ∈ wd_big := wd_tb (i := 435) (by decide +kernel) (by decide +kernel)
theorem mw_436 : (Cond.instanceMethod yX8_count) ∈ wd_big := wd_tb (i := 436) (by decide +kernel) (by decide +kernel)
theorem mw_437 : (Cond.selects "VoucherOffice" yX8_count yX8_count) ∈ wd_big := wd_tb (i := 437) (by decide +kernel) (by decide +kernel)
theorem mw_438 : (Cond.code yX8_count cX8_count 2 (some FieldType.int)) ∈ wd_big := wd_tb (i := 438) (by decide +kernel) (by decide +kernel)
theorem mw_439 : (Cond.methodLink "VoucherOffice" 93 yX8_leftOfAll) ∈ wd_big := wd_tb (i := 439) (by decide +kernel) (by decide +kernel)
theorem mw_441 : (Cond.instanceMethod yX8_leftOfAll) ∈ wd_big := wd_tb (i := 441) (by decide +kernel) (by decide +kernel)
theorem mw_442 : (Cond.code yX8_leftOfAll cX8_leftOfAll 4 (some FieldType.int)) ∈ wd_big := wd_tb (i := 442) (by decide +kernel) (by decide +kernel)
theorem mw_443 : (Cond.classLink "VoucherOfficeLaw" 10 "VoucherOfficeModel") ∈ wd_big := wd_tb (i := 443) (by decide +kernel) (by decide +kernel)
theorem mw_444 : (Cond.instantiable "VoucherOfficeModel" 13) ∈ wd_big := wd_tb (i := 444) (by decide +kernel) (by decide +kernel)
theorem mw_445 : (Cond.methodLink "VoucherOfficeLaw" 12 yX9_init) ∈ wd_big := wd_tb (i := 445) (by decide +kernel) (by decide +kernel)
theorem mw_446 : (Cond.instanceMethod yX9_init) ∈ wd_big := wd_tb (i := 446) (by decide +kernel) (by decide +kernel)
theorem mw_447 : (Cond.code yX9_init cX9_init 1 none) ∈ wd_big := wd_tb (i := 447) (by decide +kernel) (by decide +kernel)
theorem mw_448 : (Cond.methodLink "VoucherOfficeModel" 1 Lib.objectInit) ∈ wd_big := wd_tb (i := 448) (by decide +kernel) (by decide +kernel)
theorem mw_449 : (Cond.fieldLink "VoucherOfficeModel" 52 "VoucherOfficeModel" "day" "I") ∈ wd_big := wd_tb (i := 449) (by decide +kernel) (by decide +kernel)
theorem mw_450 : (Cond.fieldLink "VoucherOfficeModel" 32 "VoucherOfficeModel" "issued" "I") ∈ wd_big := wd_tb (i := 450) (by decide +kernel) (by decide +kernel)
theorem mw_451 : (Cond.fieldLink "VoucherOfficeModel" 55 "VoucherOfficeModel" "amounts" "I") ∈ wd_big := wd_tb (i := 451) (by decide +kernel) (by decide +kernel)
theorem mw_452 : (Cond.fieldLink "VoucherOfficeModel" 68 "VoucherOfficeModel" "spent" "I") ∈ wd_big := wd_tb (i := 452) (by decide +kernel) (by decide +kernel)
theorem mw_453 : (Cond.fieldLink "VoucherOfficeModel" 71 "VoucherOfficeModel" "fees" "I") ∈ wd_big := wd_tb (i := 453) (by decide +kernel) (by decide +kernel)
theorem mw_454 : (Cond.fieldLink "VoucherOfficeModel" 77 "VoucherOfficeModel" "lapsed" "I") ∈ wd_big := wd_tb (i := 454) (by decide +kernel) (by decide +kernel)
theorem mw_455 : (Cond.fieldLink "VoucherOfficeModel" 7 "VoucherOfficeModel" "kindOf" "[I") ∈ wd_big := wd_tb (i := 455) (by decide +kernel) (by decide +kernel)
theorem mw_456 : (Cond.fieldLink "VoucherOfficeModel" 13 "VoucherOfficeModel" "amountOf" "[I") ∈ wd_big := wd_tb (i := 456) (by decide +kernel) (by decide +kernel)
theorem mw_457 : (Cond.fieldLink "VoucherOfficeModel" 16 "VoucherOfficeModel" "leftOf" "[I") ∈ wd_big := wd_tb (i := 457) (by decide +kernel) (by decide +kernel)
theorem mw_458 : (Cond.fieldLink "VoucherOfficeModel" 19 "VoucherOfficeModel" "fromOf" "[I") ∈ wd_big := wd_tb (i := 458) (by decide +kernel) (by decide +kernel)
theorem mw_459 : (Cond.fieldLink "VoucherOfficeModel" 22 "VoucherOfficeModel" "pointsOf" "[I") ∈ wd_big := wd_tb (i := 459) (by decide +kernel) (by decide +kernel)
theorem mw_460 : (Cond.fieldLink "VoucherOfficeModel" 25 "VoucherOfficeModel" "spentOn" "[I") ∈ wd_big := wd_tb (i := 460) (by decide +kernel) (by decide +kernel)
theorem mw_461 : (Cond.fieldLink "VoucherOfficeModel" 28 "VoucherOfficeModel" "gone" "[Z") ∈ wd_big := wd_tb (i := 461) (by decide +kernel) (by decide +kernel)
theorem mw_462 : (Cond.lays "VoucherOfficeModel" "VoucherOfficeModel" "day" "I") ∈ wd_big := wd_tb (i := 462) (by decide +kernel) (by decide +kernel)
theorem mw_463 : (Cond.soleField "VoucherOfficeModel" "day") ∈ wd_big := wd_tb (i := 463) (by decide +kernel) (by decide +kernel)
theorem mw_464 : (Cond.lays "VoucherOfficeModel" "VoucherOfficeModel" "issued" "I") ∈ wd_big := wd_tb (i := 464) (by decide +kernel) (by decide +kernel)
theorem mw_465 : (Cond.soleField "VoucherOfficeModel" "issued") ∈ wd_big := wd_tb (i := 465) (by decide +kernel) (by decide +kernel)
theorem mw_466 : (Cond.lays "VoucherOfficeModel" "VoucherOfficeModel" "amounts" "I") ∈ wd_big := wd_tb (i := 466) (by decide +kernel) (by decide +kernel)
theorem mw_467 : (Cond.soleField "VoucherOfficeModel" "amounts") ∈ wd_big := wd_tb (i := 467) (by decide +kernel) (by decide +kernel)
theorem mw_468 : (Cond.lays "VoucherOfficeModel" "VoucherOfficeModel" "spent" "I") ∈ wd_big := wd_tb (i := 468) (by decide +kernel) (by decide +kernel)
theorem mw_469 : (Cond.soleField "VoucherOfficeModel" "spent") ∈ wd_big := wd_tb (i := 469) (by decide +kernel) (by decide +kernel)
theorem mw_470 : (Cond.lays "VoucherOfficeModel" "VoucherOfficeModel" "fees" "I") ∈ wd_big := wd_tb (i := 470) (by decide +kernel) (by decide +kernel)
theorem mw_471 : (Cond.soleField "VoucherOfficeModel" "fees") ∈ wd_big := wd_tb (i := 471) (by decide +kernel) (by decide +kernel)
theorem mw_472 : (Cond.lays "VoucherOfficeModel" "VoucherOfficeModel" "lapsed" "I") ∈ wd_big := wd_tb (i := 472) (by decide +kernel) (by decide +kernel)
theorem mw_473 : (Cond.soleField "VoucherOfficeModel" "lapsed") ∈ wd_big := wd_tb (i := 473) (by decide +kernel) (by decide +kernel)
theorem mw_474 : (Cond.laysFinal "VoucherOfficeModel" "VoucherOfficeModel" "kindOf" "[I") ∈ wd_big := wd_tb (i := 474) (by decide +kernel) (by decide +kernel)
theorem mw_475 : (Cond.soleField "VoucherOfficeModel" "kindOf") ∈ wd_big := wd_tb (i := 475) (by decide +kernel) (by decide +kernel)
theorem mw_476 : (Cond.laysFinal "VoucherOfficeModel" "VoucherOfficeModel" "amountOf" "[I") ∈ wd_big := wd_tb (i := 476) (by decide +kernel) (by decide +kernel)
theorem mw_477 : (Cond.soleField "VoucherOfficeModel" "amountOf") ∈ wd_big := wd_tb (i := 477) (by decide +kernel) (by decide +kernel)
theorem mw_478 : (Cond.laysFinal "VoucherOfficeModel" "VoucherOfficeModel" "leftOf" "[I") ∈ wd_big := wd_tb (i := 478) (by decide +kernel) (by decide +kernel)
theorem mw_479 : (Cond.soleField "VoucherOfficeModel" "leftOf") ∈ wd_big := wd_tb (i := 479) (by decide +kernel) (by decide +kernel)
theorem mw_480 : (Cond.laysFinal "VoucherOfficeModel" "VoucherOfficeModel" "fromOf" "[I") ∈ wd_big := wd_tb (i := 480) (by decide +kernel) (by decide +kernel)
theorem mw_481 : (Cond.soleField "VoucherOfficeModel" "fromOf") ∈ wd_big := wd_tb (i := 481) (by decide +kernel) (by decide +kernel)
theorem mw_482 : (Cond.laysFinal "VoucherOfficeModel" "VoucherOfficeModel" "pointsOf" "[I") ∈ wd_big := wd_tb (i := 482) (by decide +kernel) (by decide +kernel)
theorem mw_483 : (Cond.soleField "VoucherOfficeModel" "pointsOf") ∈ wd_big := wd_tb (i := 483) (by decide +kernel) (by decide +kernel)
theorem mw_484 : (Cond.laysFinal "VoucherOfficeModel" "VoucherOfficeModel" "spentOn" "[I") ∈ wd_big := wd_tb (i := 484) (by decide +kernel) (by decide +kernel)
theorem mw_485 : (Cond.soleField "VoucherOfficeModel" "spentOn") ∈ wd_big := wd_tb (i := 485) (by decide +kernel) (by decide +kernel)
theorem mw_486 : (Cond.laysFinal "VoucherOfficeModel" "VoucherOfficeModel" "gone" "[Z") ∈ wd_big := wd_tb (i := 486) (by decide +kernel) (by decide +kernel)
theorem mw_487 : (Cond.soleField "VoucherOfficeModel" "gone") ∈ wd_big := wd_tb (i := 487) (by decide +kernel) (by decide +kernel)
theorem mw_488 : (Cond.superclass "VoucherOfficeModel" "java/lang/Object") ∈ wd_big := wd_tb (i := 488) (by decide +kernel) (by decide +kernel)
theorem mw_489 : (Cond.arrayClass FieldType.int) ∈ wd_big := wd_tb (i := 489) (by decide +kernel) (by decide +kernel)
theorem mw_490 : (Cond.arrayClass FieldType.boolean) ∈ wd_big := wd_tb (i := 490) (by decide +kernel) (by decide +kernel)
theorem mw_491 : (Cond.methodLink "VoucherOfficeLaw" 17 yX9_issue) ∈ wd_big := wd_tb (i := 491) (by decide +kernel) (by decide +kernel)
theorem mw_492 : (Cond.instanceMethod yX9_issue) ∈ wd_big := wd_tb (i := 492) (by decide +kernel) (by decide +kernel)
theorem mw_493 : (Cond.selects "VoucherOfficeModel" yX9_issue yX9_issue) ∈ wd_big := wd_tb (i := 493) (by decide +kernel) (by decide +kernel)
theorem mw_494 : (Cond.code yX9_issue cX9_issue 4 (some FieldType.int)) ∈ wd_big := wd_tb (i := 494) (by decide +kernel) (by decide +kernel)
theorem mw_495 : (Cond.methodLink "VoucherOfficeModel" 36 yX9_within) ∈ wd_big := wd_tb (i := 495) (by decide +kernel) (by decide +kernel)
theorem mw_496 : (Cond.static yX9_within) ∈ wd_big := wd_tb (i := 496) (by decide +kernel) (by decide +kernel)
theorem mw_497 : (Cond.code yX9_within cX9_within 3 (some FieldType.boolean)) ∈ wd_big := wd_tb (i := 497) (by decide +kernel) (by decide +kernel)
theorem mw_498 : (Cond.constant "VoucherOfficeModel" 51 (100000 : Int32)) ∈ wd_big := wd_tb (i := 498) (by decide +kernel) (by decide +kernel)
theorem mw_499 : (Cond.methodLink "VoucherOfficeLaw" 22 yX9_pass) ∈ wd_big := wd_tb (i := 499) (by decide +kernel) (by decide +kernel)
theorem mw_500 : (Cond.instanceMethod yX9_pass) ∈ wd_big := wd_tb (i := 500) (by decide +kernel) (by decide +kernel)
theorem mw_501 : (Cond.selects "VoucherOfficeModel" yX9_pass yX9_pass) ∈ wd_big := wd_tb (i := 501) (by decide +kernel) (by decide +kernel)
theorem mw_502 : (Cond.code yX9_pass cX9_pass 2 (some FieldType.int)) ∈ wd_big := wd_tb (i := 502) (by decide +kernel) (by decide +kernel)
theorem mw_503 : (Cond.methodLink "VoucherOfficeLaw" 26 yX9_value) ∈ wd_big := wd_tb (i := 503) (by decide +kernel) (by decide +kernel)
theorem mw_504 : (Cond.instanceMethod yX9_value) ∈ wd_big := wd_tb (i := 504) (by decide +kernel) (by decide +kernel)
theorem mw_505 : (Cond.selects "VoucherOfficeModel" yX9_value yX9_value) ∈ wd_big := wd_tb (i := 505) (by decide +kernel) (by decide +kernel)
theorem mw_506 : (Cond.code yX9_value cX9_value 3 (some FieldType.int)) ∈ wd_big := wd_tb (i := 506) (by decide +kernel) (by decide +kernel)
theorem mw_507 : (Cond.methodLink "VoucherOfficeModel" 58 yX9_isThere) ∈ wd_big := wd_tb (i := 507) (by decide +kernel) (by decide +kernel)
theorem mw_509 : (Cond.instanceMethod yX9_isThere) ∈ wd_big := wd_tb (i := 509) (by decide +kernel) (by decide +kernel)
theorem mw_510 : (Cond.code yX9_isThere cX9_isThere 2 (some FieldType.boolean)) ∈ wd_big := wd_tb (i := 510) (by decide +kernel) (by decide +kernel)
theorem mw_511 : (Cond.methodLink "VoucherOfficeModel" 61 yX9_valueOf) ∈ wd_big := wd_tb (i := 511) (by decide +kernel) (by decide +kernel)
theorem mw_513 : (Cond.instanceMethod yX9_valueOf) ∈ wd_big := wd_tb (i := 513) (by decide +kernel) (by decide +kernel)
theorem mw_514 : (Cond.code yX9_valueOf cX9_valueOf 4 (some FieldType.int)) ∈ wd_big := wd_tb (i := 514) (by decide +kernel) (by decide +kernel)
theorem mw_515 : (Cond.methodLink "VoucherOfficeModel" 40 yX9_isDated) ∈ wd_big := wd_tb (i := 515) (by decide +kernel) (by decide +kernel)
theorem mw_517 : (Cond.instanceMethod yX9_isDated) ∈ wd_big := wd_tb (i := 517) (by decide +kernel) (by decide +kernel)
theorem mw_518 : (Cond.code yX9_isDated cX9_isDated 2 (some FieldType.boolean)) ∈ wd_big := wd_tb (i := 518) (by decide +kernel) (by decide +kernel)
theorem mw_519 : (Cond.methodLink "VoucherOfficeModel" 44 yX9_lastDay) ∈ wd_big := wd_tb (i := 519) (by decide +kernel) (by decide +kernel)
theorem mw_521 : (Cond.instanceMethod yX9_lastDay) ∈ wd_big := wd_tb (i := 521) (by decide +kernel) (by decide +kernel)
theorem mw_522 : (Cond.code yX9_lastDay cX9_lastDay 2 (some FieldType.int)) ∈ wd_big := wd_tb (i := 522) (by decide +kernel) (by decide +kernel)
theorem mw_523 : (Cond.methodLink "VoucherOfficeModel" 48 yX9_hasPoints) ∈ wd_big := wd_tb (i := 523) (by decide +kernel) (by decide +kernel)
theorem mw_525 : (Cond.instanceMethod yX9_hasPoints) ∈ wd_big := wd_tb (i := 525) (by decide +kernel) (by decide +kernel)
theorem mw_526 : (Cond.code yX9_hasPoints cX9_hasPoints 2 (some FieldType.boolean)) ∈ wd_big := wd_tb (i := 526) (by decide +kernel) (by decide +kernel)
theorem mw_527 : (Cond.methodLink "VoucherOfficeLaw" 30 yX9_fee) ∈ wd_big := wd_tb (i := 527) (by decide +kernel) (by decide +kernel)
theorem mw_528 : (Cond.instanceMethod yX9_fee) ∈ wd_big := wd_tb (i := 528) (by decide +kernel) (by decide +kernel)
theorem mw_529 : (Cond.selects "VoucherOfficeModel" yX9_fee yX9_fee) ∈ wd_big := wd_tb (i := 529) (by decide +kernel) (by decide +kernel)
theorem mw_530 : (Cond.code yX9_fee cX9_fee 3 (some FieldType.int)) ∈ wd_big := wd_tb (i := 530) (by decide +kernel) (by decide +kernel)
theorem mw_531 : (Cond.methodLink "VoucherOfficeModel" 65 yX9_feeOf) ∈ wd_big := wd_tb (i := 531) (by decide +kernel) (by decide +kernel)
theorem mw_533 : (Cond.instanceMethod yX9_feeOf) ∈ wd_big := wd_tb (i := 533) (by decide +kernel) (by decide +kernel)
theorem mw_534 : (Cond.code yX9_feeOf cX9_feeOf 4 (some FieldType.int)) ∈ wd_big := wd_tb (i := 534) (by decide +kernel) (by decide +kernel)
theorem mw_535 : (Cond.methodLink "VoucherOfficeLaw" 34 yX9_spend) ∈ wd_big := wd_tb (i := 535) (by decide +kernel) (by decide +kernel)
theorem mw_536 : (Cond.instanceMethod yX9_spend) ∈ wd_big := wd_tb (i := 536) (by decide +kernel) (by decide +kernel)
theorem mw_537 : (Cond.selects "VoucherOfficeModel" yX9_spend yX9_spend) ∈ wd_big := wd_tb (i := 537) (by decide +kernel) (by decide +kernel)
theorem mw_538 : (Cond.code yX9_spend cX9_spend 4 (some FieldType.int)) ∈ wd_big := wd_tb (i := 538) (by decide +kernel) (by decide +kernel)
theorem mw_539 : (Cond.methodLink "VoucherOfficeLaw" 38 yX9_seal) ∈ wd_big := wd_tb (i := 539) (by decide +kernel) (by decide +kernel)
theorem mw_540 : (Cond.instanceMethod yX9_seal) ∈ wd_big := wd_tb (i := 540) (by decide +kernel) (by decide +kernel)
theorem mw_541 : (Cond.selects "VoucherOfficeModel" yX9_seal yX9_seal) ∈ wd_big := wd_tb (i := 541) (by decide +kernel) (by decide +kernel)
theorem mw_542 : (Cond.code yX9_seal cX9_seal 2 (some FieldType.int)) ∈ wd_big := wd_tb (i := 542) (by decide +kernel) (by decide +kernel)
theorem mw_543 : (Cond.methodLink "VoucherOfficeModel" 74 yX9_sealOf) ∈ wd_big := wd_tb (i := 543) (by decide +kernel) (by decide +kernel)
theorem mw_545 : (Cond.instanceMethod yX9_sealOf) ∈ wd_big := wd_tb (i := 545) (by decide +kernel) (by decide +kernel)
theorem mw_546 : (Cond.code yX9_sealOf cX9_sealOf 3 (some FieldType.int)) ∈ wd_big := wd_tb (i := 546) (by decide +kernel) (by decide +kernel)
theorem mw_547 : (Cond.methodLink "VoucherOfficeLaw" 42 yX9_mark) ∈ wd_big := wd_tb (i := 547) (by decide +kernel) (by decide +kernel)
theorem mw_548 : (Cond.instanceMethod yX9_mark) ∈ wd_big := wd_tb (i := 548) (by decide +kernel) (by decide +kernel)
theorem mw_549 : (Cond.selects "VoucherOfficeModel" yX9_mark yX9_mark) ∈ wd_big := wd_tb (i := 549) (by decide +kernel) (by decide +kernel)
theorem mw_550 : (Cond.code yX9_mark cX9_mark 3 (some FieldType.int)) ∈ wd_big := wd_tb (i := 550) (by decide +kernel) (by decide +kernel)
theorem mw_551 : (Cond.methodLink "VoucherOfficeLaw" 46 yX9_daysLeft) ∈ wd_big := wd_tb (i := 551) (by decide +kernel) (by decide +kernel)
theorem mw_552 : (Cond.instanceMethod yX9_daysLeft) ∈ wd_big := wd_tb (i := 552) (by decide +kernel) (by decide +kernel)
theorem mw_553 : (Cond.selects "VoucherOfficeModel" yX9_daysLeft yX9_daysLeft) ∈ wd_big := wd_tb (i := 553) (by decide +kernel) (by decide +kernel)
theorem mw_554 : (Cond.code yX9_daysLeft cX9_daysLeft 4 (some FieldType.int)) ∈ wd_big := wd_tb (i := 554) (by decide +kernel) (by decide +kernel)
theorem mw_555 : (Cond.methodLink "VoucherOfficeLaw" 51 yX9_lapse) ∈ wd_big := wd_tb (i := 555) (by decide +kernel) (by decide +kernel)
theorem mw_556 : (Cond.instanceMethod yX9_lapse) ∈ wd_big := wd_tb (i := 556) (by decide +kernel) (by decide +kernel)
theorem mw_557 : (Cond.selects "VoucherOfficeModel" yX9_lapse yX9_lapse) ∈ wd_big := wd_tb (i := 557) (by decide +kernel) (by decide +kernel)
theorem mw_558 : (Cond.code yX9_lapse cX9_lapse 3 (some FieldType.int)) ∈ wd_big := wd_tb (i := 558) (by decide +kernel) (by decide +kernel)
theorem mw_559 : (Cond.methodLink "VoucherOfficeLaw" 55 yX9_merge) ∈ wd_big := wd_tb (i := 559) (by decide +kernel) (by decide +kernel)
theorem mw_560 : (Cond.instanceMethod yX9_merge) ∈ wd_big := wd_tb (i := 560) (by decide +kernel) (by decide +kernel)
theorem mw_561 : (Cond.selects "VoucherOfficeModel" yX9_merge yX9_merge) ∈ wd_big := wd_tb (i := 561) (by decide +kernel) (by decide +kernel)
theorem mw_562 : (Cond.code yX9_merge cX9_merge 3 (some FieldType.int)) ∈ wd_big := wd_tb (i := 562) (by decide +kernel) (by decide +kernel)
theorem mw_563 : (Cond.methodLink "VoucherOfficeLaw" 59 yX9_total) ∈ wd_big := wd_tb (i := 563) (by decide +kernel) (by decide +kernel)
theorem mw_564 : (Cond.instanceMethod yX9_total) ∈ wd_big := wd_tb (i := 564) (by decide +kernel) (by decide +kernel)
theorem mw_565 : (Cond.selects "VoucherOfficeModel" yX9_total yX9_total) ∈ wd_big := wd_tb (i := 565) (by decide +kernel) (by decide +kernel)
theorem mw_566 : (Cond.code yX9_total cX9_total 4 (some FieldType.int)) ∈ wd_big := wd_tb (i := 566) (by decide +kernel) (by decide +kernel)
theorem mw_567 : (Cond.methodLink "VoucherOfficeLaw" 63 yX9_paper) ∈ wd_big := wd_tb (i := 567) (by decide +kernel) (by decide +kernel)
theorem mw_568 : (Cond.instanceMethod yX9_paper) ∈ wd_big := wd_tb (i := 568) (by decide +kernel) (by decide +kernel)
theorem mw_569 : (Cond.selects "VoucherOfficeModel" yX9_paper yX9_paper) ∈ wd_big := wd_tb (i := 569) (by decide +kernel) (by decide +kernel)
theorem mw_570 : (Cond.code yX9_paper cX9_paper 3 (some FieldType.int)) ∈ wd_big := wd_tb (i := 570) (by decide +kernel) (by decide +kernel)
theorem mw_571 : (Cond.methodLink "VoucherOfficeLaw" 67 yX9_count) ∈ wd_big := wd_tb (i := 571) (by decide +kernel) (by decide +kernel)
theorem mw_572 : (Cond.instanceMethod yX9_count) ∈ wd_big := wd_tb (i := 572) (by decide +kernel) (by decide +kernel)
theorem mw_573 : (Cond.selects "VoucherOfficeModel" yX9_count yX9_count) ∈ wd_big := wd_tb (i := 573) (by decide +kernel) (by decide +kernel)
theorem mw_574 : (Cond.code yX9_count cX9_count 2 (some FieldType.int)) ∈ wd_big := wd_tb (i := 574) (by decide +kernel) (by decide +kernel)
theorem mw_575 : (Cond.methodLink "VoucherOfficeModel" 80 yX9_leftOfAll) ∈ wd_big := wd_tb (i := 575) (by decide +kernel) (by decide +kernel)
theorem mw_577 : (Cond.instanceMethod yX9_leftOfAll) ∈ wd_big := wd_tb (i := 577) (by decide +kernel) (by decide +kernel)
theorem mw_578 : (Cond.code yX9_leftOfAll cX9_leftOfAll 3 (some FieldType.int)) ∈ wd_big := wd_tb (i := 578) (by decide +kernel) (by decide +kernel)
theorem mw_579 : (Cond.sameMethod "VoucherOffice$House" "VoucherOffice$House" "valueOn" "(I)I") ∈ wd_big := wd_tb (i := 579) (by decide +kernel) (by decide +kernel)
theorem mw_580 : (Cond.sameMethod "VoucherOffice$Season" "VoucherOffice$Season" "valueOn" "(I)I") ∈ wd_big := wd_tb (i := 580) (by decide +kernel) (by decide +kernel)
theorem mp_0 : (Cond.selects "VoucherOffice" yX8_find yX8_find) ∈ wd_big := wd_pv (i := 0) (by decide +kernel) (by decide +kernel)
theorem mp_1 : (Cond.selects "VoucherOffice" yX8_leftOfAll yX8_leftOfAll) ∈ wd_big := wd_pv (i := 1) (by decide +kernel) (by decide +kernel)
theorem mp_2 : (Cond.selects "VoucherOfficeModel" yX9_isThere yX9_isThere) ∈ wd_big := wd_pv (i := 2) (by decide +kernel) (by decide +kernel)
theorem mp_3 : (Cond.selects "VoucherOfficeModel" yX9_valueOf yX9_valueOf) ∈ wd_big := wd_pv (i := 3) (by decide +kernel) (by decide +kernel)
theorem mp_4 : (Cond.selects "VoucherOfficeModel" yX9_isDated yX9_isDated) ∈ wd_big := wd_pv (i := 4) (by decide +kernel) (by decide +kernel)
theorem mp_5 : (Cond.selects "VoucherOfficeModel" yX9_lastDay yX9_lastDay) ∈ wd_big := wd_pv (i := 5) (by decide +kernel) (by decide +kernel)
theorem mp_6 : (Cond.selects "VoucherOfficeModel" yX9_hasPoints yX9_hasPoints) ∈ wd_big := wd_pv (i := 6) (by decide +kernel) (by decide +kernel)
theorem mp_7 : (Cond.selects "VoucherOfficeModel" yX9_feeOf yX9_feeOf) ∈ wd_big := wd_pv (i := 7) (by decide +kernel) (by decide +kernel)
theorem mp_8 : (Cond.selects "VoucherOfficeModel" yX9_sealOf yX9_sealOf) ∈ wd_big := wd_pv (i := 8) (by decide +kernel) (by decide +kernel)
theorem mp_9 : (Cond.selects "VoucherOfficeModel" yX9_leftOfAll yX9_leftOfAll) ∈ wd_big := wd_pv (i := 9) (by decide +kernel) (by decide +kernel)
end
section
abbrev rm_d (d mc ms : Nat) : Room := { frames := d, cells := mc, slots := ms, locals := 30 * d }
def q_g (post : Option Value → va_W → Prop) (B : va_W → State → Prop) (A : Nat → Prop) : Array Value → State → Outcome → State → Prop := fun _ st oc t => (∃ (v : Option Value) (u : va_W), oc = .returned v ∧ post v u ∧ B u t) ∧ va_F A st t
/-- what else the tables say of vouchers in a row -/
def xK (U : State) : Prop := va_AO "VoucherOffice$Plain" U ∧ (va_Nw (.castable "VoucherOffice$Gift" "VoucherOffice$Plain") U ∧ va_Nw (.castable "VoucherOffice$Season" "VoucherOffice$Plain") U ∧ va_Nw (.castable "VoucherOffice$Staff" "VoucherOffice$Plain") U ∧ va_Nw (.castable "VoucherOffice$Round" "VoucherOffice$Plain") U ∧ va_Nw (.castable "VoucherOffice$Club" "VoucherOffice$Plain") U ∧ va_Nw (.castable "VoucherOffice$House" "VoucherOffice$Plain") U ∧ va_Nw (.castable "VoucherOffice$Crest" "VoucherOffice$Plain") U)
theorem xk_cast {C E : String} {u U : State} (hvm : u.vm.Alike U.vm) (h : va_Nw (.castable C E) u) : va_Nw (.castable C E) U := by
  have e := Cond.onTables_vm (A := #[]) (A' := #[]) (U := u) (U' := U) U.vm (.castable C E) rfl
  have hU : U.setVm U.vm = U := rfl
  rw [hU] at e
  show (Cond.castable C E).before #[] U = true
  rw [← e, Cond.castable_setVm hvm]
  exact h
theorem xK.moved {u U : State} (hvm : u.vm.Alike U.vm) (h : xK u) : xK U := by
  obtain ⟨h0, h1, h2, h3, h4, h5, h6, h7⟩ := h
  exact ⟨h0.moved hvm, xk_cast hvm h1, xk_cast hvm h2, xk_cast hvm h3, xk_cast hvm h4, xk_cast hvm h5, xk_cast hvm h6, xk_cast hvm h7⟩
abbrev kK (D : va_G) (tys : List (ClassId × FieldType)) (U : State) : Prop := va_K D vwCl tys U ∧ xK U
theorem kK_moved {D : va_G} {tys : List (ClassId × FieldType)} {u U : State} (hvm : u.vm.Alike U.vm) (h : kK D tys u) : kK D tys U := ⟨va_K.moved hvm h.1, h.2.moved hvm⟩
abbrev wd_w (D : va_G) (tys : List (ClassId × FieldType)) (A : Nat → Prop) (ws : va_W) (t : State) : Prop := va_P D vwCl ws t.heap ∧ kK D tys t ∧ va_D A ws
/-- a method's contract: from the world ws, with the arguments av, it comes back with v in the world ws', and 'post v ws'' -/
def Ct (l : Launch) (D : va_G) (tys : List (ClassId × FieldType)) (y : MethodName) (cc : ByteArray) (nL : Nat) (ret : Option FieldType) (d mc ms : Nat) (av : List Value) (ws : va_W) (post : Option Value → va_W → Prop) : Prop :=
  ∀ sz : Nat, Met l y (.code y cc nL ret :: wd_big) (rm_d d mc ms) (va_Pc av (fun U => U.heap.size = sz ∧ wd_w D tys (fun _ => True) ws U)) (q_g post (wd_w D tys (va_A ws sz)) (va_A ws sz)) mc ms (va_A ws sz)
/-- what stands fast within a method -/
def Cx (p : Program) (m : MethodId) (c : Code) (meth : Method) (s : State) (args : Array Value) (own : String) (cc : ByteArray) (nL : Nat) (ret : Option FieldType) (D : va_G) (tys : List (ClassId × FieldType)) : Prop :=
  p.tables.exec = Jvm.exec ∧ c.code = cc ∧ meth.sig.returnType = ret ∧ c.maxLocals = nL ∧ s.vm.findClass own = some m.cls ∧ (∀ w ∈ wd_big, w.before args s = true) ∧ va_K D vwCl tys s ∧ meth.locks = false ∧ xK s
theorem ct_intro {l : Launch} {D : va_G} {tys : List (ClassId × FieldType)} {y : MethodName} {cc : ByteArray} {nL : Nat} {ret : Option FieldType} {d mc ms : Nat} {av : List Value} {ws : va_W} {post : Option Value → va_W → Prop}
    (hy : plainName y.cls = true) (hav : (lg_sl av).length ≤ nL)
    (body : ∀ (p : Program) (e : Env) (s : State) (m : MethodId) (below : List Frame) (meth : Method) (c : Code) (A : Nat → Prop) (ls : Array Slot),
      Cx p m c meth s av.toArray y.cls cc nL ret D tys → meth.name = y.name → va_P D vwCl ws s.heap → va_D A ws → va_S A s.heap s.heap [] → (∀ q, s.heap.size ≤ q → A q) → lv_has ls nL (lv_args 0 av) →
      W p l e (rm_d d mc ms) s m av.toArray below meth c s.heap [] 0 0 (MQ below (q_g post (wd_w D tys A) A) av.toArray s mc ms A) (F0 m 0 ls [])) : Ct l D tys y cc nL ret d mc ms av ws post := by
  intro sz
  refine Met.ofW (cc := cc) (maxL := nL) (ret := ret) hy rfl ?_
  intro p e s m args below meth c s₁ B hml hv
  obtain ⟨rfl, hsz, hP, hK, hD0⟩ := hv
  have hx := B.exec
  have hb := B.bytes
  have hr := B.returns
  have hts := atoms_spec (ws := .code y cc nL ret :: wd_big) B.pre
  have hown : s.vm.findClass y.cls = some m.cls := findClass_of_methodNamed B.named
  have hlocks := B.notSynchronized
  have hin : meth.name = y.name := (name_of_methodNamed B.named B.method).1
  subst hsz
  have hD := hD0.self (sz := s.heap.size)
  have hl := lv_entry av (n := nL) hav
  rw [lg_entry_eq]
  exact body p e s m below meth c _ _ ⟨hx, hb, hr, hml, hown, fun w h => hts w (List.mem_cons_of_mem _ h), hK.1, hlocks, hK.2⟩ hin hP hD va_S.rf (fun q h => Or.inr h) hl
/-- X is a subclass of O, by the tables, for every fuel from f on -/
def SubF (f : Nat) (X O : String) : Prop := ∀ (args : Array Value) (s : State), (∀ w ∈ wd_big, w.before args s = true) → ∀ a b : ClassId, s.vm.findClass X = some a → s.vm.findClass O = some b → ∀ n, s.vm.isSubclassAux (n + f) a b = true
theorem sub_rf (X : String) : SubF 1 X X := fun args s hts a b ha hb n => by
  cases ha.symm.trans hb
  simp [Vm.isSubclassAux]
theorem sub_up {f : Nat} {X Y O : String} (hw : Cond.superclass X Y ∈ wd_big) (h : SubF f Y O) : SubF (f + 1) X O := fun args s hts a b ha hb n => by
  obtain ⟨ps, dk, kp, hps, hdk, hkp, hsuper, -⟩ := Cond.superclass_spec ha (hts _ hw)
  have h1 := h args s hts ps b hps hb n
  rw [show n + (f + 1) = (n + f) + 1 from rfl]
  simp [Vm.isSubclassAux, hdk, hsuper, h1]
theorem sub_ne {s : State} {X Y : String} {a b : ClassId} (ha : s.vm.findClass X = some a) (hb : s.vm.findClass Y = some b) (hne : X ≠ Y) : a ≠ b := fun h => by
  subst h
  obtain ⟨k, h1, h2⟩ := Vm.findClass_spec ha
  obtain ⟨k', h3, h4⟩ := Vm.findClass_spec hb
  cases h1.symm.trans h3
  exact hne (h2.symm.trans h4)
theorem sub_size {args : Array Value} {s : State} (hts : ∀ w ∈ wd_big, w.before args s = true) {m : ClassId} (hm : s.vm.findClass "VoucherOffice$House" = some m) : 3 ≤ s.vm.classes.size := by
  obtain ⟨p1, k0, k1, f1, g0, g1, -⟩ := Cond.superclass_spec hm (hts (.superclass "VoucherOffice$House" "VoucherOffice$Club") mw_156)
  obtain ⟨p2, -, k2, f2, -, g2, -⟩ := Cond.superclass_spec f1 (hts (.superclass "VoucherOffice$Club" "VoucherOffice$Round") mw_140)
  have n1 : ¬ @Eq Nat m p1 := sub_ne hm f1 (by decide)
  have n2 : ¬ @Eq Nat m p2 := sub_ne hm f2 (by decide)
  have n3 : ¬ @Eq Nat p1 p2 := sub_ne f1 f2 (by decide)
  have l0 := (Array.getElem?_eq_some_iff.mp g0).1
  have l1 := (Array.getElem?_eq_some_iff.mp g1).1
  have l2 := (Array.getElem?_eq_some_iff.mp g2).1
  omega
section EN
variable {p : Program} {l : Launch} {e : Env} {R : Room} {s : State} {m : MethodId} {args : Array Value} {below : List Frame} {meth : Method} {c : Code} {H : Heap} {locs : List Loc} {mc ms : Nat} {own : String} {cc : ByteArray} {nL : Nat} {D : va_G} {tys : List (ClassId × FieldType)} {A : Nat → Prop} {ws1 : va_W} {post : Option Value → va_W → Prop} {pc : Nat} {ls : Array Slot}
theorem e_int (X : Cx p m c meth s args own cc nL (some .int) D tys) (hP : va_P D vwCl ws1 H) (hD : va_D A ws1) (hS : va_S A s.heap H locs) (hdg : decode cc pc = .ok (.ireturn, 1)) {v : Int32} (hpost : post (some (.int v)) ws1) : W p l e R s m args below meth c H locs mc ms (MQ below (q_g post (wd_w D tys A) A) args s mc ms A) (F0 m pc ls [.int v]) := by
  obtain ⟨hx, hb, hr, hml, hown, hts, hK, hlk, hxK⟩ := X
  exact W.iret hx hb hr (fun t ht hW => ⟨⟨_, ws1, rfl, hpost, by rw [ht]; exact hP, kK_moved hW.alike ⟨hK, hxK⟩, hD⟩, hS.F ht⟩) hS.2.2 hdg hlk
theorem e_bool (X : Cx p m c meth s args own cc nL (some .boolean) D tys) (hP : va_P D vwCl ws1 H) (hD : va_D A ws1) (hS : va_S A s.heap H locs) (hdg : decode cc pc = .ok (.ireturn, 1)) {v : Int32} (hv : v = 0 ∨ v = 1) (hpost : post (some (.int v)) ws1) : W p l e R s m args below meth c H locs mc ms (MQ below (q_g post (wd_w D tys A) A) args s mc ms A) (F0 m pc ls [.int v]) := by
  obtain ⟨hx, hb, hr, hml, hown, hts, hK, hlk, hxK⟩ := X
  exact W.zret hx hb hr (by rcases hv with rfl | rfl <;> decide) (fun t ht hW => ⟨⟨_, ws1, rfl, hpost, by rw [ht]; exact hP, kK_moved hW.alike ⟨hK, hxK⟩, hD⟩, hS.F ht⟩) hS.2.2 hdg hlk
theorem e_void (X : Cx p m c meth s args own cc nL none D tys) (hP : va_P D vwCl ws1 H) (hD : va_D A ws1) (hS : va_S A s.heap H locs) (hdg : decode cc pc = .ok (.return_, 1)) (hpost : post none ws1) : W p l e R s m args below meth c H locs mc ms (MQ below (q_g post (wd_w D tys A) A) args s mc ms A) (F0 m pc ls []) := by
  obtain ⟨hx, hb, hr, hml, hown, hts, hK, hlk, hxK⟩ := X
  exact W.vret hx hb hr (fun t ht hW => ⟨⟨_, ws1, rfl, hpost, by rw [ht]; exact hP, kK_moved hW.alike ⟨hK, hxK⟩, hD⟩, hS.F ht⟩) hS.2.2 hdg hlk
theorem e_ref {C : String} (X : Cx p m c meth s args own cc nL (some (.object C)) D tys) (hP : va_P D vwCl ws1 H) (hD : va_D A ws1) (hS : va_S A s.heap H locs) (hdg : decode cc pc = .ok (.areturn, 1)) {v : Value} (hv : v = .null ∨ ∃ a, v = .ref a) (hpost : post (some v) ws1) : W p l e R s m args below meth c H locs mc ms (MQ below (q_g post (wd_w D tys A) A) args s mc ms A) (F0 m pc ls [v]) := by
  obtain ⟨hx, hb, hr, hml, hown, hts, hK, hlk, hxK⟩ := X
  exact W.aret hx hb hr (Or.inl ⟨_, rfl⟩) hv (fun t ht hW => ⟨⟨_, ws1, rfl, hpost, by rw [ht]; exact hP, kK_moved hW.alike ⟨hK, hxK⟩, hD⟩, hS.F ht⟩) hS.2.2 hdg hlk
end EN
section GC
variable {p : Program} {l : Launch} {e : Env} {R : Room} {s : State} {m : MethodId} {args : Array Value} {below : List Frame} {meth : Method} {c : Code} {H : Heap} {locs : List Loc} {cells slots : Nat} {Q : State → Prop}
variable {pc : Nat} {ls : Array Slot} {rest st0 : List Value} {a : Array Value} {A0 : Nat → Prop} {H0 : Heap} {mc ms : Nat} {D : va_G} {tys : List (ClassId × FieldType)} {ws : va_W} {post : Option Value → va_W → Prop}
theorem g_call (hr : va_Run p l e R s m args below meth c H locs cells slots mc ms (F0 m pc ls st0) rest (q_g post (wd_w D tys (va_A ws H.size)) (va_A ws H.size) a) (va_A ws H.size)) (hD : va_D A0 ws) (hS : va_S A0 H0 H locs) (hA : ∀ q, H0.size ≤ q → A0 q)
    (kk : ∀ (v : Option Value) (ws1 : va_W) (H1 : Heap) (locs1 : List Loc), post v ws1 → va_P D vwCl ws1 H1 → va_D A0 ws1 → va_S A0 H0 H1 locs1 → W p l e R s m args below meth c H1 locs1 (cells + mc) (slots + ms) Q (F0 m (pc + 3) ls (v.toList ++ rest))) : W p l e R s m args below meth c H locs cells slots Q (F0 m pc ls st0) := by
  have hF : ∀ q, va_A ws H.size q → A0 q := by
    intro q hq
    rcases hq with ⟨k, e, h⟩ | h
    · exact hD.2 k _ h
    · exact hA q (Nat.le_trans hS.1 h)
  intro T hT X
  obtain ⟨v, st₀, t, T', L, h0, X', hL, e1, e2, ⟨⟨v', u, hv, hp, hP1, hK1, hD1⟩, hz, hk⟩, st⟩ := hr T hT X
  cases hv
  rw [h0] at hz hk
  obtain ⟨t2, a1, b1⟩ := kk v u T'.heap (locs ++ L) hp (by rw [e1]; exact hP1) (hD1.weaken (fun _ q _ h => hF q.1 h))
    ⟨Nat.le_trans hS.1 (by rw [e1]; exact hz), fun q h1 h2 => by rw [e1, hk q (Nat.lt_of_lt_of_le h1 hS.1) (fun z => h2 (hF q z))]; exact hS.2.1 q h1 h2, fun q hq => by
      rcases List.mem_append.mp hq with h | h
      · exact hS.2.2 q h
      · exact hF _ (hL q h)⟩ T' rfl X'
  exact ⟨t2, st t2 a1, b1⟩
theorem g_pre {av : List Value} (hP : va_P D vwCl ws H) (hD : va_D A0 ws) (hK : kK D tys s) : PreS s H (va_Pc av (fun U => U.heap.size = H.size ∧ wd_w D tys (fun _ => True) ws U)) av :=
  ⟨fun a U g mk q => by obtain ⟨q0, q1, qP, qK, qD⟩ := q; exact ⟨q0, q1, qP, kK_moved (u := U) (U := U.calling g mk a) (Vm.Alike.refl U.vm) qK, qD⟩, fun U hU hW => ⟨rfl, by rw [hU], by rw [hU]; exact hP, kK_moved hW.alike hK, hD.weaken (fun _ _ _ _ => trivial)⟩⟩
theorem g_in {w : Cond} (h : w ∈ wd_big) : GoodIn wd_big (w :: wd_big) := fun x hx => by
  rcases List.mem_cons.mp hx with rfl | h1
  · exact ⟨h, wd_good h⟩
  · exact ⟨h1, wd_good h1⟩
theorem g_app {L : List Cond} {w : Cond} (hL : ∀ x ∈ L, x ∈ wd_big) (h : w ∈ wd_big) : GoodIn wd_big (L ++ w :: wd_big) := fun x hx => by
  rcases List.mem_append.mp hx with h1 | h1
  · exact ⟨hL x h1, wd_good (hL x h1)⟩
  · exact g_in h x h1
variable {own : String} {cc bytes : ByteArray} {nL maxL d idx n : Nat} {ret rt0 : Option FieldType} {y : MethodName} {As : List Value}
/-- a static call's words -/
def SW (own : String) (idx : Nat) (y : MethodName) (bytes : ByteArray) (maxL : Nat) (ret : Option FieldType) (n : Nat) : Prop :=
  Cond.methodLink own idx y ∈ wd_big ∧ Cond.static y ∈ wd_big ∧ Cond.initialized y.cls ∈ wd_big ∧ Cond.code y bytes maxL ret ∈ wd_big ∧ (y.cls ≠ "java/lang/invoke/MethodHandle" ∧ y.cls ≠ "java/lang/invoke/VarHandle" ∧ (parseMethodDescriptor y.desc).map (fun d => d.parameters.length) = some n)
theorem g_static (sw : SW own idx y bytes maxL ret n) (X : Cx p m c meth s args own cc nL rt0 D tys) (hC : Ct l D tys y bytes maxL ret d mc ms As ws post)
    (hP : va_P D vwCl ws H) (hD : va_D A0 ws) (hS : va_S A0 H0 H locs) (hA : ∀ q, H0.size ≤ q → A0 q) (hR : d + 1 ≤ R.frames ∧ 8 + (maxL + 11) + 30 * d ≤ R.locals)
    (hn : As.length = n) (hsize : ls.size = nL) (hst : st0 = As.reverse ++ rest) (hW : (rest.map fun v => v.category).sum ≤ 8) (hdg : decode cc pc = .ok (.invokestatic idx, 3)) (hf : cells + mc ≤ R.cells ∧ slots + ms ≤ R.slots)
    (kk : ∀ (v : Option Value) (ws1 : va_W) (H1 : Heap) (locs1 : List Loc), post v ws1 → va_P D vwCl ws1 H1 → va_D A0 ws1 → va_S A0 H0 H1 locs1 → W p l e R s m args below meth c H1 locs1 (cells + mc) (slots + ms) Q (F0 m (pc + 3) ls (v.toList ++ rest))) : W p l e R s m args below meth c H locs cells slots Q (F0 m pc ls st0) := by
  obtain ⟨hx, hb, hr, hml, hown, hts, hK, hlk, hxK⟩ := X
  obtain ⟨w1, w2, w3, w4, hd⟩ := sw
  exact g_call (va_runS (As := As) (rest := rest) (Ts := wd_big) ⟨hx, hb, hml, hown, hts⟩ (hC H.size) ⟨callB_of n hts (g_in w4) rfl rfl rfl (hts _ w3) (hts _ w1) hd hR, hts _ w2⟩ (g_pre hP hD ⟨hK, hxK⟩) rfl hn hsize hst (lv_room hW) hdg hf) hD hS hA kk
/-- a constructor's words -/
def IW (own : String) (idx : Nat) (y : MethodName) (bytes : ByteArray) (maxL n : Nat) : Prop :=
  Cond.methodLink own idx y ∈ wd_big ∧ Cond.instanceMethod y ∈ wd_big ∧ Cond.initialized y.cls ∈ wd_big ∧ Cond.code y bytes maxL none ∈ wd_big ∧ y.name = "<init>" ∧ (y.cls ≠ "java/lang/invoke/MethodHandle" ∧ y.cls ≠ "java/lang/invoke/VarHandle" ∧ (parseMethodDescriptor y.desc).map (fun d => d.parameters.length) = some n)
theorem g_ctor {b : Addr} (sw : IW own idx y bytes maxL n) (X : Cx p m c meth s args own cc nL rt0 D tys) (hC : Ct l D tys y bytes maxL none d mc ms (.ref b :: As) ws post)
    (hP : va_P D vwCl ws H) (hD : va_D A0 ws) (hS : va_S A0 H0 H locs) (hA : ∀ q, H0.size ≤ q → A0 q) (hR : d + 1 ≤ R.frames ∧ 8 + (maxL + 11) + 30 * d ≤ R.locals)
    (hn : As.length = n) (hsize : ls.size = nL) (hst : st0 = As.reverse ++ .ref b :: rest) (hW : (rest.map fun v => v.category).sum ≤ 8) (hdg : decode cc pc = .ok (.invokespecial idx, 3)) (hf : cells + mc ≤ R.cells ∧ slots + ms ≤ R.slots)
    (kk : ∀ (v : Option Value) (ws1 : va_W) (H1 : Heap) (locs1 : List Loc), post v ws1 → va_P D vwCl ws1 H1 → va_D A0 ws1 → va_S A0 H0 H1 locs1 → W p l e R s m args below meth c H1 locs1 (cells + mc) (slots + ms) Q (F0 m (pc + 3) ls (v.toList ++ rest))) : W p l e R s m args below meth c H locs cells slots Q (F0 m pc ls st0) := by
  obtain ⟨hx, hb, hr, hml, hown, hts, hK, hlk, hxK⟩ := X
  obtain ⟨w1, w2, w3, w4, hy1, hd⟩ := sw
  exact g_call (va_runI (As := As) (rest := rest) (Ts := wd_big) ⟨hx, hb, hml, hown, hts⟩ (hC H.size) (cwI n hts (g_in w4) rfl rfl rfl (hts _ w3) (hts _ w1) (hts _ w2) hy1 hd hR) (g_pre hP hD ⟨hK, hxK⟩) rfl hn hsize hst (lv_room hW) hdg hf) hD hS hA kk
/-- a private method's words, on this -/
def PW (own : String) (idx : Nat) (C : String) (y : MethodName) (bytes : ByteArray) (maxL : Nat) (ret : Option FieldType) (n : Nat) : Prop :=
  Cond.methodLink own idx y ∈ wd_big ∧ Cond.instanceMethod y ∈ wd_big ∧ Cond.selects C y y ∈ wd_big ∧ Cond.initialized C ∈ wd_big ∧ Cond.code y bytes maxL ret ∈ wd_big ∧ (y.cls = C ∧ y.cls ≠ "java/lang/invoke/MethodHandle" ∧ y.cls ≠ "java/lang/invoke/VarHandle" ∧ (parseMethodDescriptor y.desc).map (fun d => d.parameters.length) = some n)
theorem g_priv {b : Addr} {C : String} {q0 ci : Nat} {fs : List Value} {cq : vw_C} (sw : PW own idx C y bytes maxL ret n) (X : Cx p m c meth s args own cc nL rt0 D tys) (hC : Ct l D tys y bytes maxL ret d mc ms (.ref b :: As) ws post)
    (hP : va_P D vwCl ws H) (hD : va_D A0 ws) (hS : va_S A0 H0 H locs) (hA : ∀ q, H0.size ≤ q → A0 q) (hrec : ws[q0]? = some (b, .inr (ci, fs))) (hci : vwCl[ci]? = some cq) (hcq : cq.1 = C) (hR : d + 1 ≤ R.frames ∧ 8 + (maxL + 11) + 30 * d ≤ R.locals)
    (hn : As.length = n) (hsize : ls.size = nL) (hst : st0 = As.reverse ++ .ref b :: rest) (hW : (rest.map fun v => v.category).sum ≤ 8) (hdg : decode cc pc = .ok (.invokevirtual idx, 3)) (hf : cells + mc ≤ R.cells ∧ slots + ms ≤ R.slots)
    (kk : ∀ (v : Option Value) (ws1 : va_W) (H1 : Heap) (locs1 : List Loc), post v ws1 → va_P D vwCl ws1 H1 → va_D A0 ws1 → va_S A0 H0 H1 locs1 → W p l e R s m args below meth c H1 locs1 (cells + mc) (slots + ms) Q (F0 m (pc + 3) ls (v.toList ++ rest))) : W p l e R s m args below meth c H locs cells slots Q (F0 m pc ls st0) := by
  obtain ⟨hx, hb, hr, hml, hown, hts, hK, hlk, hxK⟩ := X
  obtain ⟨w1, w2, w3, w4, w5, hd⟩ := sw
  subst hcq
  have hpre := g_pre (av := .ref b :: As) hP hD ⟨hK, hxK⟩
  exact g_call (va_runV (As := As) (rest := rest) (Ts := wd_big) ⟨hx, hb, hml, hown, hts⟩ (hC H.size) (cwV n hts (g_app (L := [_, _, _, _]) (List.forall_mem_cons.mpr ⟨w1, List.forall_mem_cons.mpr ⟨w2, List.forall_mem_cons.mpr ⟨w3, List.forall_mem_cons.mpr ⟨w4, fun _ h => absurd h List.not_mem_nil⟩⟩⟩⟩) w5) rfl rfl rfl hd hR) ⟨hpre.1, va_recv hK hP hci hrec, hpre.2⟩ rfl hn hsize hst (lv_room hW) hdg hf) hD hS hA kk
/-- a virtual call's words: named x (declared by owner), on an object of the class C it is y -/
def VW (own : String) (idx : Nat) (x : MethodName) (owner C : String) (y : MethodName) (bytes : ByteArray) (maxL : Nat) (ret : Option FieldType) (n : Nat) : Prop :=
  Cond.methodLink own idx x ∈ wd_big ∧ Cond.sameMethod x.cls owner x.name x.desc ∈ wd_big ∧ Cond.instanceMethod ⟨owner, x.name, x.desc⟩ ∈ wd_big ∧ Cond.selects C x y ∈ wd_big ∧ Cond.instanceMethod y ∈ wd_big ∧ Cond.initialized y.cls ∈ wd_big ∧ Cond.code y bytes maxL ret ∈ wd_big ∧ (∃ b0 m0 r0, Cond.code ⟨owner, x.name, x.desc⟩ b0 m0 r0 ∈ wd_big) ∧
  (owner ≠ "java/lang/invoke/MethodHandle" ∧ owner ≠ "java/lang/invoke/VarHandle" ∧ (parseMethodDescriptor x.desc).map (fun d => d.parameters.length) = some n)
theorem g_virt {b : Addr} {x : MethodName} {owner C : String} {q0 ci : Nat} {fs : List Value} {cq : vw_C} (sw : VW own idx x owner C y bytes maxL ret n) (X : Cx p m c meth s args own cc nL rt0 D tys) (hC : Ct l D tys y bytes maxL ret d mc ms (.ref b :: As) ws post)
    (hP : va_P D vwCl ws H) (hD : va_D A0 ws) (hS : va_S A0 H0 H locs) (hA : ∀ q, H0.size ≤ q → A0 q) (hrec : ws[q0]? = some (b, .inr (ci, fs))) (hci : vwCl[ci]? = some cq) (hcq : cq.1 = C) (hR : d + 1 ≤ R.frames ∧ 8 + (maxL + 11) + 30 * d ≤ R.locals)
    (hn : As.length = n) (hsize : ls.size = nL) (hst : st0 = As.reverse ++ .ref b :: rest) (hW : (rest.map fun v => v.category).sum ≤ 8) (hdg : decode cc pc = .ok (.invokevirtual idx, 3)) (hf : cells + mc ≤ R.cells ∧ slots + ms ≤ R.slots)
    (kk : ∀ (v : Option Value) (ws1 : va_W) (H1 : Heap) (locs1 : List Loc), post v ws1 → va_P D vwCl ws1 H1 → va_D A0 ws1 → va_S A0 H0 H1 locs1 → W p l e R s m args below meth c H1 locs1 (cells + mc) (slots + ms) Q (F0 m (pc + 3) ls (v.toList ++ rest))) : W p l e R s m args below meth c H locs cells slots Q (F0 m pc ls st0) := by
  obtain ⟨hx, hb, hr, hml, hown, hts, hK, hlk, hxK⟩ := X
  obtain ⟨w1, w2, w3, w4, w5, w6, w7, ⟨b0, m0, r0, w8⟩, hd⟩ := sw
  subst hcq
  have hpre := g_pre (av := .ref b :: As) hP hD ⟨hK, hxK⟩
  exact g_call (va_runU (As := As) (rest := rest) (Ts := wd_big) ⟨hx, hb, hml, hown, hts⟩ (hC H.size) (va_cwO n hts (g_app (L := [_, _, _, _, _, _]) (List.forall_mem_cons.mpr ⟨w1, List.forall_mem_cons.mpr ⟨w2, List.forall_mem_cons.mpr ⟨w3, List.forall_mem_cons.mpr ⟨w4, List.forall_mem_cons.mpr ⟨w5, List.forall_mem_cons.mpr ⟨w6, fun _ h => absurd h List.not_mem_nil⟩⟩⟩⟩⟩⟩) w7) rfl rfl rfl w8 hd hR) ⟨hpre.1, va_recv hK hP hci hrec, hpre.2⟩ rfl hn hsize hst (lv_room hW) hdg hf) hD hS hA kk
/-- super.m(..), where x is the name, declared by owner, y the method -/
def UW (own : String) (idx : Nat) (x : MethodName) (owner : String) (y : MethodName) (bytes : ByteArray) (maxL : Nat) (ret : Option FieldType) (n : Nat) : Prop :=
  Cond.methodLink own idx x ∈ wd_big ∧ Cond.sameMethod x.cls owner x.name x.desc ∈ wd_big ∧ Cond.superclass own x.cls ∈ wd_big ∧ Cond.instanceMethod y ∈ wd_big ∧ Cond.initialized y.cls ∈ wd_big ∧ Cond.code y bytes maxL ret ∈ wd_big ∧ y = ⟨owner, x.name, x.desc⟩ ∧ (∃ f, f ≤ 4 ∧ SubF f x.cls owner) ∧ x.name ≠ "<init>" ∧ (parseMethodDescriptor x.desc).map (fun d => d.parameters.length) = some n
theorem g_super {b : Addr} {x : MethodName} {owner : String} {q0 ci : Nat} {fs : List Value} {cq : vw_C} (sw : UW own idx x owner y bytes maxL ret n) (X : Cx p m c meth s args own cc nL rt0 D tys) (hC : Ct l D tys y bytes maxL ret d mc ms (.ref b :: As) ws post)
    (hP : va_P D vwCl ws H) (hD : va_D A0 ws) (hS : va_S A0 H0 H locs) (hA : ∀ q, H0.size ≤ q → A0 q) (hrec : ws[q0]? = some (b, .inr (ci, fs))) (hci : vwCl[ci]? = some cq) (hR : d + 1 ≤ R.frames ∧ 8 + (maxL + 11) + 30 * d ≤ R.locals)
    (hn : As.length = n) (hsize : ls.size = nL) (hst : st0 = As.reverse ++ .ref b :: rest) (hW : (rest.map fun v => v.category).sum ≤ 8) (hdg : decode cc pc = .ok (.invokespecial idx, 3)) (hf : cells + mc ≤ R.cells ∧ slots + ms ≤ R.slots)
    (kk : ∀ (v : Option Value) (ws1 : va_W) (H1 : Heap) (locs1 : List Loc), post v ws1 → va_P D vwCl ws1 H1 → va_D A0 ws1 → va_S A0 H0 H1 locs1 → W p l e R s m args below meth c H1 locs1 (cells + mc) (slots + ms) Q (F0 m (pc + 3) ls (v.toList ++ rest))) : W p l e R s m args below meth c H locs cells slots Q (F0 m pc ls st0) := by
  obtain ⟨hx, hb, hr, hml, hown, hts, hK, hlk, hxK⟩ := X
  obtain ⟨w1, w2, w3, w4, w5, w6, hy, ⟨f, hf4, hsubF⟩, hno, hpd⟩ := sw
  have hpre := g_pre (av := .ref b :: As) hP hD ⟨hK, hxK⟩
  have hcb : Cond.code y bytes maxL ret ∈ Cond.code y bytes maxL ret :: wd_big := List.mem_cons_self
  have hB : Back l R p e below s args y 3 8 (PreOf R mc ms (va_Pc (.ref b :: As) (fun U => U.heap.size = H.size ∧ wd_w D tys (fun _ => True) ws U))) (PostOf (q_g post (wd_w D tys (va_A ws H.size)) (va_A ws H.size)) mc ms (va_A ws H.size)) := back_of (bytes := bytes) (maxL := maxL) (ret := ret) (hC H.size) hpre.1 rfl rfl hR.1 hR.2 (pay_in hts (g_in w6)) hcb (fun a' U hW => word_at hW (Or.inl (by first | rfl | simp [Cond.onTables, Cond.keeps, Cond.steady])) (hts _ w5))
  obtain ⟨cellB, hcB, hoB, hclB⟩ := va_recv hK hP hci hrec
  obtain ⟨kB, hkB, -⟩ := Vm.findClass_spec hclB
  obtain ⟨mk, methM, hnamed, hmethM, hstM, habM⟩ := Cond.instanceMethod_spec (hts _ w4)
  obtain ⟨methM', cM, hmethM', -, -, -, -, -, -, hsigM⟩ := Cond.code_spec hnamed (hts _ w6)
  cases hmethM.symm.trans hmethM'
  obtain ⟨ps, dk, kp, hps, hdk, hkp, hsuper, -, -, hnid⟩ := Cond.superclass_spec hown (hts _ w3)
  have hn2 : s.methodNamed? ⟨owner, x.name, x.desc⟩ = some mk := by rw [← hy]; exact hnamed
  have hmc : s.vm.findClass owner = some mk.cls := by have := findClass_of_methodNamed hn2; exact this
  obtain ⟨cH, hH, -⟩ : ∃ cH : ClassId, s.vm.findClass "VoucherOffice$House" = some cH ∧ True := by
    have h3 := (hK.1 3 _ rfl).2
    exact ⟨_, h3.1, trivial⟩
  have h3 := sub_size hts hH
  have hsub : s.vm.isSubclass ps mk.cls = true := by
    have h5 := hsubF args s hts ps mk.cls hps hmc (s.vm.classes.size + 1 - f)
    rw [Nat.sub_add_cancel (by omega)] at h5
    exact h5
  have hlen : ∀ sig, parseMethodDescriptor y.desc = some sig → As.length = sig.parameters.length := by
    intro sig hs
    rw [hy] at hs
    rw [show parseMethodDescriptor x.desc = some sig from hs] at hpd
    exact hn.trans (Option.some.inj hpd).symm
  refine g_call (tys := tys) (a := (Value.ref b :: As).toArray) ?_ hD hS hA kk
  intro T hT X
  obtain ⟨vm₁, X₁, hstep₁⟩ := X.invokespecialUp hx hown (hts _ w1) (hts _ w2) hn2 hmethM hstM habM hno hdk hnid hps hsuper hsub (a := b) (cell := cellB) (by rw [hT]; exact hcB)
    (fun z h => by rw [h] at hoB; cases hoB) hkB (g := F0 m pc ls st0) rfl (argsL := As) (rest := rest) (hlen _ hsigM) hst (by rw [hb]; exact hdg)
  obtain ⟨v, ⟨U', l2, c2, s2⟩, X', ⟨g', mk', t, L, e1, e2, hq, h1, hL, h2, h3'⟩, hsteps⟩ := hB m meth c ⟨T.setVm vm₁, locs, cells, slots⟩ { (F0 m pc ls st0) with stack := rest } (.invokespecial idx) mk (Value.ref b :: As).toArray X₁ rfl (hsize.trans hml.symm) (by rw [hb]; exact hdg) (lv_room hW) (X₁.named hnamed) ⟨hf.1, hf.2, hpre.2 (T.setVm vm₁) hT X₁.warmed⟩
  dsimp only [Pt.U, Pt.locs, Pt.cells, Pt.slots] at X' e1 e2 h1 h2 h3' hsteps
  subst h1; subst h2; subst h3'
  exact ⟨v, (T.setVm vm₁).calling g' mk' (Value.ref b :: As).toArray, t, U', L, hT, X', hL, e1, e2, hq, fun target h => hstep₁ _ (by rw [doInvoke_state]; exact hsteps.trans h)⟩
end GC
end
section
theorem in_X0 : ∀ w ∈ wsX00, w ∈ wd_big := (List.forall_mem_cons.mpr ⟨mw_136, List.forall_mem_cons.mpr ⟨mw_137, List.forall_mem_cons.mpr ⟨mw_138, List.forall_mem_cons.mpr ⟨mw_139, fun _ h => absurd h List.not_mem_nil⟩⟩⟩⟩ : ∀ w ∈ [u_lay RX0 TX0 0, u_lay RX0 TX0 1, u_lay RX0 TX0 2, u_lay RX0 TX0 3], w ∈ wd_big)
theorem in_X1 : ∀ w ∈ wsX10, w ∈ wd_big := (List.forall_mem_cons.mpr ⟨mw_163, List.forall_mem_cons.mpr ⟨mw_164, List.forall_mem_cons.mpr ⟨mw_165, List.forall_mem_cons.mpr ⟨mw_166, List.forall_mem_cons.mpr ⟨mw_167, fun _ h => absurd h List.not_mem_nil⟩⟩⟩⟩⟩ : ∀ w ∈ [u_lay RX1 TX1 0, u_lay RX1 TX1 1, u_lay RX1 TX1 2, u_lay RX1 TX1 3, u_lay RX1 TX1 4], w ∈ wd_big)
theorem in_X2 : ∀ w ∈ wsX20, w ∈ wd_big := (List.forall_mem_cons.mpr ⟨mw_89, List.forall_mem_cons.mpr ⟨mw_90, List.forall_mem_cons.mpr ⟨mw_91, List.forall_mem_cons.mpr ⟨mw_92, fun _ h => absurd h List.not_mem_nil⟩⟩⟩⟩ : ∀ w ∈ [u_lay RX2 TX2 0, u_lay RX2 TX2 1, u_lay RX2 TX2 2, u_lay RX2 TX2 3], w ∈ wd_big)
theorem in_X3 : ∀ w ∈ wsX30, w ∈ wd_big := (List.forall_mem_cons.mpr ⟨mw_152, List.forall_mem_cons.mpr ⟨mw_153, List.forall_mem_cons.mpr ⟨mw_154, List.forall_mem_cons.mpr ⟨mw_155, List.forall_mem_cons.mpr ⟨mw_150, fun _ h => absurd h List.not_mem_nil⟩⟩⟩⟩⟩ : ∀ w ∈ [u_lay RX3 TX3 0, u_lay RX3 TX3 1, u_lay RX3 TX3 2, u_lay RX3 TX3 3, u_lay RX3 TX3 4], w ∈ wd_big)
theorem in_X4 : ∀ w ∈ wsX40, w ∈ wd_big := (List.forall_mem_cons.mpr ⟨mw_74, List.forall_mem_cons.mpr ⟨mw_76, List.forall_mem_cons.mpr ⟨mw_78, List.forall_mem_cons.mpr ⟨mw_80, fun _ h => absurd h List.not_mem_nil⟩⟩⟩⟩ : ∀ w ∈ [u_lay RX4 TX4 0, u_lay RX4 TX4 1, u_lay RX4 TX4 2, u_lay RX4 TX4 3], w ∈ wd_big)
theorem in_X5 : ∀ w ∈ wsX50, w ∈ wd_big := (List.forall_mem_cons.mpr ⟨mw_125, List.forall_mem_cons.mpr ⟨mw_126, List.forall_mem_cons.mpr ⟨mw_127, List.forall_mem_cons.mpr ⟨mw_128, fun _ h => absurd h List.not_mem_nil⟩⟩⟩⟩ : ∀ w ∈ [u_lay RX5 TX5 0, u_lay RX5 TX5 1, u_lay RX5 TX5 2, u_lay RX5 TX5 3], w ∈ wd_big)
theorem in_X6 : ∀ w ∈ wsX60, w ∈ wd_big := (List.forall_mem_cons.mpr ⟨mw_100, List.forall_mem_cons.mpr ⟨mw_101, List.forall_mem_cons.mpr ⟨mw_102, List.forall_mem_cons.mpr ⟨mw_103, fun _ h => absurd h List.not_mem_nil⟩⟩⟩⟩ : ∀ w ∈ [u_lay RX6 TX6 0, u_lay RX6 TX6 1, u_lay RX6 TX6 2, u_lay RX6 TX6 3], w ∈ wd_big)
theorem in_X7 : ∀ w ∈ wsX70, w ∈ wd_big := (List.forall_mem_cons.mpr ⟨mw_114, List.forall_mem_cons.mpr ⟨mw_115, List.forall_mem_cons.mpr ⟨mw_116, List.forall_mem_cons.mpr ⟨mw_117, List.forall_mem_cons.mpr ⟨mw_112, fun _ h => absurd h List.not_mem_nil⟩⟩⟩⟩⟩ : ∀ w ∈ [u_lay RX7 TX7 0, u_lay RX7 TX7 1, u_lay RX7 TX7 2, u_lay RX7 TX7 3, u_lay RX7 TX7 4], w ∈ wd_big)
theorem in_X8 : ∀ w ∈ wsX80, w ∈ wd_big := (List.forall_mem_cons.mpr ⟨mw_29, List.forall_mem_cons.mpr ⟨mw_31, List.forall_mem_cons.mpr ⟨mw_33, List.forall_mem_cons.mpr ⟨mw_35, List.forall_mem_cons.mpr ⟨mw_37, List.forall_mem_cons.mpr ⟨mw_39, List.forall_mem_cons.mpr ⟨mw_41, fun _ h => absurd h List.not_mem_nil⟩⟩⟩⟩⟩⟩⟩ : ∀ w ∈ [u_lay RX8 TX8 0, u_lay RX8 TX8 1, u_lay RX8 TX8 2, u_lay RX8 TX8 3, u_lay RX8 TX8 4, u_lay RX8 TX8 5, u_lay RX8 TX8 6], w ∈ wd_big)
theorem in_X9 : ∀ w ∈ wsX90, w ∈ wd_big := (List.forall_mem_cons.mpr ⟨mw_462, List.forall_mem_cons.mpr ⟨mw_464, List.forall_mem_cons.mpr ⟨mw_466, List.forall_mem_cons.mpr ⟨mw_468, List.forall_mem_cons.mpr ⟨mw_470, List.forall_mem_cons.mpr ⟨mw_472, List.forall_mem_cons.mpr ⟨mw_474, List.forall_mem_cons.mpr ⟨mw_476, List.forall_mem_cons.mpr ⟨mw_478, List.forall_mem_cons.mpr ⟨mw_480, List.forall_mem_cons.mpr ⟨mw_482, List.forall_mem_cons.mpr ⟨mw_484, List.forall_mem_cons.mpr ⟨mw_486, fun _ h => absurd h List.not_mem_nil⟩⟩⟩⟩⟩⟩⟩⟩⟩⟩⟩⟩⟩ : ∀ w ∈ [u_lay RX9 TX9 0, u_lay RX9 TX9 1, u_lay RX9 TX9 2, u_lay RX9 TX9 3, u_lay RX9 TX9 4, u_lay RX9 TX9 5, u_lay RX9 TX9 6, u_lay RX9 TX9 7, u_lay RX9 TX9 8, u_lay RX9 TX9 9, u_lay RX9 TX9 10, u_lay RX9 TX9 11, u_lay RX9 TX9 12], w ∈ wd_big)
/-- the cell of a voucher of the kind k (7 from 7 on) -/
def vo_E (k : Nat) (kd fr am le po ls : Int32) : va_E := match k with
  | 0 => .inr (4, [.int kd, .int fr, .int am, .int le])
  | 1 => .inr (2, [.int kd, .int fr, .int am, .int le])
  | 2 => .inr (6, [.int kd, .int fr, .int am, .int le])
  | 3 => .inr (7, [.int kd, .int fr, .int am, .int le, .int ls])
  | 4 => .inr (5, [.int kd, .int fr, .int am, .int le])
  | 5 => .inr (0, [.int kd, .int fr, .int am, .int le])
  | 6 => .inr (3, [.int kd, .int fr, .int am, .int le, .int po])
  | _ => .inr (1, [.int po, .int kd, .int fr, .int am, .int le])
/-- a field under the name by which javac spells it -/
def FS (ref decl name desc : String) : Prop := ref = decl ∨ Cond.sameField ref decl name desc ∈ wd_big
theorem fs_use {ref decl name desc : String} (h : FS ref decl name desc) {args : Array Value} {s : State} (hts : ∀ w ∈ wd_big, w.before args s = true) : ∀ x, s.fieldFound? decl name desc = some x → s.fieldFound? ref name desc = some x := by
  rcases h with rfl | h
  · exact fun _ h9 => h9
  · exact u_same (hts _ h)
theorem st_same {ws : va_W} {q : Nat} {x y : Nat × va_E} (h : ws[q]? = some x) : (ws.set q y)[q]? = some y := by
  have h1 := (List.getElem?_eq_some_iff.mp h).1
  simp [List.getElem?_set, h1]
theorem st_other {ws : va_W} {q q1 : Nat} {x y : Nat × va_E} (hne : q ≠ q1) (h : ws[q1]? = some x) : (ws.set q y)[q1]? = some x := by
  simp [List.getElem?_set, hne, h]
theorem st_self {ws : va_W} {q : Nat} {x : Nat × va_E} (h : ws[q]? = some x) : ws.set q x = ws := by
  apply List.ext_getElem?
  intro i
  by_cases hi : q = i
  · subst hi
    rw [st_same h, h]
  · simp [List.getElem?_set, hi]
abbrev vTy (cI cZ cP : ClassId) : List (ClassId × FieldType) := [(cI, .int), (cZ, .boolean), (cP, .object "VoucherOffice$Plain")]
section VG
variable {p : Program} {l : Launch} {e : Env} {R : Room} {s : State} {m : MethodId} {args : Array Value} {below : List Frame} {meth : Method} {c : Code} {H : Heap} {locs : List Loc} {cells slots : Nat} {Q : State → Prop}
variable {pc : Nat} {ls' : Array Slot} {rest : List Value} {A : Nat → Prop} {H0 : Heap} {D : va_G} {tys : List (ClassId × FieldType)} {ws : va_W} {own ref : String} {cc : ByteArray} {nL idx q0 a k : Nat} {rt0 : Option FieldType} {kd fr am le po ls : Int32}
theorem vo_gK (X : Cx p m c meth s args own cc nL rt0 D tys) (hP : va_P D vwCl ws H) (he : ws[q0]? = some (a, vo_E k kd fr am le po ls)) (hlink : Cond.fieldLink own idx ref "kind" "I" ∈ wd_big) (hf : FS ref "VoucherOffice$Plain" "kind" "I") (hdg : decode cc pc = .ok (.getfield idx, 3)) (kk : W p l e R s m args below meth c H locs cells slots Q (F0 m (pc + 3) ls' (.int kd :: rest))) : W p l e R s m args below meth c H locs cells slots Q (F0 m pc ls' (.ref a :: rest)) := by
  obtain ⟨hx, hb, hr, hml, hown, hts, hK, hlk, hxK⟩ := X
  match k, he with
  | 0, he => exact va_get (ci := 4) (C := RX4) (T := TX4) (N := 4) hx hb hts in_X4 hown hK hP q0 he rfl 0 (by decide) (hts _ hlink) (fs_use hf hts) rfl hdg kk
  | 1, he => exact va_get (ci := 2) (C := RX2) (T := TX2) (N := 4) hx hb hts in_X2 hown hK hP q0 he rfl 0 (by decide) (hts _ hlink) (fs_use hf hts) rfl hdg kk
  | 2, he => exact va_get (ci := 6) (C := RX6) (T := TX6) (N := 4) hx hb hts in_X6 hown hK hP q0 he rfl 0 (by decide) (hts _ hlink) (fs_use hf hts) rfl hdg kk
  | 3, he => exact va_get (ci := 7) (C := RX7) (T := TX7) (N := 5) hx hb hts in_X7 hown hK hP q0 he rfl 0 (by decide) (hts _ hlink) (fs_use hf hts) rfl hdg kk
  | 4, he => exact va_get (ci := 5) (C := RX5) (T := TX5) (N := 4) hx hb hts in_X5 hown hK hP q0 he rfl 0 (by decide) (hts _ hlink) (fs_use hf hts) rfl hdg kk
  | 5, he => exact va_get (ci := 0) (C := RX0) (T := TX0) (N := 4) hx hb hts in_X0 hown hK hP q0 he rfl 0 (by decide) (hts _ hlink) (fs_use hf hts) rfl hdg kk
  | 6, he => exact va_get (ci := 3) (C := RX3) (T := TX3) (N := 5) hx hb hts in_X3 hown hK hP q0 he rfl 0 (by decide) (hts _ hlink) (fs_use hf hts) rfl hdg kk
  | n + 7, he => exact va_get (ci := 1) (C := RX1) (T := TX1) (N := 5) hx hb hts in_X1 hown hK hP q0 he rfl 1 (by decide) (hts _ hlink) (fs_use hf hts) rfl hdg kk
theorem vo_pK (X : Cx p m c meth s args own cc nL rt0 D tys) (hP : va_P D vwCl ws H) (hD : va_D A ws) (hS : va_S A H0 H locs) (hin : meth.name = "<init>") (hdecl : "VoucherOffice$Plain" = own) (he : ws[q0]? = some (a, vo_E k kd fr am le po ls)) (hlink : Cond.fieldLink own idx ref "kind" "I" ∈ wd_big) (hf : FS ref "VoucherOffice$Plain" "kind" "I") (hdg : decode cc pc = .ok (.putfield idx, 3)) {v : Int32} (kk : ∀ (H1 : Heap) (locs1 : List Loc), va_P D vwCl (ws.set q0 (a, vo_E k v fr am le po ls)) H1 → va_D A (ws.set q0 (a, vo_E k v fr am le po ls)) → va_S A H0 H1 locs1 → W p l e R s m args below meth c H1 locs1 cells slots Q (F0 m (pc + 3) ls' rest)) : W p l e R s m args below meth c H locs cells slots Q (F0 m pc ls' (.int v :: .ref a :: rest)) := by
  obtain ⟨hx, hb, hr, hml, hown, hts, hK, hlk, hxK⟩ := X
  match k, he, kk with
  | 0, he, kk => exact va_putF (ci := 4) (v := .int v) (ty := .int) (C := RX4) (T := TX4) (N := 4) hx hb hts in_X4 tyX4 tyX4_ok nmX4 hown hK hP hD hS q0 he rfl 0 (by decide) (hts _ hlink) (fs_use hf hts) rfl hin hdecl (by decide +kernel) rfl rfl (Nat.le_of_ble_eq_true rfl) hdg kk
  | 1, he, kk => exact va_putF (ci := 2) (v := .int v) (ty := .int) (C := RX2) (T := TX2) (N := 4) hx hb hts in_X2 tyX2 tyX2_ok nmX2 hown hK hP hD hS q0 he rfl 0 (by decide) (hts _ hlink) (fs_use hf hts) rfl hin hdecl (by decide +kernel) rfl rfl (Nat.le_of_ble_eq_true rfl) hdg kk
  | 2, he, kk => exact va_putF (ci := 6) (v := .int v) (ty := .int) (C := RX6) (T := TX6) (N := 4) hx hb hts in_X6 tyX6 tyX6_ok nmX6 hown hK hP hD hS q0 he rfl 0 (by decide) (hts _ hlink) (fs_use hf hts) rfl hin hdecl (by decide +kernel) rfl rfl (Nat.le_of_ble_eq_true rfl) hdg kk
  | 3, he, kk => exact va_putF (ci := 7) (v := .int v) (ty := .int) (C := RX7) (T := TX7) (N := 5) hx hb hts in_X7 tyX7 tyX7_ok nmX7 hown hK hP hD hS q0 he rfl 0 (by decide) (hts _ hlink) (fs_use hf hts) rfl hin hdecl (by decide +kernel) rfl rfl (Nat.le_of_ble_eq_true rfl) hdg kk
  | 4, he, kk => exact va_putF (ci := 5) (v := .int v) (ty := .int) (C := RX5) (T := TX5) (N := 4) hx hb hts in_X5 tyX5 tyX5_ok nmX5 hown hK hP hD hS q0 he rfl 0 (by decide) (hts _ hlink) (fs_use hf hts) rfl hin hdecl (by decide +kernel) rfl rfl (Nat.le_of_ble_eq_true rfl) hdg kk
  | 5, he, kk => exact va_putF (ci := 0) (v := .int v) (ty := .int) (C := RX0) (T := TX0) (N := 4) hx hb hts in_X0 tyX0 tyX0_ok nmX0 hown hK hP hD hS q0 he rfl 0 (by decide) (hts _ hlink) (fs_use hf hts) rfl hin hdecl (by decide +kernel) rfl rfl (Nat.le_of_ble_eq_true rfl) hdg kk
  | 6, he, kk => exact va_putF (ci := 3) (v := .int v) (ty := .int) (C := RX3) (T := TX3) (N := 5) hx hb hts in_X3 tyX3 tyX3_ok nmX3 hown hK hP hD hS q0 he rfl 0 (by decide) (hts _ hlink) (fs_use hf hts) rfl hin hdecl (by decide +kernel) rfl rfl (Nat.le_of_ble_eq_true rfl) hdg kk
  | n + 7, he, kk => exact va_putF (ci := 1) (v := .int v) (ty := .int) (C := RX1) (T := TX1) (N := 5) hx hb hts in_X1 tyX1 tyX1_ok nmX1 hown hK hP hD hS q0 he rfl 1 (by decide) (hts _ hlink) (fs_use hf hts) rfl hin hdecl (by decide +kernel) rfl rfl (Nat.le_of_ble_eq_true rfl) hdg kk
theorem vo_gF (X : Cx p m c meth s args own cc nL rt0 D tys) (hP : va_P D vwCl ws H) (he : ws[q0]? = some (a, vo_E k kd fr am le po ls)) (hlink : Cond.fieldLink own idx ref "from" "I" ∈ wd_big) (hf : FS ref "VoucherOffice$Plain" "from" "I") (hdg : decode cc pc = .ok (.getfield idx, 3)) (kk : W p l e R s m args below meth c H locs cells slots Q (F0 m (pc + 3) ls' (.int fr :: rest))) : W p l e R s m args below meth c H locs cells slots Q (F0 m pc ls' (.ref a :: rest)) := by
  obtain ⟨hx, hb, hr, hml, hown, hts, hK, hlk, hxK⟩ := X
  match k, he with
  | 0, he => exact va_get (ci := 4) (C := RX4) (T := TX4) (N := 4) hx hb hts in_X4 hown hK hP q0 he rfl 1 (by decide) (hts _ hlink) (fs_use hf hts) rfl hdg kk
  | 1, he => exact va_get (ci := 2) (C := RX2) (T := TX2) (N := 4) hx hb hts in_X2 hown hK hP q0 he rfl 1 (by decide) (hts _ hlink) (fs_use hf hts) rfl hdg kk
  | 2, he => exact va_get (ci := 6) (C := RX6) (T := TX6) (N := 4) hx hb hts in_X6 hown hK hP q0 he rfl 1 (by decide) (hts _ hlink) (fs_use hf hts) rfl hdg kk
  | 3, he => exact va_get (ci := 7) (C := RX7) (T := TX7) (N := 5) hx hb hts in_X7 hown hK hP q0 he rfl 1 (by decide) (hts _ hlink) (fs_use hf hts) rfl hdg kk
  | 4, he => exact va_get (ci := 5) (C := RX5) (T := TX5) (N := 4) hx hb hts in_X5 hown hK hP q0 he rfl 1 (by decide) (hts _ hlink) (fs_use hf hts) rfl hdg kk
  | 5, he => exact va_get (ci := 0) (C := RX0) (T := TX0) (N := 4) hx hb hts in_X0 hown hK hP q0 he rfl 1 (by decide) (hts _ hlink) (fs_use hf hts) rfl hdg kk
  | 6, he => exact va_get (ci := 3) (C := RX3) (T := TX3) (N := 5) hx hb hts in_X3 hown hK hP q0 he rfl 1 (by decide) (hts _ hlink) (fs_use hf hts) rfl hdg kk
  | n + 7, he => exact va_get (ci := 1) (C := RX1) (T := TX1) (N := 5) hx hb hts in_X1 hown hK hP q0 he rfl 2 (by decide) (hts _ hlink) (fs_use hf hts) rfl hdg kk
theorem vo_pF (X : Cx p m c meth s args own cc nL rt0 D tys) (hP : va_P D vwCl ws H) (hD : va_D A ws) (hS : va_S A H0 H locs) (hin : meth.name = "<init>") (hdecl : "VoucherOffice$Plain" = own) (he : ws[q0]? = some (a, vo_E k kd fr am le po ls)) (hlink : Cond.fieldLink own idx ref "from" "I" ∈ wd_big) (hf : FS ref "VoucherOffice$Plain" "from" "I") (hdg : decode cc pc = .ok (.putfield idx, 3)) {v : Int32} (kk : ∀ (H1 : Heap) (locs1 : List Loc), va_P D vwCl (ws.set q0 (a, vo_E k kd v am le po ls)) H1 → va_D A (ws.set q0 (a, vo_E k kd v am le po ls)) → va_S A H0 H1 locs1 → W p l e R s m args below meth c H1 locs1 cells slots Q (F0 m (pc + 3) ls' rest)) : W p l e R s m args below meth c H locs cells slots Q (F0 m pc ls' (.int v :: .ref a :: rest)) := by
  obtain ⟨hx, hb, hr, hml, hown, hts, hK, hlk, hxK⟩ := X
  match k, he, kk with
  | 0, he, kk => exact va_putF (ci := 4) (v := .int v) (ty := .int) (C := RX4) (T := TX4) (N := 4) hx hb hts in_X4 tyX4 tyX4_ok nmX4 hown hK hP hD hS q0 he rfl 1 (by decide) (hts _ hlink) (fs_use hf hts) rfl hin hdecl (by decide +kernel) rfl rfl (Nat.le_of_ble_eq_true rfl) hdg kk
  | 1, he, kk => exact va_putF (ci := 2) (v := .int v) (ty := .int) (C := RX2) (T := TX2) (N := 4) hx hb hts in_X2 tyX2 tyX2_ok nmX2 hown hK hP hD hS q0 he rfl 1 (by decide) (hts _ hlink) (fs_use hf hts) rfl hin hdecl (by decide +kernel) rfl rfl (Nat.le_of_ble_eq_true rfl) hdg kk
  | 2, he, kk => exact va_putF (ci := 6) (v := .int v) (ty := .int) (C := RX6) (T := TX6) (N := 4) hx hb hts in_X6 tyX6 tyX6_ok nmX6 hown hK hP hD hS q0 he rfl 1 (by decide) (hts _ hlink) (fs_use hf hts) rfl hin hdecl (by decide +kernel) rfl rfl (Nat.le_of_ble_eq_true rfl) hdg kk
  | 3, he, kk => exact va_putF (ci := 7) (v := .int v) (ty := .int) (C := RX7) (T := TX7) (N := 5) hx hb hts in_X7 tyX7 tyX7_ok nmX7 hown hK hP hD hS q0 he rfl 1 (by decide) (hts _ hlink) (fs_use hf hts) rfl hin hdecl (by decide +kernel) rfl rfl (Nat.le_of_ble_eq_true rfl) hdg kk
  | 4, he, kk => exact va_putF (ci := 5) (v := .int v) (ty := .int) (C := RX5) (T := TX5) (N := 4) hx hb hts in_X5 tyX5 tyX5_ok nmX5 hown hK hP hD hS q0 he rfl 1 (by decide) (hts _ hlink) (fs_use hf hts) rfl hin hdecl (by decide +kernel) rfl rfl (Nat.le_of_ble_eq_true rfl) hdg kk
  | 5, he, kk => exact va_putF (ci := 0) (v := .int v) (ty := .int) (C := RX0) (T := TX0) (N := 4) hx hb hts in_X0 tyX0 tyX0_ok nmX0 hown hK hP hD hS q0 he rfl 1 (by decide) (hts _ hlink) (fs_use hf hts) rfl hin hdecl (by decide +kernel) rfl rfl (Nat.le_of_ble_eq_true rfl) hdg kk
  | 6, he, kk => exact va_putF (ci := 3) (v := .int v) (ty := .int) (C := RX3) (T := TX3) (N := 5) hx hb hts in_X3 tyX3 tyX3_ok nmX3 hown hK hP hD hS q0 he rfl 1 (by decide) (hts _ hlink) (fs_use hf hts) rfl hin hdecl (by decide +kernel) rfl rfl (Nat.le_of_ble_eq_true rfl) hdg kk
  | n + 7, he, kk => exact va_putF (ci := 1) (v := .int v) (ty := .int) (C := RX1) (T := TX1) (N := 5) hx hb hts in_X1 tyX1 tyX1_ok nmX1 hown hK hP hD hS q0 he rfl 2 (by decide) (hts _ hlink) (fs_use hf hts) rfl hin hdecl (by decide +kernel) rfl rfl (Nat.le_of_ble_eq_true rfl) hdg kk
theorem vo_gA (X : Cx p m c meth s args own cc nL rt0 D tys) (hP : va_P D vwCl ws H) (he : ws[q0]? = some (a, vo_E k kd fr am le po ls)) (hlink : Cond.fieldLink own idx ref "amount" "I" ∈ wd_big) (hf : FS ref "VoucherOffice$Plain" "amount" "I") (hdg : decode cc pc = .ok (.getfield idx, 3)) (kk : W p l e R s m args below meth c H locs cells slots Q (F0 m (pc + 3) ls' (.int am :: rest))) : W p l e R s m args below meth c H locs cells slots Q (F0 m pc ls' (.ref a :: rest)) := by
  obtain ⟨hx, hb, hr, hml, hown, hts, hK, hlk, hxK⟩ := X
  match k, he with
  | 0, he => exact va_get (ci := 4) (C := RX4) (T := TX4) (N := 4) hx hb hts in_X4 hown hK hP q0 he rfl 2 (by decide) (hts _ hlink) (fs_use hf hts) rfl hdg kk
  | 1, he => exact va_get (ci := 2) (C := RX2) (T := TX2) (N := 4) hx hb hts in_X2 hown hK hP q0 he rfl 2 (by decide) (hts _ hlink) (fs_use hf hts) rfl hdg kk
  | 2, he => exact va_get (ci := 6) (C := RX6) (T := TX6) (N := 4) hx hb hts in_X6 hown hK hP q0 he rfl 2 (by decide) (hts _ hlink) (fs_use hf hts) rfl hdg kk
  | 3, he => exact va_get (ci := 7) (C := RX7) (T := TX7) (N := 5) hx hb hts in_X7 hown hK hP q0 he rfl 2 (by decide) (hts _ hlink) (fs_use hf hts) rfl hdg kk
  | 4, he => exact va_get (ci := 5) (C := RX5) (T := TX5) (N := 4) hx hb hts in_X5 hown hK hP q0 he rfl 2 (by decide) (hts _ hlink) (fs_use hf hts) rfl hdg kk
  | 5, he => exact va_get (ci := 0) (C := RX0) (T := TX0) (N := 4) hx hb hts in_X0 hown hK hP q0 he rfl 2 (by decide) (hts _ hlink) (fs_use hf hts) rfl hdg kk
  | 6, he => exact va_get (ci := 3) (C := RX3) (T := TX3) (N := 5) hx hb hts in_X3 hown hK hP q0 he rfl 2 (by decide) (hts _ hlink) (fs_use hf hts) rfl hdg kk
  | n + 7, he => exact va_get (ci := 1) (C := RX1) (T := TX1) (N := 5) hx hb hts in_X1 hown hK hP q0 he rfl 3 (by decide) (hts _ hlink) (fs_use hf hts) rfl hdg kk
theorem vo_pA (X : Cx p m c meth s args own cc nL rt0 D tys) (hP : va_P D vwCl ws H) (hD : va_D A ws) (hS : va_S A H0 H locs) (he : ws[q0]? = some (a, vo_E k kd fr am le po ls)) (hlink : Cond.fieldLink own idx ref "amount" "I" ∈ wd_big) (hf : FS ref "VoucherOffice$Plain" "amount" "I") (hdg : decode cc pc = .ok (.putfield idx, 3)) {v : Int32} (kk : ∀ (H1 : Heap) (locs1 : List Loc), va_P D vwCl (ws.set q0 (a, vo_E k kd fr v le po ls)) H1 → va_D A (ws.set q0 (a, vo_E k kd fr v le po ls)) → va_S A H0 H1 locs1 → W p l e R s m args below meth c H1 locs1 cells slots Q (F0 m (pc + 3) ls' rest)) : W p l e R s m args below meth c H locs cells slots Q (F0 m pc ls' (.int v :: .ref a :: rest)) := by
  obtain ⟨hx, hb, hr, hml, hown, hts, hK, hlk, hxK⟩ := X
  match k, he, kk with
  | 0, he, kk => exact va_put (ci := 4) (v := .int v) (ty := .int) (C := RX4) (T := TX4) (N := 4) hx hb hts in_X4 tyX4 tyX4_ok nmX4 hown hK hP hD hS q0 he rfl 2 (by decide) (hts _ hlink) (fs_use hf hts) rfl (by decide +kernel) rfl rfl (Nat.le_of_ble_eq_true rfl) hdg kk
  | 1, he, kk => exact va_put (ci := 2) (v := .int v) (ty := .int) (C := RX2) (T := TX2) (N := 4) hx hb hts in_X2 tyX2 tyX2_ok nmX2 hown hK hP hD hS q0 he rfl 2 (by decide) (hts _ hlink) (fs_use hf hts) rfl (by decide +kernel) rfl rfl (Nat.le_of_ble_eq_true rfl) hdg kk
  | 2, he, kk => exact va_put (ci := 6) (v := .int v) (ty := .int) (C := RX6) (T := TX6) (N := 4) hx hb hts in_X6 tyX6 tyX6_ok nmX6 hown hK hP hD hS q0 he rfl 2 (by decide) (hts _ hlink) (fs_use hf hts) rfl (by decide +kernel) rfl rfl (Nat.le_of_ble_eq_true rfl) hdg kk
  | 3, he, kk => exact va_put (ci := 7) (v := .int v) (ty := .int) (C := RX7) (T := TX7) (N := 5) hx hb hts in_X7 tyX7 tyX7_ok nmX7 hown hK hP hD hS q0 he rfl 2 (by decide) (hts _ hlink) (fs_use hf hts) rfl (by decide +kernel) rfl rfl (Nat.le_of_ble_eq_true rfl) hdg kk
  | 4, he, kk => exact va_put (ci := 5) (v := .int v) (ty := .int) (C := RX5) (T := TX5) (N := 4) hx hb hts in_X5 tyX5 tyX5_ok nmX5 hown hK hP hD hS q0 he rfl 2 (by decide) (hts _ hlink) (fs_use hf hts) rfl (by decide +kernel) rfl rfl (Nat.le_of_ble_eq_true rfl) hdg kk
  | 5, he, kk => exact va_put (ci := 0) (v := .int v) (ty := .int) (C := RX0) (T := TX0) (N := 4) hx hb hts in_X0 tyX0 tyX0_ok nmX0 hown hK hP hD hS q0 he rfl 2 (by decide) (hts _ hlink) (fs_use hf hts) rfl (by decide +kernel) rfl rfl (Nat.le_of_ble_eq_true rfl) hdg kk
  | 6, he, kk => exact va_put (ci := 3) (v := .int v) (ty := .int) (C := RX3) (T := TX3) (N := 5) hx hb hts in_X3 tyX3 tyX3_ok nmX3 hown hK hP hD hS q0 he rfl 2 (by decide) (hts _ hlink) (fs_use hf hts) rfl (by decide +kernel) rfl rfl (Nat.le_of_ble_eq_true rfl) hdg kk
  | n + 7, he, kk => exact va_put (ci := 1) (v := .int v) (ty := .int) (C := RX1) (T := TX1) (N := 5) hx hb hts in_X1 tyX1 tyX1_ok nmX1 hown hK hP hD hS q0 he rfl 3 (by decide) (hts _ hlink) (fs_use hf hts) rfl (by decide +kernel) rfl rfl (Nat.le_of_ble_eq_true rfl) hdg kk
theorem vo_gL (X : Cx p m c meth s args own cc nL rt0 D tys) (hP : va_P D vwCl ws H) (he : ws[q0]? = some (a, vo_E k kd fr am le po ls)) (hlink : Cond.fieldLink own idx ref "left" "I" ∈ wd_big) (hf : FS ref "VoucherOffice$Plain" "left" "I") (hdg : decode cc pc = .ok (.getfield idx, 3)) (kk : W p l e R s m args below meth c H locs cells slots Q (F0 m (pc + 3) ls' (.int le :: rest))) : W p l e R s m args below meth c H locs cells slots Q (F0 m pc ls' (.ref a :: rest)) := by
  obtain ⟨hx, hb, hr, hml, hown, hts, hK, hlk, hxK⟩ := X
  match k, he with
  | 0, he => exact va_get (ci := 4) (C := RX4) (T := TX4) (N := 4) hx hb hts in_X4 hown hK hP q0 he rfl 3 (by decide) (hts _ hlink) (fs_use hf hts) rfl hdg kk
  | 1, he => exact va_get (ci := 2) (C := RX2) (T := TX2) (N := 4) hx hb hts in_X2 hown hK hP q0 he rfl 3 (by decide) (hts _ hlink) (fs_use hf hts) rfl hdg kk
  | 2, he => exact va_get (ci := 6) (C := RX6) (T := TX6) (N := 4) hx hb hts in_X6 hown hK hP q0 he rfl 3 (by decide) (hts _ hlink) (fs_use hf hts) rfl hdg kk
  | 3, he => exact va_get (ci := 7) (C := RX7) (T := TX7) (N := 5) hx hb hts in_X7 hown hK hP q0 he rfl 3 (by decide) (hts _ hlink) (fs_use hf hts) rfl hdg kk
  | 4, he => exact va_get (ci := 5) (C := RX5) (T := TX5) (N := 4) hx hb hts in_X5 hown hK hP q0 he rfl 3 (by decide) (hts _ hlink) (fs_use hf hts) rfl hdg kk
  | 5, he => exact va_get (ci := 0) (C := RX0) (T := TX0) (N := 4) hx hb hts in_X0 hown hK hP q0 he rfl 3 (by decide) (hts _ hlink) (fs_use hf hts) rfl hdg kk
  | 6, he => exact va_get (ci := 3) (C := RX3) (T := TX3) (N := 5) hx hb hts in_X3 hown hK hP q0 he rfl 3 (by decide) (hts _ hlink) (fs_use hf hts) rfl hdg kk
  | n + 7, he => exact va_get (ci := 1) (C := RX1) (T := TX1) (N := 5) hx hb hts in_X1 hown hK hP q0 he rfl 4 (by decide) (hts _ hlink) (fs_use hf hts) rfl hdg kk
theorem vo_pL (X : Cx p m c meth s args own cc nL rt0 D tys) (hP : va_P D vwCl ws H) (hD : va_D A ws) (hS : va_S A H0 H locs) (he : ws[q0]? = some (a, vo_E k kd fr am le po ls)) (hlink : Cond.fieldLink own idx ref "left" "I" ∈ wd_big) (hf : FS ref "VoucherOffice$Plain" "left" "I") (hdg : decode cc pc = .ok (.putfield idx, 3)) {v : Int32} (kk : ∀ (H1 : Heap) (locs1 : List Loc), va_P D vwCl (ws.set q0 (a, vo_E k kd fr am v po ls)) H1 → va_D A (ws.set q0 (a, vo_E k kd fr am v po ls)) → va_S A H0 H1 locs1 → W p l e R s m args below meth c H1 locs1 cells slots Q (F0 m (pc + 3) ls' rest)) : W p l e R s m args below meth c H locs cells slots Q (F0 m pc ls' (.int v :: .ref a :: rest)) := by
  obtain ⟨hx, hb, hr, hml, hown, hts, hK, hlk, hxK⟩ := X
  match k, he, kk with
  | 0, he, kk => exact va_put (ci := 4) (v := .int v) (ty := .int) (C := RX4) (T := TX4) (N := 4) hx hb hts in_X4 tyX4 tyX4_ok nmX4 hown hK hP hD hS q0 he rfl 3 (by decide) (hts _ hlink) (fs_use hf hts) rfl (by decide +kernel) rfl rfl (Nat.le_of_ble_eq_true rfl) hdg kk
  | 1, he, kk => exact va_put (ci := 2) (v := .int v) (ty := .int) (C := RX2) (T := TX2) (N := 4) hx hb hts in_X2 tyX2 tyX2_ok nmX2 hown hK hP hD hS q0 he rfl 3 (by decide) (hts _ hlink) (fs_use hf hts) rfl (by decide +kernel) rfl rfl (Nat.le_of_ble_eq_true rfl) hdg kk
  | 2, he, kk => exact va_put (ci := 6) (v := .int v) (ty := .int) (C := RX6) (T := TX6) (N := 4) hx hb hts in_X6 tyX6 tyX6_ok nmX6 hown hK hP hD hS q0 he rfl 3 (by decide) (hts _ hlink) (fs_use hf hts) rfl (by decide +kernel) rfl rfl (Nat.le_of_ble_eq_true rfl) hdg kk
  | 3, he, kk => exact va_put (ci := 7) (v := .int v) (ty := .int) (C := RX7) (T := TX7) (N := 5) hx hb hts in_X7 tyX7 tyX7_ok nmX7 hown hK hP hD hS q0 he rfl 3 (by decide) (hts _ hlink) (fs_use hf hts) rfl (by decide +kernel) rfl rfl (Nat.le_of_ble_eq_true rfl) hdg kk
  | 4, he, kk => exact va_put (ci := 5) (v := .int v) (ty := .int) (C := RX5) (T := TX5) (N := 4) hx hb hts in_X5 tyX5 tyX5_ok nmX5 hown hK hP hD hS q0 he rfl 3 (by decide) (hts _ hlink) (fs_use hf hts) rfl (by decide +kernel) rfl rfl (Nat.le_of_ble_eq_true rfl) hdg kk
  | 5, he, kk => exact va_put (ci := 0) (v := .int v) (ty := .int) (C := RX0) (T := TX0) (N := 4) hx hb hts in_X0 tyX0 tyX0_ok nmX0 hown hK hP hD hS q0 he rfl 3 (by decide) (hts _ hlink) (fs_use hf hts) rfl (by decide +kernel) rfl rfl (Nat.le_of_ble_eq_true rfl) hdg kk
  | 6, he, kk => exact va_put (ci := 3) (v := .int v) (ty := .int) (C := RX3) (T := TX3) (N := 5) hx hb hts in_X3 tyX3 tyX3_ok nmX3 hown hK hP hD hS q0 he rfl 3 (by decide) (hts _ hlink) (fs_use hf hts) rfl (by decide +kernel) rfl rfl (Nat.le_of_ble_eq_true rfl) hdg kk
  | n + 7, he, kk => exact va_put (ci := 1) (v := .int v) (ty := .int) (C := RX1) (T := TX1) (N := 5) hx hb hts in_X1 tyX1 tyX1_ok nmX1 hown hK hP hD hS q0 he rfl 4 (by decide) (hts _ hlink) (fs_use hf hts) rfl (by decide +kernel) rfl rfl (Nat.le_of_ble_eq_true rfl) hdg kk
theorem vo_gP (X : Cx p m c meth s args own cc nL rt0 D tys) (hP : va_P D vwCl ws H) (hk : 6 ≤ k) (he : ws[q0]? = some (a, vo_E k kd fr am le po ls)) (hlink : Cond.fieldLink own idx ref "points" "I" ∈ wd_big) (hf : FS ref "VoucherOffice$House" "points" "I") (hdg : decode cc pc = .ok (.getfield idx, 3)) (kk : W p l e R s m args below meth c H locs cells slots Q (F0 m (pc + 3) ls' (.int po :: rest))) : W p l e R s m args below meth c H locs cells slots Q (F0 m pc ls' (.ref a :: rest)) := by
  obtain ⟨hx, hb, hr, hml, hown, hts, hK, hlk, hxK⟩ := X
  match k, he, hk with
  | 0, _, hk => exact absurd hk (by decide)
  | 1, _, hk => exact absurd hk (by decide)
  | 2, _, hk => exact absurd hk (by decide)
  | 3, _, hk => exact absurd hk (by decide)
  | 4, _, hk => exact absurd hk (by decide)
  | 5, _, hk => exact absurd hk (by decide)
  | 6, he, _ => exact va_get (ci := 3) (C := RX3) (T := TX3) (N := 5) hx hb hts in_X3 hown hK hP q0 he rfl 4 (by decide) (hts _ hlink) (fs_use hf hts) rfl hdg kk
  | n + 7, he, _ => exact va_get (ci := 1) (C := RX1) (T := TX1) (N := 5) hx hb hts in_X1 hown hK hP q0 he rfl 0 (by decide) (hts _ hlink) (fs_use hf hts) rfl hdg kk
theorem vo_pP (X : Cx p m c meth s args own cc nL rt0 D tys) (hP : va_P D vwCl ws H) (hD : va_D A ws) (hS : va_S A H0 H locs) (hk : 6 ≤ k) (he : ws[q0]? = some (a, vo_E k kd fr am le po ls)) (hlink : Cond.fieldLink own idx ref "points" "I" ∈ wd_big) (hf : FS ref "VoucherOffice$House" "points" "I") (hdg : decode cc pc = .ok (.putfield idx, 3)) {v : Int32} (kk : ∀ (H1 : Heap) (locs1 : List Loc), va_P D vwCl (ws.set q0 (a, vo_E k kd fr am le v ls)) H1 → va_D A (ws.set q0 (a, vo_E k kd fr am le v ls)) → va_S A H0 H1 locs1 → W p l e R s m args below meth c H1 locs1 cells slots Q (F0 m (pc + 3) ls' rest)) : W p l e R s m args below meth c H locs cells slots Q (F0 m pc ls' (.int v :: .ref a :: rest)) := by
  obtain ⟨hx, hb, hr, hml, hown, hts, hK, hlk, hxK⟩ := X
  match k, he, hk, kk with
  | 0, _, hk, _ => exact absurd hk (by decide)
  | 1, _, hk, _ => exact absurd hk (by decide)
  | 2, _, hk, _ => exact absurd hk (by decide)
  | 3, _, hk, _ => exact absurd hk (by decide)
  | 4, _, hk, _ => exact absurd hk (by decide)
  | 5, _, hk, _ => exact absurd hk (by decide)
  | 6, he, _, kk => exact va_put (ci := 3) (v := .int v) (ty := .int) (C := RX3) (T := TX3) (N := 5) hx hb hts in_X3 tyX3 tyX3_ok nmX3 hown hK hP hD hS q0 he rfl 4 (by decide) (hts _ hlink) (fs_use hf hts) rfl (by decide +kernel) rfl rfl (Nat.le_of_ble_eq_true rfl) hdg kk
  | n + 7, he, _, kk => exact va_put (ci := 1) (v := .int v) (ty := .int) (C := RX1) (T := TX1) (N := 5) hx hb hts in_X1 tyX1 tyX1_ok nmX1 hown hK hP hD hS q0 he rfl 0 (by decide) (hts _ hlink) (fs_use hf hts) rfl (by decide +kernel) rfl rfl (Nat.le_of_ble_eq_true rfl) hdg kk
theorem vo_gS (X : Cx p m c meth s args own cc nL rt0 D tys) (hP : va_P D vwCl ws H) (hk : k = 3) (he : ws[q0]? = some (a, vo_E k kd fr am le po ls)) (hlink : Cond.fieldLink own idx ref "lastSpent" "I" ∈ wd_big) (hf : FS ref "VoucherOffice$Staff" "lastSpent" "I") (hdg : decode cc pc = .ok (.getfield idx, 3)) (kk : W p l e R s m args below meth c H locs cells slots Q (F0 m (pc + 3) ls' (.int ls :: rest))) : W p l e R s m args below meth c H locs cells slots Q (F0 m pc ls' (.ref a :: rest)) := by
  obtain ⟨hx, hb, hr, hml, hown, hts, hK, hlk, hxK⟩ := X
  subst hk
  exact va_get (ci := 7) (C := RX7) (T := TX7) (N := 5) hx hb hts in_X7 hown hK hP q0 he rfl 4 (by decide) (hts _ hlink) (fs_use hf hts) rfl hdg kk
theorem vo_pS (X : Cx p m c meth s args own cc nL rt0 D tys) (hP : va_P D vwCl ws H) (hD : va_D A ws) (hS : va_S A H0 H locs) (hk : k = 3) (he : ws[q0]? = some (a, vo_E k kd fr am le po ls)) (hlink : Cond.fieldLink own idx ref "lastSpent" "I" ∈ wd_big) (hf : FS ref "VoucherOffice$Staff" "lastSpent" "I") (hdg : decode cc pc = .ok (.putfield idx, 3)) {v : Int32} (kk : ∀ (H1 : Heap) (locs1 : List Loc), va_P D vwCl (ws.set q0 (a, vo_E k kd fr am le po v)) H1 → va_D A (ws.set q0 (a, vo_E k kd fr am le po v)) → va_S A H0 H1 locs1 → W p l e R s m args below meth c H1 locs1 cells slots Q (F0 m (pc + 3) ls' rest)) : W p l e R s m args below meth c H locs cells slots Q (F0 m pc ls' (.int v :: .ref a :: rest)) := by
  obtain ⟨hx, hb, hr, hml, hown, hts, hK, hlk, hxK⟩ := X
  subst hk
  exact va_put (ci := 7) (v := .int v) (ty := .int) (C := RX7) (T := TX7) (N := 5) hx hb hts in_X7 tyX7 tyX7_ok nmX7 hown hK hP hD hS q0 he rfl 4 (by decide) (hts _ hlink) (fs_use hf hts) rfl (by decide +kernel) rfl rfl (Nat.le_of_ble_eq_true rfl) hdg kk
end VG
end
section
def pI (ws : va_W) (r : Int32) : Option Value → va_W → Prop := fun v w => v = some (.int r) ∧ w = ws
def pW (v0 : Option Value) (w0 : va_W) : Option Value → va_W → Prop := fun v w => v = v0 ∧ w = w0
def vLast (k : Nat) (fr : Int32) : Int32 := match k with
  | 2 => fr + 90
  | 3 => fr + 30
  | _ => -3
def vSea (k : Nat) (fr le day : Int32) : Int32 := if day ≤ vLast k fr then le else 0
def vRnd (le : Int32) : Int32 := le - (le - le / 10 * 10)
def vVal (k : Nat) (fr le po day : Int32) : Int32 := match k with
  | 0 => le
  | 1 => le
  | 2 => vSea 2 fr le day
  | 3 => vSea 3 fr le day - vSea 3 fr le day / 10
  | 4 => vRnd le
  | 5 => vRnd le
  | 6 => vRnd le + po
  | _ => if day - day / 7 * 7 = 0 then (vRnd le + po) * 2 else vRnd le + po
def vFee (k : Nat) (po g : Int32) : Int32 := match k with
  | 0 => g / 50 + 1
  | 1 => g / 50 + 1
  | 2 => g / 50 + 1
  | 3 => (g / 50 + 1) / 2
  | 4 => g / 50 + 1
  | 5 => g / 50 + 1
  | 6 => g / 50 + 1
  | _ => if 0 < g / 50 + 1 - po then g / 50 + 1 - po else 0
def vBase (fr am le : Int32) : Int32 := (le * 31 + fr) * 31 + am
def vSeal (k : Nat) (fr am le po : Int32) : Int32 := match k with
  | 0 => vBase fr am le
  | 1 => vBase fr am le
  | 2 => vBase fr am le + vLast 2 fr
  | 3 => vBase fr am le + vLast 3 fr
  | 4 => vBase fr am le
  | 5 => vBase fr am le
  | 6 => vBase fr am le
  | _ => vBase fr am le + 3 * po
def vMark (k : Nat) (fr am le po n : Int32) : Int32 := match k with
  | 0 => -3
  | 1 => -3
  | 2 => -3
  | 3 => -3
  | 4 => -3
  | k => vSeal k fr am le po * 7 + n
def vDays (k : Nat) (fr day : Int32) : Int32 := match k with
  | 2 => if 0 < vLast 2 fr - day then vLast 2 fr - day else 0
  | 3 => if 0 < vLast 3 fr - day then vLast 3 fr - day else 0
  | _ => -3
def vLR (k : Nat) (fr le day : Int32) : Int32 := match k with
  | 2 => if vLast 2 fr < day then le else 0
  | 3 => if vLast 3 fr < day then le else 0
  | _ => 0
def vLL (k : Nat) (fr le day : Int32) : Int32 := match k with
  | 2 => if vLast 2 fr < day then 0 else le
  | 3 => if vLast 3 fr < day then 0 else le
  | _ => le
def vPts (k : Nat) (po : Int32) : Int32 := match k with
  | 0 => 0
  | 1 => 0
  | 2 => 0
  | 3 => 0
  | 4 => 0
  | 5 => 0
  | _ => po
def vLS (k : Nat) (ls : Int32) : Int32 := match k with
  | 3 => ls
  | _ => -1
def vSp (k : Nat) (fr le po day g : Int32) : Int32 := if vVal k fr le po day < g then -5 else if g + vFee k po g ≤ le then le - (g + vFee k po g) else -5
def vSpL (k : Nat) (fr le po day g : Int32) : Int32 := if vVal k fr le po day < g then le else if g + vFee k po g ≤ le then le - (g + vFee k po g) else le
def vSR (k : Nat) (fr le po ls day g : Int32) : Int32 := match k with
  | 3 => if ls = day then -6 else vSp 3 fr le po day g
  | k => vSp k fr le po day g
def vSL (k : Nat) (fr le po ls day g : Int32) : Int32 := match k with
  | 3 => if ls = day then le else vSpL 3 fr le po day g
  | k => vSpL k fr le po day g
def vSP (k : Nat) (fr le po day g : Int32) : Int32 := match k with
  | 0 => po
  | 1 => po
  | 2 => po
  | 3 => po
  | 4 => po
  | 5 => po
  | k => if vSp k fr le po day g < 0 then po else po + g / 100
def vSS (k : Nat) (fr le po ls day g : Int32) : Int32 := match k with
  | 3 => if ls = day then ls else if vSp 3 fr le po day g < 0 then ls else day
  | _ => ls
def vTP (k : Nat) (po : Int32) (k2 : Nat) (po2 : Int32) : Int32 := match k with
  | 0 => po
  | 1 => po
  | 2 => po
  | 3 => po
  | 4 => po
  | 5 => po
  | _ => po + vPts k2 po2
def vTS (k : Nat) (ls : Int32) (k2 : Nat) (ls2 : Int32) : Int32 := match k with
  | 3 => if ls < vLS k2 ls2 then vLS k2 ls2 else ls
  | _ => ls
section KI
variable {p : Program} {l : Launch} {e : Env} {R : Room} {s : State} {m : MethodId} {args : Array Value} {below : List Frame} {meth : Method} {c : Code} {cells slots : Nat} {Q : State → Prop} {pc : Nat} {L : Array Slot} {rest : List Value} {A0 : Nat → Prop} {H0 : Heap} {D : va_G} {ws w0 : va_W} {v0 : Option Value}
theorem kI {r : Int32} (kk : ∀ (H1 : Heap) (locs1 : List Loc), va_P D vwCl ws H1 → va_D A0 ws → va_S A0 H0 H1 locs1 → W p l e R s m args below meth c H1 locs1 cells slots Q (F0 m (pc + 3) L (.int r :: rest))) (v : Option Value) (ws1 : va_W) (H1 : Heap) (locs1 : List Loc) (hq : pI ws r v ws1) (hP : va_P D vwCl ws1 H1) (hD : va_D A0 ws1) (hS : va_S A0 H0 H1 locs1) : W p l e R s m args below meth c H1 locs1 (cells + 0) (slots + 0) Q (F0 m (pc + 3) L (v.toList ++ rest)) := by
  obtain ⟨rfl, rfl⟩ := hq
  exact kk H1 locs1 hP hD hS
theorem kW (kk : ∀ (H1 : Heap) (locs1 : List Loc), va_P D vwCl w0 H1 → va_D A0 w0 → va_S A0 H0 H1 locs1 → W p l e R s m args below meth c H1 locs1 cells slots Q (F0 m (pc + 3) L (v0.toList ++ rest))) (v : Option Value) (ws1 : va_W) (H1 : Heap) (locs1 : List Loc) (hq : pW v0 w0 v ws1) (hP : va_P D vwCl ws1 H1) (hD : va_D A0 ws1) (hS : va_S A0 H0 H1 locs1) : W p l e R s m args below meth c H1 locs1 (cells + 0) (slots + 0) Q (F0 m (pc + 3) L (v.toList ++ rest)) := by
  obtain ⟨rfl, rfl⟩ := hq
  exact kk H1 locs1 hP hD hS
end KI
theorem vo_rec (k : Nat) (kd fr am le po ls : Int32) : ∃ (ci : Nat) (fs : List Value) (cq : vw_C), vo_E k kd fr am le po ls = .inr (ci, fs) ∧ vwCl[ci]? = some cq := by
  match k with
  | 0 => exact ⟨4, _, _, rfl, rfl⟩
  | 1 => exact ⟨2, _, _, rfl, rfl⟩
  | 2 => exact ⟨6, _, _, rfl, rfl⟩
  | 3 => exact ⟨7, _, _, rfl, rfl⟩
  | 4 => exact ⟨5, _, _, rfl, rfl⟩
  | 5 => exact ⟨0, _, _, rfl, rfl⟩
  | 6 => exact ⟨3, _, _, rfl, rfl⟩
  | n + 7 => exact ⟨1, _, _, rfl, rfl⟩
theorem iw_X5_1 : IW RX5 1 yX4_init cX4_init 4 3 := ⟨mw_124, mw_57, mw_3, mw_58, rfl, by decide +kernel⟩
theorem iw_X2_1 : IW RX2 1 yX4_init cX4_init 4 3 := ⟨mw_88, mw_57, mw_3, mw_58, rfl, by decide +kernel⟩
theorem iw_X0_1 : IW RX0 1 yX5_init cX5_init 4 3 := ⟨mw_135, mw_122, mw_7, mw_123, rfl, by decide +kernel⟩
theorem iw_X6_1 : IW RX6 1 yX2_init cX2_init 4 3 := ⟨mw_99, mw_86, mw_4, mw_87, rfl, by decide +kernel⟩
theorem iw_X3_1 : IW RX3 1 yX0_init cX0_init 4 3 := ⟨mw_146, mw_133, mw_8, mw_134, rfl, by decide +kernel⟩
theorem iw_X7_3 : IW RX7 3 yX6_init cX6_init 4 3 := ⟨mw_110, mw_97, mw_5, mw_98, rfl, by decide +kernel⟩
theorem iw_X1_1 : IW RX1 1 yX3_init cX3_init 4 3 := ⟨mw_162, mw_144, mw_9, mw_145, rfl, by decide +kernel⟩
theorem uw_X6_17 : UW RX6 17 ⟨"VoucherOffice$Gift", "valueOn", "(I)I"⟩ "VoucherOffice$Plain" yX4_valueOn cX4_valueOn 2 (some .int) 1 := ⟨mw_212, mw_213, mw_104, mw_182, mw_3, mw_219, rfl, ⟨2, by decide, (sub_up mw_93 (sub_rf "VoucherOffice$Plain"))⟩, by decide, by decide +kernel⟩
theorem uw_X6_21 : UW RX6 21 ⟨"VoucherOffice$Gift", "sealNow", "()I"⟩ "VoucherOffice$Plain" yX4_sealNow cX4_sealNow 1 (some .int) 0 := ⟨mw_296, mw_297, mw_104, mw_280, mw_3, mw_299, rfl, ⟨2, by decide, (sub_up mw_93 (sub_rf "VoucherOffice$Plain"))⟩, by decide, by decide +kernel⟩
theorem uw_X7_20 : UW RX7 20 yX6_valueOn "VoucherOffice$Season" yX6_valueOn cX6_valueOn 2 (some .int) 1 := ⟨mw_218, mw_580, mw_118, mw_202, mw_5, mw_203, rfl, ⟨1, by decide, (sub_rf "VoucherOffice$Season")⟩, by decide, by decide +kernel⟩
theorem uw_X7_24 : UW RX7 24 ⟨"VoucherOffice$Season", "feeOf", "(I)I"⟩ "VoucherOffice$Plain" yX4_feeOf cX4_feeOf 2 (some .int) 1 := ⟨mw_245, mw_246, mw_118, mw_225, mw_3, mw_247, rfl, ⟨3, by decide, (sub_up mw_104 (sub_up mw_93 (sub_rf "VoucherOffice$Plain")))⟩, by decide, by decide +kernel⟩
theorem uw_X5_7 : UW RX5 7 yX4_valueOn "VoucherOffice$Plain" yX4_valueOn cX4_valueOn 2 (some .int) 1 := ⟨mw_188, mw_184, mw_129, mw_182, mw_3, mw_219, rfl, ⟨1, by decide, (sub_rf "VoucherOffice$Plain")⟩, by decide, by decide +kernel⟩
theorem uw_X3_13 : UW RX3 13 ⟨"VoucherOffice$Club", "valueOn", "(I)I"⟩ "VoucherOffice$Round" yX5_valueOn cX5_valueOn 3 (some .int) 1 := ⟨mw_195, mw_196, mw_156, mw_186, mw_7, mw_187, rfl, ⟨2, by decide, (sub_up mw_140 (sub_rf "VoucherOffice$Round"))⟩, by decide, by decide +kernel⟩
theorem uw_X1_7 : UW RX1 7 yX3_valueOn "VoucherOffice$House" yX3_valueOn cX3_valueOn 2 (some .int) 1 := ⟨mw_192, mw_579, mw_168, mw_193, mw_9, mw_194, rfl, ⟨1, by decide, (sub_rf "VoucherOffice$House")⟩, by decide, by decide +kernel⟩
theorem uw_X1_11 : UW RX1 11 ⟨"VoucherOffice$House", "feeOf", "(I)I"⟩ "VoucherOffice$Plain" yX4_feeOf cX4_feeOf 2 (some .int) 1 := ⟨mw_232, mw_233, mw_168, mw_225, mw_3, mw_247, rfl, ⟨4, by decide, (sub_up mw_156 (sub_up mw_140 (sub_up mw_129 (sub_rf "VoucherOffice$Plain"))))⟩, by decide, by decide +kernel⟩
theorem uw_X1_26 : UW RX1 26 ⟨"VoucherOffice$House", "sealNow", "()I"⟩ "VoucherOffice$Plain" yX4_sealNow cX4_sealNow 1 (some .int) 0 := ⟨mw_287, mw_288, mw_168, mw_280, mw_3, mw_299, rfl, ⟨4, by decide, (sub_up mw_156 (sub_up mw_140 (sub_up mw_129 (sub_rf "VoucherOffice$Plain"))))⟩, by decide, by decide +kernel⟩
theorem uw_X7_27 : UW RX7 27 ⟨"VoucherOffice$Season", "spendOn", "(II)I"⟩ "VoucherOffice$Plain" yX4_spendOn cX4_spendOn 4 (some .int) 2 := ⟨mw_270, mw_271, mw_118, mw_253, mw_3, mw_272, rfl, ⟨3, by decide, (sub_up mw_104 (sub_up mw_93 (sub_rf "VoucherOffice$Plain")))⟩, by decide, by decide +kernel⟩
theorem uw_X3_17 : UW RX3 17 ⟨"VoucherOffice$Club", "spendOn", "(II)I"⟩ "VoucherOffice$Plain" yX4_spendOn cX4_spendOn 4 (some .int) 2 := ⟨mw_260, mw_261, mw_156, mw_253, mw_3, mw_272, rfl, ⟨3, by decide, (sub_up mw_140 (sub_up mw_129 (sub_rf "VoucherOffice$Plain")))⟩, by decide, by decide +kernel⟩
theorem uw_X3_21 : UW RX3 21 ⟨"VoucherOffice$Club", "takeIn", "(LVoucherOffice$Plain;)V"⟩ "VoucherOffice$Plain" yX4_takeIn cX4_takeIn 2 none 1 := ⟨mw_372, mw_373, mw_156, mw_365, mw_3, mw_413, rfl, ⟨3, by decide, (sub_up mw_140 (sub_up mw_129 (sub_rf "VoucherOffice$Plain")))⟩, by decide, by decide +kernel⟩
theorem uw_X7_31 : UW RX7 31 ⟨"VoucherOffice$Season", "takeIn", "(LVoucherOffice$Plain;)V"⟩ "VoucherOffice$Plain" yX4_takeIn cX4_takeIn 2 none 1 := ⟨mw_396, mw_397, mw_118, mw_365, mw_3, mw_413, rfl, ⟨3, by decide, (sub_up mw_104 (sub_up mw_93 (sub_rf "VoucherOffice$Plain")))⟩, by decide, by decide +kernel⟩
set_option maxHeartbeats 4000000 in
set_option maxRecDepth 100000 in
theorem c_X4_valueOn (l : Launch) (D : va_G) (tys : List (ClassId × FieldType)) (d : Nat) (hd : 0 ≤ d) {ws : va_W} {q0 a k : Nat} {kd fr am le po ls : Int32} (he : ws[q0]? = some (a, vo_E k kd fr am le po ls)) (day : Int32) : Ct l D tys yX4_valueOn cX4_valueOn 2 (some .int) d 0 0 [.ref a, .int day] ws (pI ws le) := by
  refine ct_intro (by decide) (Nat.le_of_ble_eq_true rfl) ?_
  intro p e s m below meth c A L X hin hP hD hS hA hl
  have hl : lv_has L 2 [(0, .ref a), (1, .int day)] := hl
  obtain ⟨hx, hb, hr, hml, hown, hts, hK, hlk, hxK⟩ := id X
  refine lv_aload_n hx hb dX4_valueOn_0 rfl (lv_at hl 0 rfl) ?_
  refine vo_gL X hP he mw_70 (Or.inl rfl) dX4_valueOn_1 ?_
  exact e_int X hP hD hS dX4_valueOn_4 ⟨rfl, rfl⟩
set_option maxHeartbeats 4000000 in
set_option maxRecDepth 100000 in
theorem c_X4_feeOf (l : Launch) (D : va_G) (tys : List (ClassId × FieldType)) (d : Nat) (hd : 0 ≤ d) {ws : va_W} {q0 a k : Nat} {kd fr am le po ls : Int32} (he : ws[q0]? = some (a, vo_E k kd fr am le po ls)) (g : Int32) : Ct l D tys yX4_feeOf cX4_feeOf 2 (some .int) d 0 0 [.ref a, .int g] ws (pI ws (g / 50 + 1)) := by
  refine ct_intro (by decide) (Nat.le_of_ble_eq_true rfl) ?_
  intro p e s m below meth c A L X hin hP hD hS hA hl
  have hl : lv_has L 2 [(0, .ref a), (1, .int g)] := hl
  obtain ⟨hx, hb, hr, hml, hown, hts, hK, hlk, hxK⟩ := id X
  refine lv_iload_n hx hb dX4_feeOf_0 rfl (lv_at hl 1 rfl) ?_
  refine lv_bipush (v := 50) hx hb dX4_feeOf_1 (by decide) ?_
  refine lv_idiv hx hb dX4_feeOf_3 (by decide) ?_
  refine lv_iconst (v := 1) hx hb dX4_feeOf_4 (by decide) ?_
  refine lv_iadd hx hb dX4_feeOf_5 ?_
  exact e_int X hP hD hS dX4_feeOf_6 ⟨rfl, rfl⟩
set_option maxHeartbeats 4000000 in
set_option maxRecDepth 100000 in
theorem c_X4_sealNow (l : Launch) (D : va_G) (tys : List (ClassId × FieldType)) (d : Nat) (hd : 0 ≤ d) {ws : va_W} {q0 a k : Nat} {kd fr am le po ls : Int32} (he : ws[q0]? = some (a, vo_E k kd fr am le po ls)) : Ct l D tys yX4_sealNow cX4_sealNow 1 (some .int) d 0 0 [.ref a] ws (pI ws (vBase fr am le)) := by
  refine ct_intro (by decide) (Nat.le_of_ble_eq_true rfl) ?_
  intro p e s m below meth c A L X hin hP hD hS hA hl
  have hl : lv_has L 1 [(0, .ref a)] := hl
  obtain ⟨hx, hb, hr, hml, hown, hts, hK, hlk, hxK⟩ := id X
  refine lv_aload_n hx hb dX4_sealNow_0 rfl (lv_at hl 0 rfl) ?_
  refine vo_gL X hP he mw_70 (Or.inl rfl) dX4_sealNow_1 ?_
  refine lv_bipush (v := 31) hx hb dX4_sealNow_4 (by decide) ?_
  refine lv_imul hx hb dX4_sealNow_6 ?_
  refine lv_aload_n hx hb dX4_sealNow_7 rfl (lv_at hl 0 rfl) ?_
  refine vo_gF X hP he mw_62 (Or.inl rfl) dX4_sealNow_8 ?_
  refine lv_iadd hx hb dX4_sealNow_11 ?_
  refine lv_bipush (v := 31) hx hb dX4_sealNow_12 (by decide) ?_
  refine lv_imul hx hb dX4_sealNow_14 ?_
  refine lv_aload_n hx hb dX4_sealNow_15 rfl (lv_at hl 0 rfl) ?_
  refine vo_gA X hP he mw_68 (Or.inl rfl) dX4_sealNow_16 ?_
  refine lv_iadd hx hb dX4_sealNow_19 ?_
  exact e_int X hP hD hS dX4_sealNow_20 ⟨rfl, rfl⟩
set_option maxHeartbeats 4000000 in
set_option maxRecDepth 100000 in
theorem c_X4_markOf (l : Launch) (D : va_G) (tys : List (ClassId × FieldType)) (d : Nat) (hd : 0 ≤ d) {ws : va_W} {q0 a k : Nat} {kd fr am le po ls : Int32} (he : ws[q0]? = some (a, vo_E k kd fr am le po ls)) (n : Int32) : Ct l D tys yX4_markOf cX4_markOf 2 (some .int) d 0 0 [.ref a, .int n] ws (pI ws (-3)) := by
  refine ct_intro (by decide) (Nat.le_of_ble_eq_true rfl) ?_
  intro p e s m below meth c A L X hin hP hD hS hA hl
  have hl : lv_has L 2 [(0, .ref a), (1, .int n)] := hl
  obtain ⟨hx, hb, hr, hml, hown, hts, hK, hlk, hxK⟩ := id X
  refine lv_bipush (v := (-3)) hx hb dX4_markOf_0 (by decide) ?_
  exact e_int X hP hD hS dX4_markOf_2 ⟨rfl, rfl⟩
set_option maxHeartbeats 4000000 in
set_option maxRecDepth 100000 in
theorem c_X4_daysLeftOn (l : Launch) (D : va_G) (tys : List (ClassId × FieldType)) (d : Nat) (hd : 0 ≤ d) {ws : va_W} {q0 a k : Nat} {kd fr am le po ls : Int32} (he : ws[q0]? = some (a, vo_E k kd fr am le po ls)) (n : Int32) : Ct l D tys yX4_daysLeftOn cX4_daysLeftOn 2 (some .int) d 0 0 [.ref a, .int n] ws (pI ws (-3)) := by
  refine ct_intro (by decide) (Nat.le_of_ble_eq_true rfl) ?_
  intro p e s m below meth c A L X hin hP hD hS hA hl
  have hl : lv_has L 2 [(0, .ref a), (1, .int n)] := hl
  obtain ⟨hx, hb, hr, hml, hown, hts, hK, hlk, hxK⟩ := id X
  refine lv_bipush (v := (-3)) hx hb dX4_daysLeftOn_0 (by decide) ?_
  exact e_int X hP hD hS dX4_daysLeftOn_2 ⟨rfl, rfl⟩
set_option maxHeartbeats 4000000 in
set_option maxRecDepth 100000 in
theorem c_X4_lastDay (l : Launch) (D : va_G) (tys : List (ClassId × FieldType)) (d : Nat) (hd : 0 ≤ d) {ws : va_W} {q0 a k : Nat} {kd fr am le po ls : Int32} (he : ws[q0]? = some (a, vo_E k kd fr am le po ls)) : Ct l D tys yX4_lastDay cX4_lastDay 1 (some .int) d 0 0 [.ref a] ws (pI ws (-3)) := by
  refine ct_intro (by decide) (Nat.le_of_ble_eq_true rfl) ?_
  intro p e s m below meth c A L X hin hP hD hS hA hl
  have hl : lv_has L 1 [(0, .ref a)] := hl
  obtain ⟨hx, hb, hr, hml, hown, hts, hK, hlk, hxK⟩ := id X
  refine lv_bipush (v := (-3)) hx hb dX4_lastDay_0 (by decide) ?_
  exact e_int X hP hD hS dX4_lastDay_2 ⟨rfl, rfl⟩
set_option maxHeartbeats 4000000 in
set_option maxRecDepth 100000 in
theorem c_X4_lapseOn (l : Launch) (D : va_G) (tys : List (ClassId × FieldType)) (d : Nat) (hd : 0 ≤ d) {ws : va_W} {q0 a k : Nat} {kd fr am le po ls : Int32} (he : ws[q0]? = some (a, vo_E k kd fr am le po ls)) (n : Int32) : Ct l D tys yX4_lapseOn cX4_lapseOn 2 (some .int) d 0 0 [.ref a, .int n] ws (pW (some (.int 0)) (ws.set q0 (a, vo_E k kd fr am le po ls))) := by
  refine ct_intro (by decide) (Nat.le_of_ble_eq_true rfl) ?_
  intro p e s m below meth c A L X hin hP hD hS hA hl
  have hl : lv_has L 2 [(0, .ref a), (1, .int n)] := hl
  obtain ⟨hx, hb, hr, hml, hown, hts, hK, hlk, hxK⟩ := id X
  refine lv_iconst (v := 0) hx hb dX4_lapseOn_0 (by decide) ?_
  exact e_int X hP hD hS dX4_lapseOn_1 ⟨rfl, (st_self he).symm⟩
set_option maxHeartbeats 4000000 in
set_option maxRecDepth 100000 in
theorem c_X4_pointsNow (l : Launch) (D : va_G) (tys : List (ClassId × FieldType)) (d : Nat) (hd : 0 ≤ d) {ws : va_W} {q0 a k : Nat} {kd fr am le po ls : Int32} (he : ws[q0]? = some (a, vo_E k kd fr am le po ls)) : Ct l D tys yX4_pointsNow cX4_pointsNow 1 (some .int) d 0 0 [.ref a] ws (pI ws 0) := by
  refine ct_intro (by decide) (Nat.le_of_ble_eq_true rfl) ?_
  intro p e s m below meth c A L X hin hP hD hS hA hl
  have hl : lv_has L 1 [(0, .ref a)] := hl
  obtain ⟨hx, hb, hr, hml, hown, hts, hK, hlk, hxK⟩ := id X
  refine lv_iconst (v := 0) hx hb dX4_pointsNow_0 (by decide) ?_
  exact e_int X hP hD hS dX4_pointsNow_1 ⟨rfl, rfl⟩
set_option maxHeartbeats 4000000 in
set_option maxRecDepth 100000 in
theorem c_X4_lastSpent (l : Launch) (D : va_G) (tys : List (ClassId × FieldType)) (d : Nat) (hd : 0 ≤ d) {ws : va_W} {q0 a k : Nat} {kd fr am le po ls : Int32} (he : ws[q0]? = some (a, vo_E k kd fr am le po ls)) : Ct l D tys yX4_lastSpent cX4_lastSpent 1 (some .int) d 0 0 [.ref a] ws (pI ws (-1)) := by
  refine ct_intro (by decide) (Nat.le_of_ble_eq_true rfl) ?_
  intro p e s m below meth c A L X hin hP hD hS hA hl
  have hl : lv_has L 1 [(0, .ref a)] := hl
  obtain ⟨hx, hb, hr, hml, hown, hts, hK, hlk, hxK⟩ := id X
  refine lv_iconst (v := (-1)) hx hb dX4_lastSpent_0 (by decide) ?_
  exact e_int X hP hD hS dX4_lastSpent_1 ⟨rfl, rfl⟩
set_option maxHeartbeats 4000000 in
set_option maxRecDepth 100000 in
theorem c_X3_pointsNow (l : Launch) (D : va_G) (tys : List (ClassId × FieldType)) (d : Nat) (hd : 0 ≤ d) {ws : va_W} {q0 a k : Nat} {kd fr am le po ls : Int32} (he : ws[q0]? = some (a, vo_E k kd fr am le po ls)) (hk : 6 ≤ k) : Ct l D tys yX3_pointsNow cX3_pointsNow 1 (some .int) d 0 0 [.ref a] ws (pI ws po) := by
  refine ct_intro (by decide) (Nat.le_of_ble_eq_true rfl) ?_
  intro p e s m below meth c A L X hin hP hD hS hA hl
  have hl : lv_has L 1 [(0, .ref a)] := hl
  obtain ⟨hx, hb, hr, hml, hown, hts, hK, hlk, hxK⟩ := id X
  refine lv_aload_n hx hb dX3_pointsNow_0 rfl (lv_at hl 0 rfl) ?_
  refine vo_gP X hP hk he mw_147 (Or.inl rfl) dX3_pointsNow_1 ?_
  exact e_int X hP hD hS dX3_pointsNow_4 ⟨rfl, rfl⟩
set_option maxHeartbeats 4000000 in
set_option maxRecDepth 100000 in
theorem c_X7_lastSpent (l : Launch) (D : va_G) (tys : List (ClassId × FieldType)) (d : Nat) (hd : 0 ≤ d) {ws : va_W} {q0 a k : Nat} {kd fr am le po ls : Int32} (he : ws[q0]? = some (a, vo_E k kd fr am le po ls)) (hk : k = 3) : Ct l D tys yX7_lastSpent cX7_lastSpent 1 (some .int) d 0 0 [.ref a] ws (pI ws ls) := by
  refine ct_intro (by decide) (Nat.le_of_ble_eq_true rfl) ?_
  intro p e s m below meth c A L X hin hP hD hS hA hl
  have hl : lv_has L 1 [(0, .ref a)] := hl
  obtain ⟨hx, hb, hr, hml, hown, hts, hK, hlk, hxK⟩ := id X
  refine lv_aload_n hx hb dX7_lastSpent_0 rfl (lv_at hl 0 rfl) ?_
  refine vo_gS X hP hk he mw_111 (Or.inl rfl) dX7_lastSpent_1 ?_
  exact e_int X hP hD hS dX7_lastSpent_4 ⟨rfl, rfl⟩
set_option maxHeartbeats 4000000 in
set_option maxRecDepth 100000 in
theorem c_X6_lastDay (l : Launch) (D : va_G) (tys : List (ClassId × FieldType)) (d : Nat) (hd : 0 ≤ d) {ws : va_W} {q0 a k : Nat} {kd fr am le po ls : Int32} (he : ws[q0]? = some (a, vo_E k kd fr am le po ls)) : Ct l D tys yX6_lastDay cX6_lastDay 1 (some .int) d 0 0 [.ref a] ws (pI ws (fr + 90)) := by
  refine ct_intro (by decide) (Nat.le_of_ble_eq_true rfl) ?_
  intro p e s m below meth c A L X hin hP hD hS hA hl
  have hl : lv_has L 1 [(0, .ref a)] := hl
  obtain ⟨hx, hb, hr, hml, hown, hts, hK, hlk, hxK⟩ := id X
  refine lv_aload_n hx hb dX6_lastDay_0 rfl (lv_at hl 0 rfl) ?_
  refine vo_gF X hP he mw_63 (Or.inr mw_64) dX6_lastDay_1 ?_
  refine lv_bipush (v := 90) hx hb dX6_lastDay_4 (by decide) ?_
  refine lv_iadd hx hb dX6_lastDay_6 ?_
  exact e_int X hP hD hS dX6_lastDay_7 ⟨rfl, rfl⟩
set_option maxHeartbeats 4000000 in
set_option maxRecDepth 100000 in
theorem c_X7_lastDay (l : Launch) (D : va_G) (tys : List (ClassId × FieldType)) (d : Nat) (hd : 0 ≤ d) {ws : va_W} {q0 a k : Nat} {kd fr am le po ls : Int32} (he : ws[q0]? = some (a, vo_E k kd fr am le po ls)) : Ct l D tys yX7_lastDay cX7_lastDay 1 (some .int) d 0 0 [.ref a] ws (pI ws (fr + 30)) := by
  refine ct_intro (by decide) (Nat.le_of_ble_eq_true rfl) ?_
  intro p e s m below meth c A L X hin hP hD hS hA hl
  have hl : lv_has L 1 [(0, .ref a)] := hl
  obtain ⟨hx, hb, hr, hml, hown, hts, hK, hlk, hxK⟩ := id X
  refine lv_aload_n hx hb dX7_lastDay_0 rfl (lv_at hl 0 rfl) ?_
  refine vo_gF X hP he mw_65 (Or.inr mw_66) dX7_lastDay_1 ?_
  refine lv_bipush (v := 30) hx hb dX7_lastDay_4 (by decide) ?_
  refine lv_iadd hx hb dX7_lastDay_6 ?_
  exact e_int X hP hD hS dX7_lastDay_7 ⟨rfl, rfl⟩
set_option maxHeartbeats 4000000 in
set_option maxRecDepth 100000 in
theorem c_X4_init (l : Launch) (D : va_G) (tys : List (ClassId × FieldType)) (d : Nat) (hd : 1 ≤ d) {ws : va_W} {q0 a k : Nat} {kd fr am le po ls : Int32} (he : ws[q0]? = some (a, vo_E k kd fr am le po ls)) (k1 am1 fr1 : Int32) : Ct l D tys yX4_init cX4_init 4 none d 0 0 [.ref a, .int k1, .int am1, .int fr1] ws (pW none (ws.set q0 (a, vo_E k k1 fr1 am1 am1 po ls))) := by
  refine ct_intro (by decide) (Nat.le_of_ble_eq_true rfl) ?_
  intro p e s m below meth c A L X hin hP hD hS hA hl
  have hl : lv_has L 4 [(0, .ref a), (1, .int k1), (2, .int am1), (3, .int fr1)] := hl
  obtain ⟨hx, hb, hr, hml, hown, hts, hK, hlk, hxK⟩ := id X
  refine lv_aload_n hx hb dX4_init_0 rfl (lv_at hl 0 rfl) ?_
  refine W.objInit hx hb hown (hts _ mw_59) (hts _ mw_18) (hts _ mw_19) rfl (by rw [hml]; exact hl.1) rfl dX4_init_1 (by show _ ≤ d; omega) (by show 0 + 12 ≤ 30 * d; omega) ?_
  refine W.eq (g2 := F0 m 4 L []) rfl ?_
  refine lv_aload_n hx hb dX4_init_4 rfl (lv_at hl 0 rfl) ?_
  refine lv_iload_n hx hb dX4_init_5 rfl (lv_at hl 1 rfl) ?_
  refine vo_pK X hP hD hS hin rfl he mw_60 (Or.inl rfl) dX4_init_6 (fun H locs hP hD hS => ?_)
  have he : (ws.set q0 (a, vo_E k k1 fr am le po ls))[q0]? = some (a, vo_E k k1 fr am le po ls) := st_same he
  refine lv_aload_n hx hb dX4_init_9 rfl (lv_at hl 0 rfl) ?_
  refine lv_iload_n hx hb dX4_init_10 rfl (lv_at hl 3 rfl) ?_
  refine vo_pF X hP hD hS hin rfl he mw_62 (Or.inl rfl) dX4_init_11 (fun H locs hP hD hS => ?_)
  have he : ((ws.set q0 (a, vo_E k k1 fr am le po ls)).set q0 (a, vo_E k k1 fr1 am le po ls))[q0]? = some (a, vo_E k k1 fr1 am le po ls) := st_same he
  refine lv_aload_n hx hb dX4_init_14 rfl (lv_at hl 0 rfl) ?_
  refine lv_iload_n hx hb dX4_init_15 rfl (lv_at hl 2 rfl) ?_
  refine vo_pA X hP hD hS he mw_68 (Or.inl rfl) dX4_init_16 (fun H locs hP hD hS => ?_)
  have he : (((ws.set q0 (a, vo_E k k1 fr am le po ls)).set q0 (a, vo_E k k1 fr1 am le po ls)).set q0 (a, vo_E k k1 fr1 am1 le po ls))[q0]? = some (a, vo_E k k1 fr1 am1 le po ls) := st_same he
  refine lv_aload_n hx hb dX4_init_19 rfl (lv_at hl 0 rfl) ?_
  refine lv_iload_n hx hb dX4_init_20 rfl (lv_at hl 2 rfl) ?_
  refine vo_pL X hP hD hS he mw_70 (Or.inl rfl) dX4_init_21 (fun H locs hP hD hS => ?_)
  have he : ((((ws.set q0 (a, vo_E k k1 fr am le po ls)).set q0 (a, vo_E k k1 fr1 am le po ls)).set q0 (a, vo_E k k1 fr1 am1 le po ls)).set q0 (a, vo_E k k1 fr1 am1 am1 po ls))[q0]? = some (a, vo_E k k1 fr1 am1 am1 po ls) := st_same he
  exact e_void X hP hD hS dX4_init_24 ⟨rfl, by simp only [List.set_set]⟩
set_option maxHeartbeats 4000000 in
set_option maxRecDepth 100000 in
theorem c_X5_init (l : Launch) (D : va_G) (tys : List (ClassId × FieldType)) (d : Nat) (hd : 2 ≤ d) {ws : va_W} {q0 a k : Nat} {kd fr am le po ls : Int32} (he : ws[q0]? = some (a, vo_E k kd fr am le po ls)) (k1 am1 fr1 : Int32) : Ct l D tys yX5_init cX5_init 4 none d 0 0 [.ref a, .int k1, .int am1, .int fr1] ws (pW none (ws.set q0 (a, vo_E k k1 fr1 am1 am1 po ls))) := by
  refine ct_intro (by decide) (Nat.le_of_ble_eq_true rfl) ?_
  intro p e s m below meth c A L X hin hP hD hS hA hl
  have hl : lv_has L 4 [(0, .ref a), (1, .int k1), (2, .int am1), (3, .int fr1)] := hl
  obtain ⟨hx, hb, hr, hml, hown, hts, hK, hlk, hxK⟩ := id X
  refine lv_aload_n hx hb dX5_init_0 rfl (lv_at hl 0 rfl) ?_
  refine lv_iload_n hx hb dX5_init_1 rfl (lv_at hl 1 rfl) ?_
  refine lv_iload_n hx hb dX5_init_2 rfl (lv_at hl 2 rfl) ?_
  refine lv_iload_n hx hb dX5_init_3 rfl (lv_at hl 3 rfl) ?_
  refine g_ctor (As := [.int k1, .int am1, .int fr1]) (rest := []) iw_X5_1 X (c_X4_init l D tys 1 (by decide) he k1 am1 fr1) hP hD hS hA ⟨by show _ ≤ d; omega, by show _ ≤ 30 * d; omega⟩ rfl hl.1 rfl (Nat.le_of_ble_eq_true rfl) dX5_init_4 ⟨Nat.le_refl _, Nat.le_refl _⟩ (kW fun H locs hP hD hS => ?_)
  have he : (ws.set q0 (a, vo_E k k1 fr1 am1 am1 po ls))[q0]? = some (a, vo_E k k1 fr1 am1 am1 po ls) := st_same he
  refine W.eq (g2 := F0 m 7 L []) rfl ?_
  exact e_void X hP hD hS dX5_init_7 ⟨rfl, rfl⟩
set_option maxHeartbeats 4000000 in
set_option maxRecDepth 100000 in
theorem c_X2_init (l : Launch) (D : va_G) (tys : List (ClassId × FieldType)) (d : Nat) (hd : 2 ≤ d) {ws : va_W} {q0 a k : Nat} {kd fr am le po ls : Int32} (he : ws[q0]? = some (a, vo_E k kd fr am le po ls)) (k1 am1 fr1 : Int32) : Ct l D tys yX2_init cX2_init 4 none d 0 0 [.ref a, .int k1, .int am1, .int fr1] ws (pW none (ws.set q0 (a, vo_E k k1 fr1 am1 am1 po ls))) := by
  refine ct_intro (by decide) (Nat.le_of_ble_eq_true rfl) ?_
  intro p e s m below meth c A L X hin hP hD hS hA hl
  have hl : lv_has L 4 [(0, .ref a), (1, .int k1), (2, .int am1), (3, .int fr1)] := hl
  obtain ⟨hx, hb, hr, hml, hown, hts, hK, hlk, hxK⟩ := id X
  refine lv_aload_n hx hb dX2_init_0 rfl (lv_at hl 0 rfl) ?_
  refine lv_iload_n hx hb dX2_init_1 rfl (lv_at hl 1 rfl) ?_
  refine lv_iload_n hx hb dX2_init_2 rfl (lv_at hl 2 rfl) ?_
  refine lv_iload_n hx hb dX2_init_3 rfl (lv_at hl 3 rfl) ?_
  refine g_ctor (As := [.int k1, .int am1, .int fr1]) (rest := []) iw_X2_1 X (c_X4_init l D tys 1 (by decide) he k1 am1 fr1) hP hD hS hA ⟨by show _ ≤ d; omega, by show _ ≤ 30 * d; omega⟩ rfl hl.1 rfl (Nat.le_of_ble_eq_true rfl) dX2_init_4 ⟨Nat.le_refl _, Nat.le_refl _⟩ (kW fun H locs hP hD hS => ?_)
  have he : (ws.set q0 (a, vo_E k k1 fr1 am1 am1 po ls))[q0]? = some (a, vo_E k k1 fr1 am1 am1 po ls) := st_same he
  refine W.eq (g2 := F0 m 7 L []) rfl ?_
  exact e_void X hP hD hS dX2_init_7 ⟨rfl, rfl⟩
set_option maxHeartbeats 4000000 in
set_option maxRecDepth 100000 in
theorem c_X0_init (l : Launch) (D : va_G) (tys : List (ClassId × FieldType)) (d : Nat) (hd : 3 ≤ d) {ws : va_W} {q0 a k : Nat} {kd fr am le po ls : Int32} (he : ws[q0]? = some (a, vo_E k kd fr am le po ls)) (k1 am1 fr1 : Int32) : Ct l D tys yX0_init cX0_init 4 none d 0 0 [.ref a, .int k1, .int am1, .int fr1] ws (pW none (ws.set q0 (a, vo_E k k1 fr1 am1 am1 po ls))) := by
  refine ct_intro (by decide) (Nat.le_of_ble_eq_true rfl) ?_
  intro p e s m below meth c A L X hin hP hD hS hA hl
  have hl : lv_has L 4 [(0, .ref a), (1, .int k1), (2, .int am1), (3, .int fr1)] := hl
  obtain ⟨hx, hb, hr, hml, hown, hts, hK, hlk, hxK⟩ := id X
  refine lv_aload_n hx hb dX0_init_0 rfl (lv_at hl 0 rfl) ?_
  refine lv_iload_n hx hb dX0_init_1 rfl (lv_at hl 1 rfl) ?_
  refine lv_iload_n hx hb dX0_init_2 rfl (lv_at hl 2 rfl) ?_
  refine lv_iload_n hx hb dX0_init_3 rfl (lv_at hl 3 rfl) ?_
  refine g_ctor (As := [.int k1, .int am1, .int fr1]) (rest := []) iw_X0_1 X (c_X5_init l D tys 2 (by decide) he k1 am1 fr1) hP hD hS hA ⟨by show _ ≤ d; omega, by show _ ≤ 30 * d; omega⟩ rfl hl.1 rfl (Nat.le_of_ble_eq_true rfl) dX0_init_4 ⟨Nat.le_refl _, Nat.le_refl _⟩ (kW fun H locs hP hD hS => ?_)
  have he : (ws.set q0 (a, vo_E k k1 fr1 am1 am1 po ls))[q0]? = some (a, vo_E k k1 fr1 am1 am1 po ls) := st_same he
  refine W.eq (g2 := F0 m 7 L []) rfl ?_
  exact e_void X hP hD hS dX0_init_7 ⟨rfl, rfl⟩
set_option maxHeartbeats 4000000 in
set_option maxRecDepth 100000 in
theorem c_X6_init (l : Launch) (D : va_G) (tys : List (ClassId × FieldType)) (d : Nat) (hd : 3 ≤ d) {ws : va_W} {q0 a k : Nat} {kd fr am le po ls : Int32} (he : ws[q0]? = some (a, vo_E k kd fr am le po ls)) (k1 am1 fr1 : Int32) : Ct l D tys yX6_init cX6_init 4 none d 0 0 [.ref a, .int k1, .int am1, .int fr1] ws (pW none (ws.set q0 (a, vo_E k k1 fr1 am1 am1 po ls))) := by
  refine ct_intro (by decide) (Nat.le_of_ble_eq_true rfl) ?_
  intro p e s m below meth c A L X hin hP hD hS hA hl
  have hl : lv_has L 4 [(0, .ref a), (1, .int k1), (2, .int am1), (3, .int fr1)] := hl
  obtain ⟨hx, hb, hr, hml, hown, hts, hK, hlk, hxK⟩ := id X
  refine lv_aload_n hx hb dX6_init_0 rfl (lv_at hl 0 rfl) ?_
  refine lv_iload_n hx hb dX6_init_1 rfl (lv_at hl 1 rfl) ?_
  refine lv_iload_n hx hb dX6_init_2 rfl (lv_at hl 2 rfl) ?_
  refine lv_iload_n hx hb dX6_init_3 rfl (lv_at hl 3 rfl) ?_
  refine g_ctor (As := [.int k1, .int am1, .int fr1]) (rest := []) iw_X6_1 X (c_X2_init l D tys 2 (by decide) he k1 am1 fr1) hP hD hS hA ⟨by show _ ≤ d; omega, by show _ ≤ 30 * d; omega⟩ rfl hl.1 rfl (Nat.le_of_ble_eq_true rfl) dX6_init_4 ⟨Nat.le_refl _, Nat.le_refl _⟩ (kW fun H locs hP hD hS => ?_)
  have he : (ws.set q0 (a, vo_E k k1 fr1 am1 am1 po ls))[q0]? = some (a, vo_E k k1 fr1 am1 am1 po ls) := st_same he
  refine W.eq (g2 := F0 m 7 L []) rfl ?_
  exact e_void X hP hD hS dX6_init_7 ⟨rfl, rfl⟩
set_option maxHeartbeats 4000000 in
set_option maxRecDepth 100000 in
theorem c_X3_init (l : Launch) (D : va_G) (tys : List (ClassId × FieldType)) (d : Nat) (hd : 4 ≤ d) {ws : va_W} {q0 a k : Nat} {kd fr am le po ls : Int32} (he : ws[q0]? = some (a, vo_E k kd fr am le po ls)) (hk : 6 ≤ k) (k1 am1 fr1 : Int32) : Ct l D tys yX3_init cX3_init 4 none d 0 0 [.ref a, .int k1, .int am1, .int fr1] ws (pW none (ws.set q0 (a, vo_E k k1 fr1 am1 am1 0 ls))) := by
  refine ct_intro (by decide) (Nat.le_of_ble_eq_true rfl) ?_
  intro p e s m below meth c A L X hin hP hD hS hA hl
  have hl : lv_has L 4 [(0, .ref a), (1, .int k1), (2, .int am1), (3, .int fr1)] := hl
  obtain ⟨hx, hb, hr, hml, hown, hts, hK, hlk, hxK⟩ := id X
  refine lv_aload_n hx hb dX3_init_0 rfl (lv_at hl 0 rfl) ?_
  refine lv_iload_n hx hb dX3_init_1 rfl (lv_at hl 1 rfl) ?_
  refine lv_iload_n hx hb dX3_init_2 rfl (lv_at hl 2 rfl) ?_
  refine lv_iload_n hx hb dX3_init_3 rfl (lv_at hl 3 rfl) ?_
  refine g_ctor (As := [.int k1, .int am1, .int fr1]) (rest := []) iw_X3_1 X (c_X0_init l D tys 3 (by decide) he k1 am1 fr1) hP hD hS hA ⟨by show _ ≤ d; omega, by show _ ≤ 30 * d; omega⟩ rfl hl.1 rfl (Nat.le_of_ble_eq_true rfl) dX3_init_4 ⟨Nat.le_refl _, Nat.le_refl _⟩ (kW fun H locs hP hD hS => ?_)
  have he : (ws.set q0 (a, vo_E k k1 fr1 am1 am1 po ls))[q0]? = some (a, vo_E k k1 fr1 am1 am1 po ls) := st_same he
  refine W.eq (g2 := F0 m 7 L []) rfl ?_
  refine lv_aload_n hx hb dX3_init_7 rfl (lv_at hl 0 rfl) ?_
  refine lv_iconst (v := 0) hx hb dX3_init_8 (by decide) ?_
  refine vo_pP X hP hD hS hk he mw_147 (Or.inl rfl) dX3_init_9 (fun H locs hP hD hS => ?_)
  have he : ((ws.set q0 (a, vo_E k k1 fr1 am1 am1 po ls)).set q0 (a, vo_E k k1 fr1 am1 am1 0 ls))[q0]? = some (a, vo_E k k1 fr1 am1 am1 0 ls) := st_same he
  exact e_void X hP hD hS dX3_init_12 ⟨rfl, by simp only [List.set_set]⟩
set_option maxHeartbeats 4000000 in
set_option maxRecDepth 100000 in
theorem c_X7_init (l : Launch) (D : va_G) (tys : List (ClassId × FieldType)) (d : Nat) (hd : 4 ≤ d) {ws : va_W} {q0 a k : Nat} {kd fr am le po ls : Int32} (he : ws[q0]? = some (a, vo_E k kd fr am le po ls)) (hk : k = 3) (k1 am1 fr1 : Int32) : Ct l D tys yX7_init cX7_init 4 none d 0 0 [.ref a, .int k1, .int am1, .int fr1] ws (pW none (ws.set q0 (a, vo_E k k1 fr1 am1 am1 po (-1)))) := by
  refine ct_intro (by decide) (Nat.le_of_ble_eq_true rfl) ?_
  intro p e s m below meth c A L X hin hP hD hS hA hl
  have hl : lv_has L 4 [(0, .ref a), (1, .int k1), (2, .int am1), (3, .int fr1)] := hl
  obtain ⟨hx, hb, hr, hml, hown, hts, hK, hlk, hxK⟩ := id X
  refine lv_aload_n hx hb dX7_init_0 rfl (lv_at hl 0 rfl) ?_
  refine lv_iload_n hx hb dX7_init_1 rfl (lv_at hl 1 rfl) ?_
  refine lv_iload_n hx hb dX7_init_2 rfl (lv_at hl 2 rfl) ?_
  refine lv_iload_n hx hb dX7_init_3 rfl (lv_at hl 3 rfl) ?_
  refine g_ctor (As := [.int k1, .int am1, .int fr1]) (rest := []) iw_X7_3 X (c_X6_init l D tys 3 (by decide) he k1 am1 fr1) hP hD hS hA ⟨by show _ ≤ d; omega, by show _ ≤ 30 * d; omega⟩ rfl hl.1 rfl (Nat.le_of_ble_eq_true rfl) dX7_init_4 ⟨Nat.le_refl _, Nat.le_refl _⟩ (kW fun H locs hP hD hS => ?_)
  have he : (ws.set q0 (a, vo_E k k1 fr1 am1 am1 po ls))[q0]? = some (a, vo_E k k1 fr1 am1 am1 po ls) := st_same he
  refine W.eq (g2 := F0 m 7 L []) rfl ?_
  refine lv_aload_n hx hb dX7_init_7 rfl (lv_at hl 0 rfl) ?_
  refine lv_iconst (v := (-1)) hx hb dX7_init_8 (by decide) ?_
  refine vo_pS X hP hD hS hk he mw_111 (Or.inl rfl) dX7_init_9 (fun H locs hP hD hS => ?_)
  have he : ((ws.set q0 (a, vo_E k k1 fr1 am1 am1 po ls)).set q0 (a, vo_E k k1 fr1 am1 am1 po (-1)))[q0]? = some (a, vo_E k k1 fr1 am1 am1 po (-1)) := st_same he
  exact e_void X hP hD hS dX7_init_12 ⟨rfl, by simp only [List.set_set]⟩
set_option maxHeartbeats 4000000 in
set_option maxRecDepth 100000 in
theorem c_X1_init (l : Launch) (D : va_G) (tys : List (ClassId × FieldType)) (d : Nat) (hd : 5 ≤ d) {ws : va_W} {q0 a k : Nat} {kd fr am le po ls : Int32} (he : ws[q0]? = some (a, vo_E k kd fr am le po ls)) (hk : 6 ≤ k) (k1 am1 fr1 : Int32) : Ct l D tys yX1_init cX1_init 4 none d 0 0 [.ref a, .int k1, .int am1, .int fr1] ws (pW none (ws.set q0 (a, vo_E k k1 fr1 am1 am1 0 ls))) := by
  refine ct_intro (by decide) (Nat.le_of_ble_eq_true rfl) ?_
  intro p e s m below meth c A L X hin hP hD hS hA hl
  have hl : lv_has L 4 [(0, .ref a), (1, .int k1), (2, .int am1), (3, .int fr1)] := hl
  obtain ⟨hx, hb, hr, hml, hown, hts, hK, hlk, hxK⟩ := id X
  refine lv_aload_n hx hb dX1_init_0 rfl (lv_at hl 0 rfl) ?_
  refine lv_iload_n hx hb dX1_init_1 rfl (lv_at hl 1 rfl) ?_
  refine lv_iload_n hx hb dX1_init_2 rfl (lv_at hl 2 rfl) ?_
  refine lv_iload_n hx hb dX1_init_3 rfl (lv_at hl 3 rfl) ?_
  refine g_ctor (As := [.int k1, .int am1, .int fr1]) (rest := []) iw_X1_1 X (c_X3_init l D tys 4 (by decide) he hk k1 am1 fr1) hP hD hS hA ⟨by show _ ≤ d; omega, by show _ ≤ 30 * d; omega⟩ rfl hl.1 rfl (Nat.le_of_ble_eq_true rfl) dX1_init_4 ⟨Nat.le_refl _, Nat.le_refl _⟩ (kW fun H locs hP hD hS => ?_)
  have he : (ws.set q0 (a, vo_E k k1 fr1 am1 am1 0 ls))[q0]? = some (a, vo_E k k1 fr1 am1 am1 0 ls) := st_same he
  refine W.eq (g2 := F0 m 7 L []) rfl ?_
  exact e_void X hP hD hS dX1_init_7 ⟨rfl, rfl⟩
section DA
variable {p : Program} {l : Launch} {e : Env} {R : Room} {s : State} {m : MethodId} {args : Array Value} {below : List Frame} {meth : Method} {c : Code} {H : Heap} {locs : List Loc} {cells slots : Nat} {Q : State → Prop}
variable {pc : Nat} {L : Array Slot} {rest : List Value} {A0 : Nat → Prop} {H0 : Heap} {D : va_G} {tys : List (ClassId × FieldType)} {ws : va_W} {own : String} {cc : ByteArray} {nL idx q0 a k : Nat} {rt0 : Option FieldType} {kd fr am le po ls : Int32}
set_option maxHeartbeats 4000000 in
set_option maxRecDepth 100000 in
theorem dl_lastDay (X : Cx p m c meth s args own cc nL rt0 D tys) (hl : Cond.methodLink own idx yX6_lastDay ∈ wd_big) (hP : va_P D vwCl ws H) (hD : va_D A0 ws) (hS : va_S A0 H0 H locs) (hA : ∀ q, H0.size ≤ q → A0 q) (hk : k = 2 ∨ k = 3) (he : ws[q0]? = some (a, vo_E k kd fr am le po ls)) (hR : 1 ≤ R.frames ∧ 30 ≤ R.locals) (hsize : L.size = nL) (hW : (rest.map fun v => v.category).sum ≤ 8) (hdg : decode cc pc = .ok (.invokevirtual idx, 3)) (hf : cells ≤ R.cells ∧ slots ≤ R.slots)
    (kk : ∀ (H1 : Heap) (locs1 : List Loc), va_P D vwCl ws H1 → va_D A0 ws → va_S A0 H0 H1 locs1 → W p l e R s m args below meth c H1 locs1 cells slots Q (F0 m (pc + 3) L (.int (vLast k fr) :: rest))) : W p l e R s m args below meth c H locs cells slots Q (F0 m pc L (.ref a :: rest)) := by
  match k, hk, he, kk with
  | 0, hk, _, _ => exact absurd hk (by omega)
  | 1, hk, _, _ => exact absurd hk (by omega)
  | 2, _, he, kk => exact g_virt (n := 0) (As := []) (rest := rest) (ci := 6) (cq := (RX6, TX6, 4)) ⟨hl, mw_207, mw_205, mw_206, mw_205, mw_5, mw_211, ⟨_, _, _, mw_211⟩, by decide +kernel⟩ X (c_X6_lastDay l D tys 0 (by decide) he) hP hD hS hA he rfl rfl ⟨hR.1, Nat.le_trans (by decide) hR.2⟩ rfl hsize rfl hW hdg hf (kI kk)
  | 3, _, he, kk => exact g_virt (n := 0) (As := []) (rest := rest) (ci := 7) (cq := (RX7, TX7, 5)) ⟨hl, mw_207, mw_205, mw_208, mw_209, mw_6, mw_210, ⟨_, _, _, mw_211⟩, by decide +kernel⟩ X (c_X7_lastDay l D tys 0 (by decide) he) hP hD hS hA he rfl rfl ⟨hR.1, Nat.le_trans (by decide) hR.2⟩ rfl hsize rfl hW hdg hf (kI kk)
  | 4, hk, _, _ => exact absurd hk (by omega)
  | 5, hk, _, _ => exact absurd hk (by omega)
  | 6, hk, _, _ => exact absurd hk (by omega)
  | n + 7, hk, _, _ => exact absurd hk (by omega)
set_option maxHeartbeats 4000000 in
set_option maxRecDepth 100000 in
theorem dv_lastDay (X : Cx p m c meth s args own cc nL rt0 D tys) (hl : Cond.methodLink own idx yX4_lastDay ∈ wd_big) (hP : va_P D vwCl ws H) (hD : va_D A0 ws) (hS : va_S A0 H0 H locs) (hA : ∀ q, H0.size ≤ q → A0 q) (he : ws[q0]? = some (a, vo_E k kd fr am le po ls)) (hR : 1 ≤ R.frames ∧ 30 ≤ R.locals) (hsize : L.size = nL) (hW : (rest.map fun v => v.category).sum ≤ 8) (hdg : decode cc pc = .ok (.invokevirtual idx, 3)) (hf : cells ≤ R.cells ∧ slots ≤ R.slots)
    (kk : ∀ (H1 : Heap) (locs1 : List Loc), va_P D vwCl ws H1 → va_D A0 ws → va_S A0 H0 H1 locs1 → W p l e R s m args below meth c H1 locs1 cells slots Q (F0 m (pc + 3) L (.int (vLast k fr) :: rest))) : W p l e R s m args below meth c H locs cells slots Q (F0 m pc L (.ref a :: rest)) := by
  match k, he, kk with
  | 0, he, kk => exact g_virt (n := 0) (As := []) (rest := rest) (ci := 4) (cq := (RX4, TX4, 4)) ⟨hl, mw_426, mw_424, mw_425, mw_424, mw_3, mw_434, ⟨_, _, _, mw_434⟩, by decide +kernel⟩ X (c_X4_lastDay l D tys 0 (by decide) he) hP hD hS hA he rfl rfl ⟨hR.1, Nat.le_trans (by decide) hR.2⟩ rfl hsize rfl hW hdg hf (kI kk)
  | 1, he, kk => exact g_virt (n := 0) (As := []) (rest := rest) (ci := 2) (cq := (RX2, TX2, 4)) ⟨hl, mw_426, mw_424, mw_429, mw_424, mw_3, mw_434, ⟨_, _, _, mw_434⟩, by decide +kernel⟩ X (c_X4_lastDay l D tys 0 (by decide) he) hP hD hS hA he rfl rfl ⟨hR.1, Nat.le_trans (by decide) hR.2⟩ rfl hsize rfl hW hdg hf (kI kk)
  | 2, he, kk => exact g_virt (n := 0) (As := []) (rest := rest) (ci := 6) (cq := (RX6, TX6, 4)) ⟨hl, mw_426, mw_424, mw_432, mw_205, mw_5, mw_211, ⟨_, _, _, mw_434⟩, by decide +kernel⟩ X (c_X6_lastDay l D tys 0 (by decide) he) hP hD hS hA he rfl rfl ⟨hR.1, Nat.le_trans (by decide) hR.2⟩ rfl hsize rfl hW hdg hf (kI kk)
  | 3, he, kk => exact g_virt (n := 0) (As := []) (rest := rest) (ci := 7) (cq := (RX7, TX7, 5)) ⟨hl, mw_426, mw_424, mw_433, mw_209, mw_6, mw_210, ⟨_, _, _, mw_434⟩, by decide +kernel⟩ X (c_X7_lastDay l D tys 0 (by decide) he) hP hD hS hA he rfl rfl ⟨hR.1, Nat.le_trans (by decide) hR.2⟩ rfl hsize rfl hW hdg hf (kI kk)
  | 4, he, kk => exact g_virt (n := 0) (As := []) (rest := rest) (ci := 5) (cq := (RX5, TX5, 4)) ⟨hl, mw_426, mw_424, mw_431, mw_424, mw_3, mw_434, ⟨_, _, _, mw_434⟩, by decide +kernel⟩ X (c_X4_lastDay l D tys 0 (by decide) he) hP hD hS hA he rfl rfl ⟨hR.1, Nat.le_trans (by decide) hR.2⟩ rfl hsize rfl hW hdg hf (kI kk)
  | 5, he, kk => exact g_virt (n := 0) (As := []) (rest := rest) (ci := 0) (cq := (RX0, TX0, 4)) ⟨hl, mw_426, mw_424, mw_427, mw_424, mw_3, mw_434, ⟨_, _, _, mw_434⟩, by decide +kernel⟩ X (c_X4_lastDay l D tys 0 (by decide) he) hP hD hS hA he rfl rfl ⟨hR.1, Nat.le_trans (by decide) hR.2⟩ rfl hsize rfl hW hdg hf (kI kk)
  | 6, he, kk => exact g_virt (n := 0) (As := []) (rest := rest) (ci := 3) (cq := (RX3, TX3, 5)) ⟨hl, mw_426, mw_424, mw_430, mw_424, mw_3, mw_434, ⟨_, _, _, mw_434⟩, by decide +kernel⟩ X (c_X4_lastDay l D tys 0 (by decide) he) hP hD hS hA he rfl rfl ⟨hR.1, Nat.le_trans (by decide) hR.2⟩ rfl hsize rfl hW hdg hf (kI kk)
  | n + 7, he, kk => exact g_virt (n := 0) (As := []) (rest := rest) (ci := 1) (cq := (RX1, TX1, 5)) ⟨hl, mw_426, mw_424, mw_428, mw_424, mw_3, mw_434, ⟨_, _, _, mw_434⟩, by decide +kernel⟩ X (c_X4_lastDay l D tys 0 (by decide) he) hP hD hS hA he rfl rfl ⟨hR.1, Nat.le_trans (by decide) hR.2⟩ rfl hsize rfl hW hdg hf (kI kk)
set_option maxHeartbeats 4000000 in
set_option maxRecDepth 100000 in
theorem dv_pointsNow (X : Cx p m c meth s args own cc nL rt0 D tys) (hl : Cond.methodLink own idx yX4_pointsNow ∈ wd_big) (hP : va_P D vwCl ws H) (hD : va_D A0 ws) (hS : va_S A0 H0 H locs) (hA : ∀ q, H0.size ≤ q → A0 q) (he : ws[q0]? = some (a, vo_E k kd fr am le po ls)) (hR : 1 ≤ R.frames ∧ 30 ≤ R.locals) (hsize : L.size = nL) (hW : (rest.map fun v => v.category).sum ≤ 8) (hdg : decode cc pc = .ok (.invokevirtual idx, 3)) (hf : cells ≤ R.cells ∧ slots ≤ R.slots)
    (kk : ∀ (H1 : Heap) (locs1 : List Loc), va_P D vwCl ws H1 → va_D A0 ws → va_S A0 H0 H1 locs1 → W p l e R s m args below meth c H1 locs1 cells slots Q (F0 m (pc + 3) L (.int (vPts k po) :: rest))) : W p l e R s m args below meth c H locs cells slots Q (F0 m pc L (.ref a :: rest)) := by
  match k, he, kk with
  | 0, he, kk => exact g_virt (n := 0) (As := []) (rest := rest) (ci := 4) (cq := (RX4, TX4, 4)) ⟨hl, mw_378, mw_376, mw_377, mw_376, mw_3, mw_388, ⟨_, _, _, mw_388⟩, by decide +kernel⟩ X (c_X4_pointsNow l D tys 0 (by decide) he) hP hD hS hA he rfl rfl ⟨hR.1, Nat.le_trans (by decide) hR.2⟩ rfl hsize rfl hW hdg hf (kI kk)
  | 1, he, kk => exact g_virt (n := 0) (As := []) (rest := rest) (ci := 2) (cq := (RX2, TX2, 4)) ⟨hl, mw_378, mw_376, mw_383, mw_376, mw_3, mw_388, ⟨_, _, _, mw_388⟩, by decide +kernel⟩ X (c_X4_pointsNow l D tys 0 (by decide) he) hP hD hS hA he rfl rfl ⟨hR.1, Nat.le_trans (by decide) hR.2⟩ rfl hsize rfl hW hdg hf (kI kk)
  | 2, he, kk => exact g_virt (n := 0) (As := []) (rest := rest) (ci := 6) (cq := (RX6, TX6, 4)) ⟨hl, mw_378, mw_376, mw_386, mw_376, mw_3, mw_388, ⟨_, _, _, mw_388⟩, by decide +kernel⟩ X (c_X4_pointsNow l D tys 0 (by decide) he) hP hD hS hA he rfl rfl ⟨hR.1, Nat.le_trans (by decide) hR.2⟩ rfl hsize rfl hW hdg hf (kI kk)
  | 3, he, kk => exact g_virt (n := 0) (As := []) (rest := rest) (ci := 7) (cq := (RX7, TX7, 5)) ⟨hl, mw_378, mw_376, mw_387, mw_376, mw_3, mw_388, ⟨_, _, _, mw_388⟩, by decide +kernel⟩ X (c_X4_pointsNow l D tys 0 (by decide) he) hP hD hS hA he rfl rfl ⟨hR.1, Nat.le_trans (by decide) hR.2⟩ rfl hsize rfl hW hdg hf (kI kk)
  | 4, he, kk => exact g_virt (n := 0) (As := []) (rest := rest) (ci := 5) (cq := (RX5, TX5, 4)) ⟨hl, mw_378, mw_376, mw_385, mw_376, mw_3, mw_388, ⟨_, _, _, mw_388⟩, by decide +kernel⟩ X (c_X4_pointsNow l D tys 0 (by decide) he) hP hD hS hA he rfl rfl ⟨hR.1, Nat.le_trans (by decide) hR.2⟩ rfl hsize rfl hW hdg hf (kI kk)
  | 5, he, kk => exact g_virt (n := 0) (As := []) (rest := rest) (ci := 0) (cq := (RX0, TX0, 4)) ⟨hl, mw_378, mw_376, mw_379, mw_376, mw_3, mw_388, ⟨_, _, _, mw_388⟩, by decide +kernel⟩ X (c_X4_pointsNow l D tys 0 (by decide) he) hP hD hS hA he rfl rfl ⟨hR.1, Nat.le_trans (by decide) hR.2⟩ rfl hsize rfl hW hdg hf (kI kk)
  | 6, he, kk => exact g_virt (n := 0) (As := []) (rest := rest) (ci := 3) (cq := (RX3, TX3, 5)) ⟨hl, mw_378, mw_376, mw_384, mw_381, mw_9, mw_382, ⟨_, _, _, mw_388⟩, by decide +kernel⟩ X (c_X3_pointsNow l D tys 0 (by decide) he (by omega)) hP hD hS hA he rfl rfl ⟨hR.1, Nat.le_trans (by decide) hR.2⟩ rfl hsize rfl hW hdg hf (kI kk)
  | n + 7, he, kk => exact g_virt (n := 0) (As := []) (rest := rest) (ci := 1) (cq := (RX1, TX1, 5)) ⟨hl, mw_378, mw_376, mw_380, mw_381, mw_9, mw_382, ⟨_, _, _, mw_388⟩, by decide +kernel⟩ X (c_X3_pointsNow l D tys 0 (by decide) he (by omega)) hP hD hS hA he rfl rfl ⟨hR.1, Nat.le_trans (by decide) hR.2⟩ rfl hsize rfl hW hdg hf (kI kk)
set_option maxHeartbeats 4000000 in
set_option maxRecDepth 100000 in
theorem dv_lastSpent (X : Cx p m c meth s args own cc nL rt0 D tys) (hl : Cond.methodLink own idx yX4_lastSpent ∈ wd_big) (hP : va_P D vwCl ws H) (hD : va_D A0 ws) (hS : va_S A0 H0 H locs) (hA : ∀ q, H0.size ≤ q → A0 q) (he : ws[q0]? = some (a, vo_E k kd fr am le po ls)) (hR : 1 ≤ R.frames ∧ 30 ≤ R.locals) (hsize : L.size = nL) (hW : (rest.map fun v => v.category).sum ≤ 8) (hdg : decode cc pc = .ok (.invokevirtual idx, 3)) (hf : cells ≤ R.cells ∧ slots ≤ R.slots)
    (kk : ∀ (H1 : Heap) (locs1 : List Loc), va_P D vwCl ws H1 → va_D A0 ws → va_S A0 H0 H1 locs1 → W p l e R s m args below meth c H1 locs1 cells slots Q (F0 m (pc + 3) L (.int (vLS k ls) :: rest))) : W p l e R s m args below meth c H locs cells slots Q (F0 m pc L (.ref a :: rest)) := by
  match k, he, kk with
  | 0, he, kk => exact g_virt (n := 0) (As := []) (rest := rest) (ci := 4) (cq := (RX4, TX4, 4)) ⟨hl, mw_401, mw_399, mw_400, mw_399, mw_3, mw_411, ⟨_, _, _, mw_411⟩, by decide +kernel⟩ X (c_X4_lastSpent l D tys 0 (by decide) he) hP hD hS hA he rfl rfl ⟨hR.1, Nat.le_trans (by decide) hR.2⟩ rfl hsize rfl hW hdg hf (kI kk)
  | 1, he, kk => exact g_virt (n := 0) (As := []) (rest := rest) (ci := 2) (cq := (RX2, TX2, 4)) ⟨hl, mw_401, mw_399, mw_404, mw_399, mw_3, mw_411, ⟨_, _, _, mw_411⟩, by decide +kernel⟩ X (c_X4_lastSpent l D tys 0 (by decide) he) hP hD hS hA he rfl rfl ⟨hR.1, Nat.le_trans (by decide) hR.2⟩ rfl hsize rfl hW hdg hf (kI kk)
  | 2, he, kk => exact g_virt (n := 0) (As := []) (rest := rest) (ci := 6) (cq := (RX6, TX6, 4)) ⟨hl, mw_401, mw_399, mw_407, mw_399, mw_3, mw_411, ⟨_, _, _, mw_411⟩, by decide +kernel⟩ X (c_X4_lastSpent l D tys 0 (by decide) he) hP hD hS hA he rfl rfl ⟨hR.1, Nat.le_trans (by decide) hR.2⟩ rfl hsize rfl hW hdg hf (kI kk)
  | 3, he, kk => exact g_virt (n := 0) (As := []) (rest := rest) (ci := 7) (cq := (RX7, TX7, 5)) ⟨hl, mw_401, mw_399, mw_408, mw_409, mw_6, mw_410, ⟨_, _, _, mw_411⟩, by decide +kernel⟩ X (c_X7_lastSpent l D tys 0 (by decide) he rfl) hP hD hS hA he rfl rfl ⟨hR.1, Nat.le_trans (by decide) hR.2⟩ rfl hsize rfl hW hdg hf (kI kk)
  | 4, he, kk => exact g_virt (n := 0) (As := []) (rest := rest) (ci := 5) (cq := (RX5, TX5, 4)) ⟨hl, mw_401, mw_399, mw_406, mw_399, mw_3, mw_411, ⟨_, _, _, mw_411⟩, by decide +kernel⟩ X (c_X4_lastSpent l D tys 0 (by decide) he) hP hD hS hA he rfl rfl ⟨hR.1, Nat.le_trans (by decide) hR.2⟩ rfl hsize rfl hW hdg hf (kI kk)
  | 5, he, kk => exact g_virt (n := 0) (As := []) (rest := rest) (ci := 0) (cq := (RX0, TX0, 4)) ⟨hl, mw_401, mw_399, mw_402, mw_399, mw_3, mw_411, ⟨_, _, _, mw_411⟩, by decide +kernel⟩ X (c_X4_lastSpent l D tys 0 (by decide) he) hP hD hS hA he rfl rfl ⟨hR.1, Nat.le_trans (by decide) hR.2⟩ rfl hsize rfl hW hdg hf (kI kk)
  | 6, he, kk => exact g_virt (n := 0) (As := []) (rest := rest) (ci := 3) (cq := (RX3, TX3, 5)) ⟨hl, mw_401, mw_399, mw_405, mw_399, mw_3, mw_411, ⟨_, _, _, mw_411⟩, by decide +kernel⟩ X (c_X4_lastSpent l D tys 0 (by decide) he) hP hD hS hA he rfl rfl ⟨hR.1, Nat.le_trans (by decide) hR.2⟩ rfl hsize rfl hW hdg hf (kI kk)
  | n + 7, he, kk => exact g_virt (n := 0) (As := []) (rest := rest) (ci := 1) (cq := (RX1, TX1, 5)) ⟨hl, mw_401, mw_399, mw_403, mw_399, mw_3, mw_411, ⟨_, _, _, mw_411⟩, by decide +kernel⟩ X (c_X4_lastSpent l D tys 0 (by decide) he) hP hD hS hA he rfl rfl ⟨hR.1, Nat.le_trans (by decide) hR.2⟩ rfl hsize rfl hW hdg hf (kI kk)
end DA
end
section
set_option maxHeartbeats 4000000 in
set_option maxRecDepth 100000 in
theorem c_X6_valueOn (l : Launch) (D : va_G) (tys : List (ClassId × FieldType)) (d : Nat) (hd : 1 ≤ d) {ws : va_W} {q0 a k : Nat} {kd fr am le po ls : Int32} (he : ws[q0]? = some (a, vo_E k kd fr am le po ls)) (hk : k = 2 ∨ k = 3) (day : Int32) : Ct l D tys yX6_valueOn cX6_valueOn 2 (some .int) d 0 0 [.ref a, .int day] ws (pI ws (vSea k fr le day)) := by
  refine ct_intro (by decide) (Nat.le_of_ble_eq_true rfl) ?_
  intro p e s m below meth c A L X hin hP hD hS hA hl
  have hl : lv_has L 2 [(0, .ref a), (1, .int day)] := hl
  obtain ⟨hx, hb, hr, hml, hown, hts, hK, hlk, hxK⟩ := id X
  refine lv_iload_n hx hb dX6_valueOn_0 rfl (lv_at hl 1 rfl) ?_
  refine lv_aload_n hx hb dX6_valueOn_1 rfl (lv_at hl 0 rfl) ?_
  refine dl_lastDay (rest := [.int day]) X mw_204 hP hD hS hA hk he ⟨by show _ ≤ d; omega, by show _ ≤ 30 * d; omega⟩ hl.1 (Nat.le_of_ble_eq_true rfl) dX6_valueOn_2 ⟨Nat.le_refl _, Nat.le_refl _⟩ (fun H locs hP hD hS => ?_)
  refine lv_icmp_le (tgt := 12) hx hb dX6_valueOn_5 (by decide) (fun c_5 => ?_) (fun c_5 => ?_)
  · -- c_5 True
    refine lv_aload_n hx hb dX6_valueOn_12 rfl (lv_at hl 0 rfl) ?_
    refine lv_iload_n hx hb dX6_valueOn_13 rfl (lv_at hl 1 rfl) ?_
    obtain ⟨ci_14, fs_14, cq_14, e1_14, e2_14⟩ := vo_rec k kd fr am le po ls
    have er_14 := he
    rw [e1_14] at er_14
    refine g_super (As := [.int day]) (rest := []) uw_X6_17 X (c_X4_valueOn l D tys 0 (by decide) he day) hP hD hS hA er_14 e2_14 ⟨by show _ ≤ d; omega, by show _ ≤ 30 * d; omega⟩ rfl hl.1 rfl (Nat.le_of_ble_eq_true rfl) dX6_valueOn_14 ⟨Nat.le_refl _, Nat.le_refl _⟩ (kI fun H locs hP hD hS => ?_)
    refine W.eq (g2 := F0 m 17 L [.int le]) rfl ?_
    exact e_int X hP hD hS dX6_valueOn_17 ⟨by simp only [vSea, if_pos c_5], rfl⟩
  · -- c_5 False
    refine lv_iconst (v := 0) hx hb dX6_valueOn_8 (by decide) ?_
    refine lv_goto (tgt := 17) hx hb dX6_valueOn_9 (by decide) ?_
    exact e_int X hP hD hS dX6_valueOn_17 ⟨by simp only [vSea, if_neg c_5], rfl⟩
set_option maxHeartbeats 4000000 in
set_option maxRecDepth 100000 in
theorem c_X6_sealNow (l : Launch) (D : va_G) (tys : List (ClassId × FieldType)) (d : Nat) (hd : 1 ≤ d) {ws : va_W} {q0 a k : Nat} {kd fr am le po ls : Int32} (he : ws[q0]? = some (a, vo_E k kd fr am le po ls)) (hk : k = 2 ∨ k = 3) : Ct l D tys yX6_sealNow cX6_sealNow 1 (some .int) d 0 0 [.ref a] ws (pI ws (vBase fr am le + vLast k fr)) := by
  refine ct_intro (by decide) (Nat.le_of_ble_eq_true rfl) ?_
  intro p e s m below meth c A L X hin hP hD hS hA hl
  have hl : lv_has L 1 [(0, .ref a)] := hl
  obtain ⟨hx, hb, hr, hml, hown, hts, hK, hlk, hxK⟩ := id X
  refine lv_aload_n hx hb dX6_sealNow_0 rfl (lv_at hl 0 rfl) ?_
  obtain ⟨ci_1, fs_1, cq_1, e1_1, e2_1⟩ := vo_rec k kd fr am le po ls
  have er_1 := he
  rw [e1_1] at er_1
  refine g_super (As := []) (rest := []) uw_X6_21 X (c_X4_sealNow l D tys 0 (by decide) he) hP hD hS hA er_1 e2_1 ⟨by show _ ≤ d; omega, by show _ ≤ 30 * d; omega⟩ rfl hl.1 rfl (Nat.le_of_ble_eq_true rfl) dX6_sealNow_1 ⟨Nat.le_refl _, Nat.le_refl _⟩ (kI fun H locs hP hD hS => ?_)
  refine W.eq (g2 := F0 m 4 L [.int (vBase fr am le)]) rfl ?_
  refine lv_aload_n hx hb dX6_sealNow_4 rfl (lv_at hl 0 rfl) ?_
  refine dl_lastDay (rest := [.int (vBase fr am le)]) X mw_204 hP hD hS hA hk he ⟨by show _ ≤ d; omega, by show _ ≤ 30 * d; omega⟩ hl.1 (Nat.le_of_ble_eq_true rfl) dX6_sealNow_5 ⟨Nat.le_refl _, Nat.le_refl _⟩ (fun H locs hP hD hS => ?_)
  refine lv_iadd hx hb dX6_sealNow_8 ?_
  exact e_int X hP hD hS dX6_sealNow_9 ⟨rfl, rfl⟩
set_option maxHeartbeats 4000000 in
set_option maxRecDepth 100000 in
theorem c_X6_daysLeftOn (l : Launch) (D : va_G) (tys : List (ClassId × FieldType)) (d : Nat) (hd : 1 ≤ d) {ws : va_W} {q0 a k : Nat} {kd fr am le po ls : Int32} (he : ws[q0]? = some (a, vo_E k kd fr am le po ls)) (hk : k = 2 ∨ k = 3) (day : Int32) : Ct l D tys yX6_daysLeftOn cX6_daysLeftOn 2 (some .int) d 0 0 [.ref a, .int day] ws (pI ws (if 0 < vLast k fr - day then vLast k fr - day else 0)) := by
  refine ct_intro (by decide) (Nat.le_of_ble_eq_true rfl) ?_
  intro p e s m below meth c A L X hin hP hD hS hA hl
  have hl : lv_has L 2 [(0, .ref a), (1, .int day)] := hl
  obtain ⟨hx, hb, hr, hml, hown, hts, hK, hlk, hxK⟩ := id X
  refine lv_iconst (v := 0) hx hb dX6_daysLeftOn_0 (by decide) ?_
  refine lv_aload_n hx hb dX6_daysLeftOn_1 rfl (lv_at hl 0 rfl) ?_
  refine dl_lastDay (rest := [.int 0]) X mw_204 hP hD hS hA hk he ⟨by show _ ≤ d; omega, by show _ ≤ 30 * d; omega⟩ hl.1 (Nat.le_of_ble_eq_true rfl) dX6_daysLeftOn_2 ⟨Nat.le_refl _, Nat.le_refl _⟩ (fun H locs hP hD hS => ?_)
  refine lv_iload_n hx hb dX6_daysLeftOn_5 rfl (lv_at hl 1 rfl) ?_
  refine lv_isub hx hb dX6_daysLeftOn_6 ?_
  refine va_mmax hx hb (hml.trans hl.1.symm) hown (hts _ mw_339) (hts _ mw_236) (hts _ mw_11) (hts _ mw_237) (by show _ ≤ d; omega) (by show _ ≤ 30 * d; simp [Value.category]; omega) (Nat.le_refl _) (Nat.le_refl _) dX6_daysLeftOn_7 ?_
  exact e_int X hP hD hS dX6_daysLeftOn_10 ⟨rfl, rfl⟩
set_option maxHeartbeats 4000000 in
set_option maxRecDepth 100000 in
theorem c_X6_lapseOn (l : Launch) (D : va_G) (tys : List (ClassId × FieldType)) (d : Nat) (hd : 1 ≤ d) {ws : va_W} {q0 a k : Nat} {kd fr am le po ls : Int32} (he : ws[q0]? = some (a, vo_E k kd fr am le po ls)) (hk : k = 2 ∨ k = 3) (day : Int32) : Ct l D tys yX6_lapseOn cX6_lapseOn 3 (some .int) d 0 0 [.ref a, .int day] ws (pW (some (.int (if vLast k fr < day then le else 0))) (ws.set q0 (a, vo_E k kd fr am (if vLast k fr < day then 0 else le) po ls))) := by
  refine ct_intro (by decide) (Nat.le_of_ble_eq_true rfl) ?_
  intro p e s m below meth c A L X hin hP hD hS hA hl
  have hl : lv_has L 3 [(0, .ref a), (1, .int day)] := hl
  obtain ⟨hx, hb, hr, hml, hown, hts, hK, hlk, hxK⟩ := id X
  refine lv_aload_n hx hb dX6_lapseOn_0 rfl (lv_at hl 0 rfl) ?_
  refine dl_lastDay (rest := []) X mw_204 hP hD hS hA hk he ⟨by show _ ≤ d; omega, by show _ ≤ 30 * d; omega⟩ hl.1 (Nat.le_of_ble_eq_true rfl) dX6_lapseOn_1 ⟨Nat.le_refl _, Nat.le_refl _⟩ (fun H locs hP hD hS => ?_)
  refine lv_iload_n hx hb dX6_lapseOn_4 rfl (lv_at hl 1 rfl) ?_
  refine lv_icmp_lt (tgt := 10) hx hb dX6_lapseOn_5 (by decide) (fun c_5 => ?_) (fun c_5 => ?_)
  · -- c_5 True
    refine lv_aload_n hx hb dX6_lapseOn_10 rfl (lv_at hl 0 rfl) ?_
    refine vo_gL X hP he mw_71 (Or.inr mw_72) dX6_lapseOn_11 ?_
    refine lv_istore_n (lv' := [(2, .int le), (0, .ref a), (1, .int day)]) hx hb dX6_lapseOn_14 rfl hl (by decide) rfl (fun L hl => ?_)
    refine lv_aload_n hx hb dX6_lapseOn_15 rfl (lv_at hl 1 rfl) ?_
    refine lv_iconst (v := 0) hx hb dX6_lapseOn_16 (by decide) ?_
    refine vo_pL X hP hD hS he mw_71 (Or.inr mw_72) dX6_lapseOn_17 (fun H locs hP hD hS => ?_)
    have he : (ws.set q0 (a, vo_E k kd fr am 0 po ls))[q0]? = some (a, vo_E k kd fr am 0 po ls) := st_same he
    refine lv_iload_n hx hb dX6_lapseOn_20 rfl (lv_at hl 0 rfl) ?_
    exact e_int X hP hD hS dX6_lapseOn_21 ⟨by simp only [if_pos c_5], by simp only [if_pos c_5]⟩
  · -- c_5 False
    refine lv_iconst (v := 0) hx hb dX6_lapseOn_8 (by decide) ?_
    exact e_int X hP hD hS dX6_lapseOn_9 ⟨by simp only [if_neg c_5], by simp only [if_neg c_5]; exact (st_self he).symm⟩
set_option maxHeartbeats 4000000 in
set_option maxRecDepth 100000 in
theorem c_X7_valueOn (l : Launch) (D : va_G) (tys : List (ClassId × FieldType)) (d : Nat) (hd : 2 ≤ d) {ws : va_W} {q0 a k : Nat} {kd fr am le po ls : Int32} (he : ws[q0]? = some (a, vo_E k kd fr am le po ls)) (hk : k = 3) (day : Int32) : Ct l D tys yX7_valueOn cX7_valueOn 3 (some .int) d 0 0 [.ref a, .int day] ws (pI ws (vSea k fr le day - vSea k fr le day / 10)) := by
  refine ct_intro (by decide) (Nat.le_of_ble_eq_true rfl) ?_
  intro p e s m below meth c A L X hin hP hD hS hA hl
  have hl : lv_has L 3 [(0, .ref a), (1, .int day)] := hl
  obtain ⟨hx, hb, hr, hml, hown, hts, hK, hlk, hxK⟩ := id X
  refine lv_aload_n hx hb dX7_valueOn_0 rfl (lv_at hl 0 rfl) ?_
  refine lv_iload_n hx hb dX7_valueOn_1 rfl (lv_at hl 1 rfl) ?_
  obtain ⟨ci_2, fs_2, cq_2, e1_2, e2_2⟩ := vo_rec k kd fr am le po ls
  have er_2 := he
  rw [e1_2] at er_2
  refine g_super (As := [.int day]) (rest := []) uw_X7_20 X (c_X6_valueOn l D tys 1 (by decide) he (Or.inr hk) day) hP hD hS hA er_2 e2_2 ⟨by show _ ≤ d; omega, by show _ ≤ 30 * d; omega⟩ rfl hl.1 rfl (Nat.le_of_ble_eq_true rfl) dX7_valueOn_2 ⟨Nat.le_refl _, Nat.le_refl _⟩ (kI fun H locs hP hD hS => ?_)
  refine W.eq (g2 := F0 m 5 L [.int (vSea k fr le day)]) rfl ?_
  refine lv_istore_n (lv' := [(2, .int (vSea k fr le day)), (0, .ref a), (1, .int day)]) hx hb dX7_valueOn_5 rfl hl (by decide) rfl (fun L hl => ?_)
  refine lv_iload_n hx hb dX7_valueOn_6 rfl (lv_at hl 0 rfl) ?_
  refine lv_iload_n hx hb dX7_valueOn_7 rfl (lv_at hl 0 rfl) ?_
  refine lv_bipush (v := 10) hx hb dX7_valueOn_8 (by decide) ?_
  refine lv_idiv hx hb dX7_valueOn_10 (by decide) ?_
  refine lv_isub hx hb dX7_valueOn_11 ?_
  exact e_int X hP hD hS dX7_valueOn_12 ⟨rfl, rfl⟩
set_option maxHeartbeats 4000000 in
set_option maxRecDepth 100000 in
theorem c_X7_feeOf (l : Launch) (D : va_G) (tys : List (ClassId × FieldType)) (d : Nat) (hd : 1 ≤ d) {ws : va_W} {q0 a k : Nat} {kd fr am le po ls : Int32} (he : ws[q0]? = some (a, vo_E k kd fr am le po ls)) (g : Int32) : Ct l D tys yX7_feeOf cX7_feeOf 2 (some .int) d 0 0 [.ref a, .int g] ws (pI ws ((g / 50 + 1) / 2)) := by
  refine ct_intro (by decide) (Nat.le_of_ble_eq_true rfl) ?_
  intro p e s m below meth c A L X hin hP hD hS hA hl
  have hl : lv_has L 2 [(0, .ref a), (1, .int g)] := hl
  obtain ⟨hx, hb, hr, hml, hown, hts, hK, hlk, hxK⟩ := id X
  refine lv_aload_n hx hb dX7_feeOf_0 rfl (lv_at hl 0 rfl) ?_
  refine lv_iload_n hx hb dX7_feeOf_1 rfl (lv_at hl 1 rfl) ?_
  obtain ⟨ci_2, fs_2, cq_2, e1_2, e2_2⟩ := vo_rec k kd fr am le po ls
  have er_2 := he
  rw [e1_2] at er_2
  refine g_super (As := [.int g]) (rest := []) uw_X7_24 X (c_X4_feeOf l D tys 0 (by decide) he g) hP hD hS hA er_2 e2_2 ⟨by show _ ≤ d; omega, by show _ ≤ 30 * d; omega⟩ rfl hl.1 rfl (Nat.le_of_ble_eq_true rfl) dX7_feeOf_2 ⟨Nat.le_refl _, Nat.le_refl _⟩ (kI fun H locs hP hD hS => ?_)
  refine W.eq (g2 := F0 m 5 L [.int (g / 50 + 1)]) rfl ?_
  refine lv_iconst (v := 2) hx hb dX7_feeOf_5 (by decide) ?_
  refine lv_idiv hx hb dX7_feeOf_6 (by decide) ?_
  exact e_int X hP hD hS dX7_feeOf_7 ⟨rfl, rfl⟩
set_option maxHeartbeats 4000000 in
set_option maxRecDepth 100000 in
theorem c_X5_valueOn (l : Launch) (D : va_G) (tys : List (ClassId × FieldType)) (d : Nat) (hd : 1 ≤ d) {ws : va_W} {q0 a k : Nat} {kd fr am le po ls : Int32} (he : ws[q0]? = some (a, vo_E k kd fr am le po ls)) (day : Int32) : Ct l D tys yX5_valueOn cX5_valueOn 3 (some .int) d 0 0 [.ref a, .int day] ws (pI ws (vRnd le)) := by
  refine ct_intro (by decide) (Nat.le_of_ble_eq_true rfl) ?_
  intro p e s m below meth c A L X hin hP hD hS hA hl
  have hl : lv_has L 3 [(0, .ref a), (1, .int day)] := hl
  obtain ⟨hx, hb, hr, hml, hown, hts, hK, hlk, hxK⟩ := id X
  refine lv_aload_n hx hb dX5_valueOn_0 rfl (lv_at hl 0 rfl) ?_
  refine lv_iload_n hx hb dX5_valueOn_1 rfl (lv_at hl 1 rfl) ?_
  obtain ⟨ci_2, fs_2, cq_2, e1_2, e2_2⟩ := vo_rec k kd fr am le po ls
  have er_2 := he
  rw [e1_2] at er_2
  refine g_super (As := [.int day]) (rest := []) uw_X5_7 X (c_X4_valueOn l D tys 0 (by decide) he day) hP hD hS hA er_2 e2_2 ⟨by show _ ≤ d; omega, by show _ ≤ 30 * d; omega⟩ rfl hl.1 rfl (Nat.le_of_ble_eq_true rfl) dX5_valueOn_2 ⟨Nat.le_refl _, Nat.le_refl _⟩ (kI fun H locs hP hD hS => ?_)
  refine W.eq (g2 := F0 m 5 L [.int le]) rfl ?_
  refine lv_istore_n (lv' := [(2, .int le), (0, .ref a), (1, .int day)]) hx hb dX5_valueOn_5 rfl hl (by decide) rfl (fun L hl => ?_)
  refine lv_iload_n hx hb dX5_valueOn_6 rfl (lv_at hl 0 rfl) ?_
  refine lv_iload_n hx hb dX5_valueOn_7 rfl (lv_at hl 0 rfl) ?_
  refine lv_bipush (v := 10) hx hb dX5_valueOn_8 (by decide) ?_
  refine lv_irem hx hb dX5_valueOn_10 (by decide) ?_
  refine lv_isub hx hb dX5_valueOn_11 ?_
  exact e_int X hP hD hS dX5_valueOn_12 ⟨rfl, rfl⟩
set_option maxHeartbeats 4000000 in
set_option maxRecDepth 100000 in
theorem c_X3_valueOn (l : Launch) (D : va_G) (tys : List (ClassId × FieldType)) (d : Nat) (hd : 2 ≤ d) {ws : va_W} {q0 a k : Nat} {kd fr am le po ls : Int32} (he : ws[q0]? = some (a, vo_E k kd fr am le po ls)) (hk : 6 ≤ k) (day : Int32) : Ct l D tys yX3_valueOn cX3_valueOn 2 (some .int) d 0 0 [.ref a, .int day] ws (pI ws (vRnd le + po)) := by
  refine ct_intro (by decide) (Nat.le_of_ble_eq_true rfl) ?_
  intro p e s m below meth c A L X hin hP hD hS hA hl
  have hl : lv_has L 2 [(0, .ref a), (1, .int day)] := hl
  obtain ⟨hx, hb, hr, hml, hown, hts, hK, hlk, hxK⟩ := id X
  refine lv_aload_n hx hb dX3_valueOn_0 rfl (lv_at hl 0 rfl) ?_
  refine lv_iload_n hx hb dX3_valueOn_1 rfl (lv_at hl 1 rfl) ?_
  obtain ⟨ci_2, fs_2, cq_2, e1_2, e2_2⟩ := vo_rec k kd fr am le po ls
  have er_2 := he
  rw [e1_2] at er_2
  refine g_super (As := [.int day]) (rest := []) uw_X3_13 X (c_X5_valueOn l D tys 1 (by decide) he day) hP hD hS hA er_2 e2_2 ⟨by show _ ≤ d; omega, by show _ ≤ 30 * d; omega⟩ rfl hl.1 rfl (Nat.le_of_ble_eq_true rfl) dX3_valueOn_2 ⟨Nat.le_refl _, Nat.le_refl _⟩ (kI fun H locs hP hD hS => ?_)
  refine W.eq (g2 := F0 m 5 L [.int (vRnd le)]) rfl ?_
  refine lv_aload_n hx hb dX3_valueOn_5 rfl (lv_at hl 0 rfl) ?_
  refine vo_gP X hP hk he mw_147 (Or.inl rfl) dX3_valueOn_6 ?_
  refine lv_iadd hx hb dX3_valueOn_9 ?_
  exact e_int X hP hD hS dX3_valueOn_10 ⟨rfl, rfl⟩
set_option maxHeartbeats 4000000 in
set_option maxRecDepth 100000 in
theorem c_X1_valueOn (l : Launch) (D : va_G) (tys : List (ClassId × FieldType)) (d : Nat) (hd : 3 ≤ d) {ws : va_W} {q0 a k : Nat} {kd fr am le po ls : Int32} (he : ws[q0]? = some (a, vo_E k kd fr am le po ls)) (hk : 6 ≤ k) (day : Int32) : Ct l D tys yX1_valueOn cX1_valueOn 3 (some .int) d 0 0 [.ref a, .int day] ws (pI ws (if day - day / 7 * 7 = 0 then (vRnd le + po) * 2 else vRnd le + po)) := by
  refine ct_intro (by decide) (Nat.le_of_ble_eq_true rfl) ?_
  intro p e s m below meth c A L X hin hP hD hS hA hl
  have hl : lv_has L 3 [(0, .ref a), (1, .int day)] := hl
  obtain ⟨hx, hb, hr, hml, hown, hts, hK, hlk, hxK⟩ := id X
  refine lv_aload_n hx hb dX1_valueOn_0 rfl (lv_at hl 0 rfl) ?_
  refine lv_iload_n hx hb dX1_valueOn_1 rfl (lv_at hl 1 rfl) ?_
  obtain ⟨ci_2, fs_2, cq_2, e1_2, e2_2⟩ := vo_rec k kd fr am le po ls
  have er_2 := he
  rw [e1_2] at er_2
  refine g_super (As := [.int day]) (rest := []) uw_X1_7 X (c_X3_valueOn l D tys 2 (by decide) he hk day) hP hD hS hA er_2 e2_2 ⟨by show _ ≤ d; omega, by show _ ≤ 30 * d; omega⟩ rfl hl.1 rfl (Nat.le_of_ble_eq_true rfl) dX1_valueOn_2 ⟨Nat.le_refl _, Nat.le_refl _⟩ (kI fun H locs hP hD hS => ?_)
  refine W.eq (g2 := F0 m 5 L [.int (vRnd le + po)]) rfl ?_
  refine lv_istore_n (lv' := [(2, .int (vRnd le + po)), (0, .ref a), (1, .int day)]) hx hb dX1_valueOn_5 rfl hl (by decide) rfl (fun L hl => ?_)
  refine lv_iload_n hx hb dX1_valueOn_6 rfl (lv_at hl 2 rfl) ?_
  refine lv_bipush (v := 7) hx hb dX1_valueOn_7 (by decide) ?_
  refine lv_irem hx hb dX1_valueOn_9 (by decide) ?_
  refine lv_if_ne (tgt := 19) hx hb dX1_valueOn_10 (by decide) (fun c_10 => ?_) (fun c_10 => ?_)
  · -- c_10 True
    refine lv_iload_n hx hb dX1_valueOn_19 rfl (lv_at hl 0 rfl) ?_
    exact e_int X hP hD hS dX1_valueOn_20 ⟨by simp only [if_neg c_10], rfl⟩
  · -- c_10 False
    refine lv_iload_n hx hb dX1_valueOn_13 rfl (lv_at hl 0 rfl) ?_
    refine lv_iconst (v := 2) hx hb dX1_valueOn_14 (by decide) ?_
    refine lv_imul hx hb dX1_valueOn_15 ?_
    refine lv_goto (tgt := 20) hx hb dX1_valueOn_16 (by decide) ?_
    exact e_int X hP hD hS dX1_valueOn_20 ⟨by simp only [if_pos c_10], rfl⟩
set_option maxHeartbeats 4000000 in
set_option maxRecDepth 100000 in
theorem c_X1_feeOf (l : Launch) (D : va_G) (tys : List (ClassId × FieldType)) (d : Nat) (hd : 1 ≤ d) {ws : va_W} {q0 a k : Nat} {kd fr am le po ls : Int32} (he : ws[q0]? = some (a, vo_E k kd fr am le po ls)) (hk : 6 ≤ k) (g : Int32) : Ct l D tys yX1_feeOf cX1_feeOf 2 (some .int) d 0 0 [.ref a, .int g] ws (pI ws (if 0 < g / 50 + 1 - po then g / 50 + 1 - po else 0)) := by
  refine ct_intro (by decide) (Nat.le_of_ble_eq_true rfl) ?_
  intro p e s m below meth c A L X hin hP hD hS hA hl
  have hl : lv_has L 2 [(0, .ref a), (1, .int g)] := hl
  obtain ⟨hx, hb, hr, hml, hown, hts, hK, hlk, hxK⟩ := id X
  refine lv_iconst (v := 0) hx hb dX1_feeOf_0 (by decide) ?_
  refine lv_aload_n hx hb dX1_feeOf_1 rfl (lv_at hl 0 rfl) ?_
  refine lv_iload_n hx hb dX1_feeOf_2 rfl (lv_at hl 1 rfl) ?_
  obtain ⟨ci_3, fs_3, cq_3, e1_3, e2_3⟩ := vo_rec k kd fr am le po ls
  have er_3 := he
  rw [e1_3] at er_3
  refine g_super (As := [.int g]) (rest := [.int 0]) uw_X1_11 X (c_X4_feeOf l D tys 0 (by decide) he g) hP hD hS hA er_3 e2_3 ⟨by show _ ≤ d; omega, by show _ ≤ 30 * d; omega⟩ rfl hl.1 rfl (Nat.le_of_ble_eq_true rfl) dX1_feeOf_3 ⟨Nat.le_refl _, Nat.le_refl _⟩ (kI fun H locs hP hD hS => ?_)
  refine W.eq (g2 := F0 m 6 L [.int (g / 50 + 1), .int 0]) rfl ?_
  refine lv_aload_n hx hb dX1_feeOf_6 rfl (lv_at hl 0 rfl) ?_
  refine vo_gP X hP hk he mw_148 (Or.inr mw_149) dX1_feeOf_7 ?_
  refine lv_isub hx hb dX1_feeOf_10 ?_
  refine va_mmax hx hb (hml.trans hl.1.symm) hown (hts _ mw_235) (hts _ mw_236) (hts _ mw_11) (hts _ mw_237) (by show _ ≤ d; omega) (by show _ ≤ 30 * d; simp [Value.category]; omega) (Nat.le_refl _) (Nat.le_refl _) dX1_feeOf_11 ?_
  exact e_int X hP hD hS dX1_feeOf_14 ⟨rfl, rfl⟩
set_option maxHeartbeats 4000000 in
set_option maxRecDepth 100000 in
theorem c_X1_sealNow (l : Launch) (D : va_G) (tys : List (ClassId × FieldType)) (d : Nat) (hd : 1 ≤ d) {ws : va_W} {q0 a k : Nat} {kd fr am le po ls : Int32} (he : ws[q0]? = some (a, vo_E k kd fr am le po ls)) (hk : 6 ≤ k) : Ct l D tys yX1_sealNow cX1_sealNow 1 (some .int) d 0 0 [.ref a] ws (pI ws (vBase fr am le + 3 * po)) := by
  refine ct_intro (by decide) (Nat.le_of_ble_eq_true rfl) ?_
  intro p e s m below meth c A L X hin hP hD hS hA hl
  have hl : lv_has L 1 [(0, .ref a)] := hl
  obtain ⟨hx, hb, hr, hml, hown, hts, hK, hlk, hxK⟩ := id X
  refine lv_aload_n hx hb dX1_sealNow_0 rfl (lv_at hl 0 rfl) ?_
  obtain ⟨ci_1, fs_1, cq_1, e1_1, e2_1⟩ := vo_rec k kd fr am le po ls
  have er_1 := he
  rw [e1_1] at er_1
  refine g_super (As := []) (rest := []) uw_X1_26 X (c_X4_sealNow l D tys 0 (by decide) he) hP hD hS hA er_1 e2_1 ⟨by show _ ≤ d; omega, by show _ ≤ 30 * d; omega⟩ rfl hl.1 rfl (Nat.le_of_ble_eq_true rfl) dX1_sealNow_1 ⟨Nat.le_refl _, Nat.le_refl _⟩ (kI fun H locs hP hD hS => ?_)
  refine W.eq (g2 := F0 m 4 L [.int (vBase fr am le)]) rfl ?_
  refine lv_iconst (v := 3) hx hb dX1_sealNow_4 (by decide) ?_
  refine lv_aload_n hx hb dX1_sealNow_5 rfl (lv_at hl 0 rfl) ?_
  refine vo_gP X hP hk he mw_148 (Or.inr mw_149) dX1_sealNow_6 ?_
  refine lv_imul hx hb dX1_sealNow_9 ?_
  refine lv_iadd hx hb dX1_sealNow_10 ?_
  exact e_int X hP hD hS dX1_sealNow_11 ⟨rfl, rfl⟩
section DB
variable {p : Program} {l : Launch} {e : Env} {R : Room} {s : State} {m : MethodId} {args : Array Value} {below : List Frame} {meth : Method} {c : Code} {H : Heap} {locs : List Loc} {cells slots : Nat} {Q : State → Prop}
variable {pc : Nat} {L : Array Slot} {rest : List Value} {A0 : Nat → Prop} {H0 : Heap} {D : va_G} {tys : List (ClassId × FieldType)} {ws : va_W} {own : String} {cc : ByteArray} {nL idx q0 a k : Nat} {rt0 : Option FieldType} {kd fr am le po ls : Int32}
set_option maxHeartbeats 4000000 in
set_option maxRecDepth 100000 in
theorem dc_sealNow (X : Cx p m c meth s args own cc nL rt0 D tys) (hl : Cond.methodLink own idx ⟨"VoucherOffice$Club", "sealNow", "()I"⟩ ∈ wd_big) (hP : va_P D vwCl ws H) (hD : va_D A0 ws) (hS : va_S A0 H0 H locs) (hA : ∀ q, H0.size ≤ q → A0 q) (hk : 5 ≤ k) (he : ws[q0]? = some (a, vo_E k kd fr am le po ls)) (hR : 2 ≤ R.frames ∧ 60 ≤ R.locals) (hsize : L.size = nL) (hW : (rest.map fun v => v.category).sum ≤ 8) (hdg : decode cc pc = .ok (.invokevirtual idx, 3)) (hf : cells ≤ R.cells ∧ slots ≤ R.slots)
    (kk : ∀ (H1 : Heap) (locs1 : List Loc), va_P D vwCl ws H1 → va_D A0 ws → va_S A0 H0 H1 locs1 → W p l e R s m args below meth c H1 locs1 cells slots Q (F0 m (pc + 3) L (.int (vSeal k fr am le po) :: rest))) : W p l e R s m args below meth c H locs cells slots Q (F0 m pc L (.ref a :: rest)) := by
  match k, hk, he, kk with
  | 0, hk, _, _ => exact absurd hk (by omega)
  | 1, hk, _, _ => exact absurd hk (by omega)
  | 2, hk, _, _ => exact absurd hk (by omega)
  | 3, hk, _, _ => exact absurd hk (by omega)
  | 4, hk, _, _ => exact absurd hk (by omega)
  | 5, _, he, kk => exact g_virt (n := 0) (As := []) (rest := rest) (ci := 0) (cq := (RX0, TX0, 4)) ⟨hl, mw_312, mw_280, mw_313, mw_280, mw_3, mw_299, ⟨_, _, _, mw_299⟩, by decide +kernel⟩ X (c_X4_sealNow l D tys 1 (by decide) he) hP hD hS hA he rfl rfl ⟨hR.1, Nat.le_trans (by decide) hR.2⟩ rfl hsize rfl hW hdg hf (kI kk)
  | 6, _, he, kk => exact g_virt (n := 0) (As := []) (rest := rest) (ci := 3) (cq := (RX3, TX3, 5)) ⟨hl, mw_312, mw_280, mw_315, mw_280, mw_3, mw_299, ⟨_, _, _, mw_299⟩, by decide +kernel⟩ X (c_X4_sealNow l D tys 1 (by decide) he) hP hD hS hA he rfl rfl ⟨hR.1, Nat.le_trans (by decide) hR.2⟩ rfl hsize rfl hW hdg hf (kI kk)
  | n + 7, _, he, kk => exact g_virt (n := 0) (As := []) (rest := rest) (ci := 1) (cq := (RX1, TX1, 5)) ⟨hl, mw_312, mw_280, mw_314, mw_285, mw_10, mw_286, ⟨_, _, _, mw_299⟩, by decide +kernel⟩ X (c_X1_sealNow l D tys 1 (by decide) he (by omega)) hP hD hS hA he rfl rfl ⟨hR.1, Nat.le_trans (by decide) hR.2⟩ rfl hsize rfl hW hdg hf (kI kk)
set_option maxHeartbeats 4000000 in
set_option maxRecDepth 100000 in
theorem dv_sealNow (X : Cx p m c meth s args own cc nL rt0 D tys) (hl : Cond.methodLink own idx yX4_sealNow ∈ wd_big) (hP : va_P D vwCl ws H) (hD : va_D A0 ws) (hS : va_S A0 H0 H locs) (hA : ∀ q, H0.size ≤ q → A0 q) (he : ws[q0]? = some (a, vo_E k kd fr am le po ls)) (hR : 2 ≤ R.frames ∧ 60 ≤ R.locals) (hsize : L.size = nL) (hW : (rest.map fun v => v.category).sum ≤ 8) (hdg : decode cc pc = .ok (.invokevirtual idx, 3)) (hf : cells ≤ R.cells ∧ slots ≤ R.slots)
    (kk : ∀ (H1 : Heap) (locs1 : List Loc), va_P D vwCl ws H1 → va_D A0 ws → va_S A0 H0 H1 locs1 → W p l e R s m args below meth c H1 locs1 cells slots Q (F0 m (pc + 3) L (.int (vSeal k fr am le po) :: rest))) : W p l e R s m args below meth c H locs cells slots Q (F0 m pc L (.ref a :: rest)) := by
  match k, he, kk with
  | 0, he, kk => exact g_virt (n := 0) (As := []) (rest := rest) (ci := 4) (cq := (RX4, TX4, 4)) ⟨hl, mw_282, mw_280, mw_281, mw_280, mw_3, mw_299, ⟨_, _, _, mw_299⟩, by decide +kernel⟩ X (c_X4_sealNow l D tys 1 (by decide) he) hP hD hS hA he rfl rfl ⟨hR.1, Nat.le_trans (by decide) hR.2⟩ rfl hsize rfl hW hdg hf (kI kk)
  | 1, he, kk => exact g_virt (n := 0) (As := []) (rest := rest) (ci := 2) (cq := (RX2, TX2, 4)) ⟨hl, mw_282, mw_280, mw_290, mw_280, mw_3, mw_299, ⟨_, _, _, mw_299⟩, by decide +kernel⟩ X (c_X4_sealNow l D tys 1 (by decide) he) hP hD hS hA he rfl rfl ⟨hR.1, Nat.le_trans (by decide) hR.2⟩ rfl hsize rfl hW hdg hf (kI kk)
  | 2, he, kk => exact g_virt (n := 0) (As := []) (rest := rest) (ci := 6) (cq := (RX6, TX6, 4)) ⟨hl, mw_282, mw_280, mw_293, mw_294, mw_5, mw_295, ⟨_, _, _, mw_299⟩, by decide +kernel⟩ X (c_X6_sealNow l D tys 1 (by decide) he (by decide)) hP hD hS hA he rfl rfl ⟨hR.1, Nat.le_trans (by decide) hR.2⟩ rfl hsize rfl hW hdg hf (kI kk)
  | 3, he, kk => exact g_virt (n := 0) (As := []) (rest := rest) (ci := 7) (cq := (RX7, TX7, 5)) ⟨hl, mw_282, mw_280, mw_298, mw_294, mw_5, mw_295, ⟨_, _, _, mw_299⟩, by decide +kernel⟩ X (c_X6_sealNow l D tys 1 (by decide) he (by decide)) hP hD hS hA he rfl rfl ⟨hR.1, Nat.le_trans (by decide) hR.2⟩ rfl hsize rfl hW hdg hf (kI kk)
  | 4, he, kk => exact g_virt (n := 0) (As := []) (rest := rest) (ci := 5) (cq := (RX5, TX5, 4)) ⟨hl, mw_282, mw_280, mw_292, mw_280, mw_3, mw_299, ⟨_, _, _, mw_299⟩, by decide +kernel⟩ X (c_X4_sealNow l D tys 1 (by decide) he) hP hD hS hA he rfl rfl ⟨hR.1, Nat.le_trans (by decide) hR.2⟩ rfl hsize rfl hW hdg hf (kI kk)
  | 5, he, kk => exact g_virt (n := 0) (As := []) (rest := rest) (ci := 0) (cq := (RX0, TX0, 4)) ⟨hl, mw_282, mw_280, mw_283, mw_280, mw_3, mw_299, ⟨_, _, _, mw_299⟩, by decide +kernel⟩ X (c_X4_sealNow l D tys 1 (by decide) he) hP hD hS hA he rfl rfl ⟨hR.1, Nat.le_trans (by decide) hR.2⟩ rfl hsize rfl hW hdg hf (kI kk)
  | 6, he, kk => exact g_virt (n := 0) (As := []) (rest := rest) (ci := 3) (cq := (RX3, TX3, 5)) ⟨hl, mw_282, mw_280, mw_291, mw_280, mw_3, mw_299, ⟨_, _, _, mw_299⟩, by decide +kernel⟩ X (c_X4_sealNow l D tys 1 (by decide) he) hP hD hS hA he rfl rfl ⟨hR.1, Nat.le_trans (by decide) hR.2⟩ rfl hsize rfl hW hdg hf (kI kk)
  | n + 7, he, kk => exact g_virt (n := 0) (As := []) (rest := rest) (ci := 1) (cq := (RX1, TX1, 5)) ⟨hl, mw_282, mw_280, mw_284, mw_285, mw_10, mw_286, ⟨_, _, _, mw_299⟩, by decide +kernel⟩ X (c_X1_sealNow l D tys 1 (by decide) he (by omega)) hP hD hS hA he rfl rfl ⟨hR.1, Nat.le_trans (by decide) hR.2⟩ rfl hsize rfl hW hdg hf (kI kk)
set_option maxHeartbeats 4000000 in
set_option maxRecDepth 100000 in
theorem dv_valueOn (X : Cx p m c meth s args own cc nL rt0 D tys) (hl : Cond.methodLink own idx yX4_valueOn ∈ wd_big) (hP : va_P D vwCl ws H) (hD : va_D A0 ws) (hS : va_S A0 H0 H locs) (hA : ∀ q, H0.size ≤ q → A0 q) (he : ws[q0]? = some (a, vo_E k kd fr am le po ls)) (hR : 4 ≤ R.frames ∧ 120 ≤ R.locals) (hsize : L.size = nL) (hW : (rest.map fun v => v.category).sum ≤ 8) (hdg : decode cc pc = .ok (.invokevirtual idx, 3)) (hf : cells ≤ R.cells ∧ slots ≤ R.slots) {day : Int32}
    (kk : ∀ (H1 : Heap) (locs1 : List Loc), va_P D vwCl ws H1 → va_D A0 ws → va_S A0 H0 H1 locs1 → W p l e R s m args below meth c H1 locs1 cells slots Q (F0 m (pc + 3) L (.int (vVal k fr le po day) :: rest))) : W p l e R s m args below meth c H locs cells slots Q (F0 m pc L (.int day :: .ref a :: rest)) := by
  match k, he, kk with
  | 0, he, kk => exact g_virt (n := 1) (As := [.int day]) (rest := rest) (ci := 4) (cq := (RX4, TX4, 4)) ⟨hl, mw_184, mw_182, mw_183, mw_182, mw_3, mw_219, ⟨_, _, _, mw_219⟩, by decide +kernel⟩ X (c_X4_valueOn l D tys 3 (by decide) he day) hP hD hS hA he rfl rfl ⟨hR.1, Nat.le_trans (by decide) hR.2⟩ rfl hsize rfl hW hdg hf (kI kk)
  | 1, he, kk => exact g_virt (n := 1) (As := [.int day]) (rest := rest) (ci := 2) (cq := (RX2, TX2, 4)) ⟨hl, mw_184, mw_182, mw_198, mw_182, mw_3, mw_219, ⟨_, _, _, mw_219⟩, by decide +kernel⟩ X (c_X4_valueOn l D tys 3 (by decide) he day) hP hD hS hA he rfl rfl ⟨hR.1, Nat.le_trans (by decide) hR.2⟩ rfl hsize rfl hW hdg hf (kI kk)
  | 2, he, kk => exact g_virt (n := 1) (As := [.int day]) (rest := rest) (ci := 6) (cq := (RX6, TX6, 4)) ⟨hl, mw_184, mw_182, mw_201, mw_202, mw_5, mw_203, ⟨_, _, _, mw_219⟩, by decide +kernel⟩ X (c_X6_valueOn l D tys 3 (by decide) he (by decide) day) hP hD hS hA he rfl rfl ⟨hR.1, Nat.le_trans (by decide) hR.2⟩ rfl hsize rfl hW hdg hf (kI kk)
  | 3, he, kk => exact g_virt (n := 1) (As := [.int day]) (rest := rest) (ci := 7) (cq := (RX7, TX7, 5)) ⟨hl, mw_184, mw_182, mw_215, mw_216, mw_6, mw_217, ⟨_, _, _, mw_219⟩, by decide +kernel⟩ X (c_X7_valueOn l D tys 3 (by decide) he rfl day) hP hD hS hA he rfl rfl ⟨hR.1, Nat.le_trans (by decide) hR.2⟩ rfl hsize rfl hW hdg hf (kI kk)
  | 4, he, kk => exact g_virt (n := 1) (As := [.int day]) (rest := rest) (ci := 5) (cq := (RX5, TX5, 4)) ⟨hl, mw_184, mw_182, mw_200, mw_186, mw_7, mw_187, ⟨_, _, _, mw_219⟩, by decide +kernel⟩ X (c_X5_valueOn l D tys 3 (by decide) he day) hP hD hS hA he rfl rfl ⟨hR.1, Nat.le_trans (by decide) hR.2⟩ rfl hsize rfl hW hdg hf (kI kk)
  | 5, he, kk => exact g_virt (n := 1) (As := [.int day]) (rest := rest) (ci := 0) (cq := (RX0, TX0, 4)) ⟨hl, mw_184, mw_182, mw_185, mw_186, mw_7, mw_187, ⟨_, _, _, mw_219⟩, by decide +kernel⟩ X (c_X5_valueOn l D tys 3 (by decide) he day) hP hD hS hA he rfl rfl ⟨hR.1, Nat.le_trans (by decide) hR.2⟩ rfl hsize rfl hW hdg hf (kI kk)
  | 6, he, kk => exact g_virt (n := 1) (As := [.int day]) (rest := rest) (ci := 3) (cq := (RX3, TX3, 5)) ⟨hl, mw_184, mw_182, mw_199, mw_193, mw_9, mw_194, ⟨_, _, _, mw_219⟩, by decide +kernel⟩ X (c_X3_valueOn l D tys 3 (by decide) he (by omega) day) hP hD hS hA he rfl rfl ⟨hR.1, Nat.le_trans (by decide) hR.2⟩ rfl hsize rfl hW hdg hf (kI kk)
  | n + 7, he, kk => exact g_virt (n := 1) (As := [.int day]) (rest := rest) (ci := 1) (cq := (RX1, TX1, 5)) ⟨hl, mw_184, mw_182, mw_189, mw_190, mw_10, mw_191, ⟨_, _, _, mw_219⟩, by decide +kernel⟩ X (c_X1_valueOn l D tys 3 (by decide) he (by omega) day) hP hD hS hA he rfl rfl ⟨hR.1, Nat.le_trans (by decide) hR.2⟩ rfl hsize rfl hW hdg hf (kI kk)
set_option maxHeartbeats 4000000 in
set_option maxRecDepth 100000 in
theorem dv_feeOf (X : Cx p m c meth s args own cc nL rt0 D tys) (hl : Cond.methodLink own idx yX4_feeOf ∈ wd_big) (hP : va_P D vwCl ws H) (hD : va_D A0 ws) (hS : va_S A0 H0 H locs) (hA : ∀ q, H0.size ≤ q → A0 q) (he : ws[q0]? = some (a, vo_E k kd fr am le po ls)) (hR : 2 ≤ R.frames ∧ 60 ≤ R.locals) (hsize : L.size = nL) (hW : (rest.map fun v => v.category).sum ≤ 8) (hdg : decode cc pc = .ok (.invokevirtual idx, 3)) (hf : cells ≤ R.cells ∧ slots ≤ R.slots) {g : Int32}
    (kk : ∀ (H1 : Heap) (locs1 : List Loc), va_P D vwCl ws H1 → va_D A0 ws → va_S A0 H0 H1 locs1 → W p l e R s m args below meth c H1 locs1 cells slots Q (F0 m (pc + 3) L (.int (vFee k po g) :: rest))) : W p l e R s m args below meth c H locs cells slots Q (F0 m pc L (.int g :: .ref a :: rest)) := by
  match k, he, kk with
  | 0, he, kk => exact g_virt (n := 1) (As := [.int g]) (rest := rest) (ci := 4) (cq := (RX4, TX4, 4)) ⟨hl, mw_227, mw_225, mw_226, mw_225, mw_3, mw_247, ⟨_, _, _, mw_247⟩, by decide +kernel⟩ X (c_X4_feeOf l D tys 1 (by decide) he g) hP hD hS hA he rfl rfl ⟨hR.1, Nat.le_trans (by decide) hR.2⟩ rfl hsize rfl hW hdg hf (kI kk)
  | 1, he, kk => exact g_virt (n := 1) (As := [.int g]) (rest := rest) (ci := 2) (cq := (RX2, TX2, 4)) ⟨hl, mw_227, mw_225, mw_238, mw_225, mw_3, mw_247, ⟨_, _, _, mw_247⟩, by decide +kernel⟩ X (c_X4_feeOf l D tys 1 (by decide) he g) hP hD hS hA he rfl rfl ⟨hR.1, Nat.le_trans (by decide) hR.2⟩ rfl hsize rfl hW hdg hf (kI kk)
  | 2, he, kk => exact g_virt (n := 1) (As := [.int g]) (rest := rest) (ci := 6) (cq := (RX6, TX6, 4)) ⟨hl, mw_227, mw_225, mw_241, mw_225, mw_3, mw_247, ⟨_, _, _, mw_247⟩, by decide +kernel⟩ X (c_X4_feeOf l D tys 1 (by decide) he g) hP hD hS hA he rfl rfl ⟨hR.1, Nat.le_trans (by decide) hR.2⟩ rfl hsize rfl hW hdg hf (kI kk)
  | 3, he, kk => exact g_virt (n := 1) (As := [.int g]) (rest := rest) (ci := 7) (cq := (RX7, TX7, 5)) ⟨hl, mw_227, mw_225, mw_242, mw_243, mw_6, mw_244, ⟨_, _, _, mw_247⟩, by decide +kernel⟩ X (c_X7_feeOf l D tys 1 (by decide) he g) hP hD hS hA he rfl rfl ⟨hR.1, Nat.le_trans (by decide) hR.2⟩ rfl hsize rfl hW hdg hf (kI kk)
  | 4, he, kk => exact g_virt (n := 1) (As := [.int g]) (rest := rest) (ci := 5) (cq := (RX5, TX5, 4)) ⟨hl, mw_227, mw_225, mw_240, mw_225, mw_3, mw_247, ⟨_, _, _, mw_247⟩, by decide +kernel⟩ X (c_X4_feeOf l D tys 1 (by decide) he g) hP hD hS hA he rfl rfl ⟨hR.1, Nat.le_trans (by decide) hR.2⟩ rfl hsize rfl hW hdg hf (kI kk)
  | 5, he, kk => exact g_virt (n := 1) (As := [.int g]) (rest := rest) (ci := 0) (cq := (RX0, TX0, 4)) ⟨hl, mw_227, mw_225, mw_228, mw_225, mw_3, mw_247, ⟨_, _, _, mw_247⟩, by decide +kernel⟩ X (c_X4_feeOf l D tys 1 (by decide) he g) hP hD hS hA he rfl rfl ⟨hR.1, Nat.le_trans (by decide) hR.2⟩ rfl hsize rfl hW hdg hf (kI kk)
  | 6, he, kk => exact g_virt (n := 1) (As := [.int g]) (rest := rest) (ci := 3) (cq := (RX3, TX3, 5)) ⟨hl, mw_227, mw_225, mw_239, mw_225, mw_3, mw_247, ⟨_, _, _, mw_247⟩, by decide +kernel⟩ X (c_X4_feeOf l D tys 1 (by decide) he g) hP hD hS hA he rfl rfl ⟨hR.1, Nat.le_trans (by decide) hR.2⟩ rfl hsize rfl hW hdg hf (kI kk)
  | n + 7, he, kk => exact g_virt (n := 1) (As := [.int g]) (rest := rest) (ci := 1) (cq := (RX1, TX1, 5)) ⟨hl, mw_227, mw_225, mw_229, mw_230, mw_10, mw_231, ⟨_, _, _, mw_247⟩, by decide +kernel⟩ X (c_X1_feeOf l D tys 1 (by decide) he (by omega) g) hP hD hS hA he rfl rfl ⟨hR.1, Nat.le_trans (by decide) hR.2⟩ rfl hsize rfl hW hdg hf (kI kk)
set_option maxHeartbeats 4000000 in
set_option maxRecDepth 100000 in
theorem dv_daysLeftOn (X : Cx p m c meth s args own cc nL rt0 D tys) (hl : Cond.methodLink own idx yX4_daysLeftOn ∈ wd_big) (hP : va_P D vwCl ws H) (hD : va_D A0 ws) (hS : va_S A0 H0 H locs) (hA : ∀ q, H0.size ≤ q → A0 q) (he : ws[q0]? = some (a, vo_E k kd fr am le po ls)) (hR : 2 ≤ R.frames ∧ 60 ≤ R.locals) (hsize : L.size = nL) (hW : (rest.map fun v => v.category).sum ≤ 8) (hdg : decode cc pc = .ok (.invokevirtual idx, 3)) (hf : cells ≤ R.cells ∧ slots ≤ R.slots) {day : Int32}
    (kk : ∀ (H1 : Heap) (locs1 : List Loc), va_P D vwCl ws H1 → va_D A0 ws → va_S A0 H0 H1 locs1 → W p l e R s m args below meth c H1 locs1 cells slots Q (F0 m (pc + 3) L (.int (vDays k fr day) :: rest))) : W p l e R s m args below meth c H locs cells slots Q (F0 m pc L (.int day :: .ref a :: rest)) := by
  match k, he, kk with
  | 0, he, kk => exact g_virt (n := 1) (As := [.int day]) (rest := rest) (ci := 4) (cq := (RX4, TX4, 4)) ⟨hl, mw_330, mw_328, mw_329, mw_328, mw_3, mw_341, ⟨_, _, _, mw_341⟩, by decide +kernel⟩ X (c_X4_daysLeftOn l D tys 1 (by decide) he day) hP hD hS hA he rfl rfl ⟨hR.1, Nat.le_trans (by decide) hR.2⟩ rfl hsize rfl hW hdg hf (kI kk)
  | 1, he, kk => exact g_virt (n := 1) (As := [.int day]) (rest := rest) (ci := 2) (cq := (RX2, TX2, 4)) ⟨hl, mw_330, mw_328, mw_333, mw_328, mw_3, mw_341, ⟨_, _, _, mw_341⟩, by decide +kernel⟩ X (c_X4_daysLeftOn l D tys 1 (by decide) he day) hP hD hS hA he rfl rfl ⟨hR.1, Nat.le_trans (by decide) hR.2⟩ rfl hsize rfl hW hdg hf (kI kk)
  | 2, he, kk => exact g_virt (n := 1) (As := [.int day]) (rest := rest) (ci := 6) (cq := (RX6, TX6, 4)) ⟨hl, mw_330, mw_328, mw_336, mw_337, mw_5, mw_338, ⟨_, _, _, mw_341⟩, by decide +kernel⟩ X (c_X6_daysLeftOn l D tys 1 (by decide) he (by decide) day) hP hD hS hA he rfl rfl ⟨hR.1, Nat.le_trans (by decide) hR.2⟩ rfl hsize rfl hW hdg hf (kI kk)
  | 3, he, kk => exact g_virt (n := 1) (As := [.int day]) (rest := rest) (ci := 7) (cq := (RX7, TX7, 5)) ⟨hl, mw_330, mw_328, mw_340, mw_337, mw_5, mw_338, ⟨_, _, _, mw_341⟩, by decide +kernel⟩ X (c_X6_daysLeftOn l D tys 1 (by decide) he (by decide) day) hP hD hS hA he rfl rfl ⟨hR.1, Nat.le_trans (by decide) hR.2⟩ rfl hsize rfl hW hdg hf (kI kk)
  | 4, he, kk => exact g_virt (n := 1) (As := [.int day]) (rest := rest) (ci := 5) (cq := (RX5, TX5, 4)) ⟨hl, mw_330, mw_328, mw_335, mw_328, mw_3, mw_341, ⟨_, _, _, mw_341⟩, by decide +kernel⟩ X (c_X4_daysLeftOn l D tys 1 (by decide) he day) hP hD hS hA he rfl rfl ⟨hR.1, Nat.le_trans (by decide) hR.2⟩ rfl hsize rfl hW hdg hf (kI kk)
  | 5, he, kk => exact g_virt (n := 1) (As := [.int day]) (rest := rest) (ci := 0) (cq := (RX0, TX0, 4)) ⟨hl, mw_330, mw_328, mw_331, mw_328, mw_3, mw_341, ⟨_, _, _, mw_341⟩, by decide +kernel⟩ X (c_X4_daysLeftOn l D tys 1 (by decide) he day) hP hD hS hA he rfl rfl ⟨hR.1, Nat.le_trans (by decide) hR.2⟩ rfl hsize rfl hW hdg hf (kI kk)
  | 6, he, kk => exact g_virt (n := 1) (As := [.int day]) (rest := rest) (ci := 3) (cq := (RX3, TX3, 5)) ⟨hl, mw_330, mw_328, mw_334, mw_328, mw_3, mw_341, ⟨_, _, _, mw_341⟩, by decide +kernel⟩ X (c_X4_daysLeftOn l D tys 1 (by decide) he day) hP hD hS hA he rfl rfl ⟨hR.1, Nat.le_trans (by decide) hR.2⟩ rfl hsize rfl hW hdg hf (kI kk)
  | n + 7, he, kk => exact g_virt (n := 1) (As := [.int day]) (rest := rest) (ci := 1) (cq := (RX1, TX1, 5)) ⟨hl, mw_330, mw_328, mw_332, mw_328, mw_3, mw_341, ⟨_, _, _, mw_341⟩, by decide +kernel⟩ X (c_X4_daysLeftOn l D tys 1 (by decide) he day) hP hD hS hA he rfl rfl ⟨hR.1, Nat.le_trans (by decide) hR.2⟩ rfl hsize rfl hW hdg hf (kI kk)
set_option maxHeartbeats 4000000 in
set_option maxRecDepth 100000 in
theorem dv_lapseOn (X : Cx p m c meth s args own cc nL rt0 D tys) (hl : Cond.methodLink own idx yX4_lapseOn ∈ wd_big) (hP : va_P D vwCl ws H) (hD : va_D A0 ws) (hS : va_S A0 H0 H locs) (hA : ∀ q, H0.size ≤ q → A0 q) (he : ws[q0]? = some (a, vo_E k kd fr am le po ls)) (hR : 2 ≤ R.frames ∧ 60 ≤ R.locals) (hsize : L.size = nL) (hW : (rest.map fun v => v.category).sum ≤ 8) (hdg : decode cc pc = .ok (.invokevirtual idx, 3)) (hf : cells ≤ R.cells ∧ slots ≤ R.slots) {day : Int32}
    (kk : ∀ (H1 : Heap) (locs1 : List Loc), va_P D vwCl (ws.set q0 (a, vo_E k kd fr am (vLL k fr le day) po ls)) H1 → va_D A0 (ws.set q0 (a, vo_E k kd fr am (vLL k fr le day) po ls)) → va_S A0 H0 H1 locs1 → W p l e R s m args below meth c H1 locs1 cells slots Q (F0 m (pc + 3) L (.int (vLR k fr le day) :: rest))) : W p l e R s m args below meth c H locs cells slots Q (F0 m pc L (.int day :: .ref a :: rest)) := by
  match k, he, kk with
  | 0, he, kk => exact g_virt (n := 1) (As := [.int day]) (rest := rest) (ci := 4) (cq := (RX4, TX4, 4)) ⟨hl, mw_349, mw_347, mw_348, mw_347, mw_3, mw_359, ⟨_, _, _, mw_359⟩, by decide +kernel⟩ X (c_X4_lapseOn l D tys 1 (by decide) he day) hP hD hS hA he rfl rfl ⟨hR.1, Nat.le_trans (by decide) hR.2⟩ rfl hsize rfl hW hdg hf (kW kk)
  | 1, he, kk => exact g_virt (n := 1) (As := [.int day]) (rest := rest) (ci := 2) (cq := (RX2, TX2, 4)) ⟨hl, mw_349, mw_347, mw_352, mw_347, mw_3, mw_359, ⟨_, _, _, mw_359⟩, by decide +kernel⟩ X (c_X4_lapseOn l D tys 1 (by decide) he day) hP hD hS hA he rfl rfl ⟨hR.1, Nat.le_trans (by decide) hR.2⟩ rfl hsize rfl hW hdg hf (kW kk)
  | 2, he, kk => exact g_virt (n := 1) (As := [.int day]) (rest := rest) (ci := 6) (cq := (RX6, TX6, 4)) ⟨hl, mw_349, mw_347, mw_355, mw_356, mw_5, mw_357, ⟨_, _, _, mw_359⟩, by decide +kernel⟩ X (c_X6_lapseOn l D tys 1 (by decide) he (by decide) day) hP hD hS hA he rfl rfl ⟨hR.1, Nat.le_trans (by decide) hR.2⟩ rfl hsize rfl hW hdg hf (kW kk)
  | 3, he, kk => exact g_virt (n := 1) (As := [.int day]) (rest := rest) (ci := 7) (cq := (RX7, TX7, 5)) ⟨hl, mw_349, mw_347, mw_358, mw_356, mw_5, mw_357, ⟨_, _, _, mw_359⟩, by decide +kernel⟩ X (c_X6_lapseOn l D tys 1 (by decide) he (by decide) day) hP hD hS hA he rfl rfl ⟨hR.1, Nat.le_trans (by decide) hR.2⟩ rfl hsize rfl hW hdg hf (kW kk)
  | 4, he, kk => exact g_virt (n := 1) (As := [.int day]) (rest := rest) (ci := 5) (cq := (RX5, TX5, 4)) ⟨hl, mw_349, mw_347, mw_354, mw_347, mw_3, mw_359, ⟨_, _, _, mw_359⟩, by decide +kernel⟩ X (c_X4_lapseOn l D tys 1 (by decide) he day) hP hD hS hA he rfl rfl ⟨hR.1, Nat.le_trans (by decide) hR.2⟩ rfl hsize rfl hW hdg hf (kW kk)
  | 5, he, kk => exact g_virt (n := 1) (As := [.int day]) (rest := rest) (ci := 0) (cq := (RX0, TX0, 4)) ⟨hl, mw_349, mw_347, mw_350, mw_347, mw_3, mw_359, ⟨_, _, _, mw_359⟩, by decide +kernel⟩ X (c_X4_lapseOn l D tys 1 (by decide) he day) hP hD hS hA he rfl rfl ⟨hR.1, Nat.le_trans (by decide) hR.2⟩ rfl hsize rfl hW hdg hf (kW kk)
  | 6, he, kk => exact g_virt (n := 1) (As := [.int day]) (rest := rest) (ci := 3) (cq := (RX3, TX3, 5)) ⟨hl, mw_349, mw_347, mw_353, mw_347, mw_3, mw_359, ⟨_, _, _, mw_359⟩, by decide +kernel⟩ X (c_X4_lapseOn l D tys 1 (by decide) he day) hP hD hS hA he rfl rfl ⟨hR.1, Nat.le_trans (by decide) hR.2⟩ rfl hsize rfl hW hdg hf (kW kk)
  | n + 7, he, kk => exact g_virt (n := 1) (As := [.int day]) (rest := rest) (ci := 1) (cq := (RX1, TX1, 5)) ⟨hl, mw_349, mw_347, mw_351, mw_347, mw_3, mw_359, ⟨_, _, _, mw_359⟩, by decide +kernel⟩ X (c_X4_lapseOn l D tys 1 (by decide) he day) hP hD hS hA he rfl rfl ⟨hR.1, Nat.le_trans (by decide) hR.2⟩ rfl hsize rfl hW hdg hf (kW kk)
end DB
end
section
set_option maxHeartbeats 4000000 in
set_option maxRecDepth 100000 in
theorem c_X0_markOf (l : Launch) (D : va_G) (tys : List (ClassId × FieldType)) (d : Nat) (hd : 2 ≤ d) {ws : va_W} {q0 a k : Nat} {kd fr am le po ls : Int32} (he : ws[q0]? = some (a, vo_E k kd fr am le po ls)) (hk : 5 ≤ k) (n : Int32) : Ct l D tys yX0_markOf cX0_markOf 2 (some .int) d 0 0 [.ref a, .int n] ws (pI ws (vSeal k fr am le po * 7 + n)) := by
  refine ct_intro (by decide) (Nat.le_of_ble_eq_true rfl) ?_
  intro p e s m below meth c A L X hin hP hD hS hA hl
  have hl : lv_has L 2 [(0, .ref a), (1, .int n)] := hl
  obtain ⟨hx, hb, hr, hml, hown, hts, hK, hlk, hxK⟩ := id X
  refine lv_aload_n hx hb dX0_markOf_0 rfl (lv_at hl 0 rfl) ?_
  refine dc_sealNow (rest := []) X mw_311 hP hD hS hA hk he ⟨by show _ ≤ d; omega, by show _ ≤ 30 * d; omega⟩ hl.1 (Nat.le_of_ble_eq_true rfl) dX0_markOf_1 ⟨Nat.le_refl _, Nat.le_refl _⟩ (fun H locs hP hD hS => ?_)
  refine lv_bipush (v := 7) hx hb dX0_markOf_4 (by decide) ?_
  refine lv_imul hx hb dX0_markOf_6 ?_
  refine lv_iload_n hx hb dX0_markOf_7 rfl (lv_at hl 1 rfl) ?_
  refine lv_iadd hx hb dX0_markOf_8 ?_
  exact e_int X hP hD hS dX0_markOf_9 ⟨rfl, rfl⟩
set_option maxHeartbeats 4000000 in
set_option maxRecDepth 100000 in
theorem c_X4_spendOn (l : Launch) (D : va_G) (tys : List (ClassId × FieldType)) (d : Nat) (hd : 4 ≤ d) {ws : va_W} {q0 a k : Nat} {kd fr am le po ls : Int32} (he : ws[q0]? = some (a, vo_E k kd fr am le po ls)) (day g : Int32) : Ct l D tys yX4_spendOn cX4_spendOn 4 (some .int) d 0 0 [.ref a, .int day, .int g] ws (pW (some (.int (vSp k fr le po day g))) (ws.set q0 (a, vo_E k kd fr am (vSpL k fr le po day g) po ls))) := by
  refine ct_intro (by decide) (Nat.le_of_ble_eq_true rfl) ?_
  intro p e s m below meth c A L X hin hP hD hS hA hl
  have hl : lv_has L 4 [(0, .ref a), (1, .int day), (2, .int g)] := hl
  obtain ⟨hx, hb, hr, hml, hown, hts, hK, hlk, hxK⟩ := id X
  refine lv_iload_n hx hb dX4_spendOn_0 rfl (lv_at hl 2 rfl) ?_
  refine lv_aload_n hx hb dX4_spendOn_1 rfl (lv_at hl 0 rfl) ?_
  refine lv_iload_n hx hb dX4_spendOn_2 rfl (lv_at hl 2 rfl) ?_
  refine dv_feeOf (rest := [.int g]) X mw_273 hP hD hS hA he ⟨by show _ ≤ d; omega, by show _ ≤ 30 * d; omega⟩ hl.1 (Nat.le_of_ble_eq_true rfl) dX4_spendOn_3 ⟨Nat.le_refl _, Nat.le_refl _⟩ (fun H locs hP hD hS => ?_)
  refine lv_iadd hx hb dX4_spendOn_6 ?_
  refine lv_istore_n (lv' := [(3, .int (g + (vFee k po g))), (0, .ref a), (1, .int day), (2, .int g)]) hx hb dX4_spendOn_7 rfl hl (by decide) rfl (fun L hl => ?_)
  refine lv_iload_n hx hb dX4_spendOn_8 rfl (lv_at hl 3 rfl) ?_
  refine lv_aload_n hx hb dX4_spendOn_9 rfl (lv_at hl 1 rfl) ?_
  refine lv_iload_n hx hb dX4_spendOn_10 rfl (lv_at hl 2 rfl) ?_
  refine dv_valueOn (rest := [.int g]) X mw_274 hP hD hS hA he ⟨by show _ ≤ d; omega, by show _ ≤ 30 * d; omega⟩ hl.1 (Nat.le_of_ble_eq_true rfl) dX4_spendOn_11 ⟨Nat.le_refl _, Nat.le_refl _⟩ (fun H locs hP hD hS => ?_)
  refine lv_icmp_gt (tgt := 25) hx hb dX4_spendOn_14 (by decide) (fun c_14 => ?_) (fun c_14 => ?_)
  · -- c_14 True
    refine lv_bipush (v := (-5)) hx hb dX4_spendOn_25 (by decide) ?_
    exact e_int X hP hD hS dX4_spendOn_27 ⟨by simp only [vSp, if_pos c_14], by simp only [vSpL, if_pos c_14]; exact (st_self he).symm⟩
  · -- c_14 False
    refine lv_iload_n hx hb dX4_spendOn_17 rfl (lv_at hl 0 rfl) ?_
    refine lv_aload_n hx hb dX4_spendOn_18 rfl (lv_at hl 1 rfl) ?_
    refine vo_gL X hP he mw_70 (Or.inl rfl) dX4_spendOn_19 ?_
    refine lv_icmp_le (tgt := 28) hx hb dX4_spendOn_22 (by decide) (fun c_22 => ?_) (fun c_22 => ?_)
    · -- c_22 True
      refine lv_aload_n hx hb dX4_spendOn_28 rfl (lv_at hl 1 rfl) ?_
      refine lv_dup hx hb dX4_spendOn_29 rfl ?_
      refine vo_gL X hP he mw_70 (Or.inl rfl) dX4_spendOn_30 ?_
      refine lv_iload_n hx hb dX4_spendOn_33 rfl (lv_at hl 0 rfl) ?_
      refine lv_isub hx hb dX4_spendOn_34 ?_
      refine vo_pL X hP hD hS he mw_70 (Or.inl rfl) dX4_spendOn_35 (fun H locs hP hD hS => ?_)
      have he : (ws.set q0 (a, vo_E k kd fr am (le - (g + (vFee k po g))) po ls))[q0]? = some (a, vo_E k kd fr am (le - (g + (vFee k po g))) po ls) := st_same he
      refine lv_aload_n hx hb dX4_spendOn_38 rfl (lv_at hl 1 rfl) ?_
      refine vo_gL X hP he mw_70 (Or.inl rfl) dX4_spendOn_39 ?_
      exact e_int X hP hD hS dX4_spendOn_42 ⟨by simp only [vSp, if_neg c_14, if_pos c_22], by simp only [vSpL, if_neg c_14, if_pos c_22]⟩
    · -- c_22 False
      refine lv_bipush (v := (-5)) hx hb dX4_spendOn_25 (by decide) ?_
      exact e_int X hP hD hS dX4_spendOn_27 ⟨by simp only [vSp, if_neg c_14, if_neg c_22], by simp only [vSpL, if_neg c_14, if_neg c_22]; exact (st_self he).symm⟩
set_option maxHeartbeats 4000000 in
set_option maxRecDepth 100000 in
theorem c_X7_spendOn (l : Launch) (D : va_G) (tys : List (ClassId × FieldType)) (d : Nat) (hd : 5 ≤ d) {ws : va_W} {q0 a k : Nat} {kd fr am le po ls : Int32} (he : ws[q0]? = some (a, vo_E k kd fr am le po ls)) (hk : k = 3) (day g : Int32) : Ct l D tys yX7_spendOn cX7_spendOn 4 (some .int) d 0 0 [.ref a, .int day, .int g] ws (pW (some (.int (if ls = day then -6 else vSp k fr le po day g))) (ws.set q0 (a, vo_E k kd fr am (if ls = day then le else vSpL k fr le po day g) po (if ls = day then ls else if vSp k fr le po day g < 0 then ls else day)))) := by
  refine ct_intro (by decide) (Nat.le_of_ble_eq_true rfl) ?_
  intro p e s m below meth c A L X hin hP hD hS hA hl
  have hl : lv_has L 4 [(0, .ref a), (1, .int day), (2, .int g)] := hl
  obtain ⟨hx, hb, hr, hml, hown, hts, hK, hlk, hxK⟩ := id X
  refine lv_aload_n hx hb dX7_spendOn_0 rfl (lv_at hl 0 rfl) ?_
  refine vo_gS X hP hk he mw_111 (Or.inl rfl) dX7_spendOn_1 ?_
  refine lv_iload_n hx hb dX7_spendOn_4 rfl (lv_at hl 1 rfl) ?_
  refine lv_icmp_ne (tgt := 11) hx hb dX7_spendOn_5 (by decide) (fun c_5 => ?_) (fun c_5 => ?_)
  · -- c_5 True
    refine lv_aload_n hx hb dX7_spendOn_11 rfl (lv_at hl 0 rfl) ?_
    refine lv_iload_n hx hb dX7_spendOn_12 rfl (lv_at hl 1 rfl) ?_
    refine lv_iload_n hx hb dX7_spendOn_13 rfl (lv_at hl 2 rfl) ?_
    obtain ⟨ci_14, fs_14, cq_14, e1_14, e2_14⟩ := vo_rec k kd fr am le po ls
    have er_14 := he
    rw [e1_14] at er_14
    refine g_super (As := [.int day, .int g]) (rest := []) uw_X7_27 X (c_X4_spendOn l D tys 4 (by decide) he day g) hP hD hS hA er_14 e2_14 ⟨by show _ ≤ d; omega, by show _ ≤ 30 * d; omega⟩ rfl hl.1 rfl (Nat.le_of_ble_eq_true rfl) dX7_spendOn_14 ⟨Nat.le_refl _, Nat.le_refl _⟩ (kW fun H locs hP hD hS => ?_)
    have he : (ws.set q0 (a, vo_E k kd fr am (vSpL k fr le po day g) po ls))[q0]? = some (a, vo_E k kd fr am (vSpL k fr le po day g) po ls) := st_same he
    refine W.eq (g2 := F0 m 17 L [.int (vSp k fr le po day g)]) rfl ?_
    refine lv_istore_n (lv' := [(3, .int (vSp k fr le po day g)), (0, .ref a), (1, .int day), (2, .int g)]) hx hb dX7_spendOn_17 rfl hl (by decide) rfl (fun L hl => ?_)
    refine lv_iload_n hx hb dX7_spendOn_18 rfl (lv_at hl 0 rfl) ?_
    refine lv_if_lt (tgt := 27) hx hb dX7_spendOn_19 (by decide) (fun c_19 => ?_) (fun c_19 => ?_)
    · -- c_19 True
      refine lv_iload_n hx hb dX7_spendOn_27 rfl (lv_at hl 0 rfl) ?_
      exact e_int X hP hD hS dX7_spendOn_28 ⟨by simp only [if_neg c_5], by simp only [if_neg c_5, if_pos c_19, List.set_set]⟩
    · -- c_19 False
      refine lv_aload_n hx hb dX7_spendOn_22 rfl (lv_at hl 1 rfl) ?_
      refine lv_iload_n hx hb dX7_spendOn_23 rfl (lv_at hl 2 rfl) ?_
      refine vo_pS X hP hD hS hk he mw_111 (Or.inl rfl) dX7_spendOn_24 (fun H locs hP hD hS => ?_)
      have he : ((ws.set q0 (a, vo_E k kd fr am (vSpL k fr le po day g) po ls)).set q0 (a, vo_E k kd fr am (vSpL k fr le po day g) po day))[q0]? = some (a, vo_E k kd fr am (vSpL k fr le po day g) po day) := st_same he
      refine lv_iload_n hx hb dX7_spendOn_27 rfl (lv_at hl 0 rfl) ?_
      exact e_int X hP hD hS dX7_spendOn_28 ⟨by simp only [if_neg c_5], by simp only [if_neg c_5, if_neg c_19, List.set_set]⟩
  · -- c_5 False
    refine lv_bipush (v := (-6)) hx hb dX7_spendOn_8 (by decide) ?_
    exact e_int X hP hD hS dX7_spendOn_10 ⟨by simp only [if_pos c_5], by simp only [if_pos c_5]; exact (st_self he).symm⟩
set_option maxHeartbeats 4000000 in
set_option maxRecDepth 100000 in
theorem c_X3_spendOn (l : Launch) (D : va_G) (tys : List (ClassId × FieldType)) (d : Nat) (hd : 5 ≤ d) {ws : va_W} {q0 a k : Nat} {kd fr am le po ls : Int32} (he : ws[q0]? = some (a, vo_E k kd fr am le po ls)) (hk : 6 ≤ k) (day g : Int32) : Ct l D tys yX3_spendOn cX3_spendOn 4 (some .int) d 0 0 [.ref a, .int day, .int g] ws (pW (some (.int (vSp k fr le po day g))) (ws.set q0 (a, vo_E k kd fr am (vSpL k fr le po day g) (if vSp k fr le po day g < 0 then po else po + g / 100) ls))) := by
  refine ct_intro (by decide) (Nat.le_of_ble_eq_true rfl) ?_
  intro p e s m below meth c A L X hin hP hD hS hA hl
  have hl : lv_has L 4 [(0, .ref a), (1, .int day), (2, .int g)] := hl
  obtain ⟨hx, hb, hr, hml, hown, hts, hK, hlk, hxK⟩ := id X
  refine lv_aload_n hx hb dX3_spendOn_0 rfl (lv_at hl 0 rfl) ?_
  refine lv_iload_n hx hb dX3_spendOn_1 rfl (lv_at hl 1 rfl) ?_
  refine lv_iload_n hx hb dX3_spendOn_2 rfl (lv_at hl 2 rfl) ?_
  obtain ⟨ci_3, fs_3, cq_3, e1_3, e2_3⟩ := vo_rec k kd fr am le po ls
  have er_3 := he
  rw [e1_3] at er_3
  refine g_super (As := [.int day, .int g]) (rest := []) uw_X3_17 X (c_X4_spendOn l D tys 4 (by decide) he day g) hP hD hS hA er_3 e2_3 ⟨by show _ ≤ d; omega, by show _ ≤ 30 * d; omega⟩ rfl hl.1 rfl (Nat.le_of_ble_eq_true rfl) dX3_spendOn_3 ⟨Nat.le_refl _, Nat.le_refl _⟩ (kW fun H locs hP hD hS => ?_)
  have he : (ws.set q0 (a, vo_E k kd fr am (vSpL k fr le po day g) po ls))[q0]? = some (a, vo_E k kd fr am (vSpL k fr le po day g) po ls) := st_same he
  refine W.eq (g2 := F0 m 6 L [.int (vSp k fr le po day g)]) rfl ?_
  refine lv_istore_n (lv' := [(3, .int (vSp k fr le po day g)), (0, .ref a), (1, .int day), (2, .int g)]) hx hb dX3_spendOn_6 rfl hl (by decide) rfl (fun L hl => ?_)
  refine lv_iload_n hx hb dX3_spendOn_7 rfl (lv_at hl 0 rfl) ?_
  refine lv_if_lt (tgt := 24) hx hb dX3_spendOn_8 (by decide) (fun c_8 => ?_) (fun c_8 => ?_)
  · -- c_8 True
    refine lv_iload_n hx hb dX3_spendOn_24 rfl (lv_at hl 0 rfl) ?_
    exact e_int X hP hD hS dX3_spendOn_25 ⟨rfl, by simp only [if_pos c_8, List.set_set]⟩
  · -- c_8 False
    refine lv_aload_n hx hb dX3_spendOn_11 rfl (lv_at hl 1 rfl) ?_
    refine lv_dup hx hb dX3_spendOn_12 rfl ?_
    refine vo_gP X hP hk he mw_147 (Or.inl rfl) dX3_spendOn_13 ?_
    refine lv_iload_n hx hb dX3_spendOn_16 rfl (lv_at hl 3 rfl) ?_
    refine lv_bipush (v := 100) hx hb dX3_spendOn_17 (by decide) ?_
    refine lv_idiv hx hb dX3_spendOn_19 (by decide) ?_
    refine lv_iadd hx hb dX3_spendOn_20 ?_
    refine vo_pP X hP hD hS hk he mw_147 (Or.inl rfl) dX3_spendOn_21 (fun H locs hP hD hS => ?_)
    have he : ((ws.set q0 (a, vo_E k kd fr am (vSpL k fr le po day g) po ls)).set q0 (a, vo_E k kd fr am (vSpL k fr le po day g) (po + (g / 100)) ls))[q0]? = some (a, vo_E k kd fr am (vSpL k fr le po day g) (po + (g / 100)) ls) := st_same he
    refine lv_iload_n hx hb dX3_spendOn_24 rfl (lv_at hl 0 rfl) ?_
    exact e_int X hP hD hS dX3_spendOn_25 ⟨rfl, by simp only [if_neg c_8, List.set_set]⟩
set_option maxHeartbeats 4000000 in
set_option maxRecDepth 100000 in
theorem c_X4_takeIn (l : Launch) (D : va_G) (tys : List (ClassId × FieldType)) (d : Nat) (hd : 0 ≤ d) {ws : va_W} {q0 a k : Nat} {kd fr am le po ls : Int32} (he : ws[q0]? = some (a, vo_E k kd fr am le po ls)) {q1 b k2 : Nat} {kd2 fr2 am2 le2 po2 ls2 : Int32} (he2 : ws[q1]? = some (b, vo_E k2 kd2 fr2 am2 le2 po2 ls2)) (hne : q0 ≠ q1) : Ct l D tys yX4_takeIn cX4_takeIn 2 none d 0 0 [.ref a, .ref b] ws (pW none (ws.set q0 (a, vo_E k kd fr (am + am2) (le + le2) po ls))) := by
  refine ct_intro (by decide) (Nat.le_of_ble_eq_true rfl) ?_
  intro p e s m below meth c A L X hin hP hD hS hA hl
  have hl : lv_has L 2 [(0, .ref a), (1, .ref b)] := hl
  obtain ⟨hx, hb, hr, hml, hown, hts, hK, hlk, hxK⟩ := id X
  refine lv_aload_n hx hb dX4_takeIn_0 rfl (lv_at hl 0 rfl) ?_
  refine lv_dup hx hb dX4_takeIn_1 rfl ?_
  refine vo_gA X hP he mw_68 (Or.inl rfl) dX4_takeIn_2 ?_
  refine lv_aload_n hx hb dX4_takeIn_5 rfl (lv_at hl 1 rfl) ?_
  refine vo_gA X hP he2 mw_68 (Or.inl rfl) dX4_takeIn_6 ?_
  refine lv_iadd hx hb dX4_takeIn_9 ?_
  refine vo_pA X hP hD hS he mw_68 (Or.inl rfl) dX4_takeIn_10 (fun H locs hP hD hS => ?_)
  have he : (ws.set q0 (a, vo_E k kd fr (am + am2) le po ls))[q0]? = some (a, vo_E k kd fr (am + am2) le po ls) := st_same he
  have he2 : (ws.set q0 (a, vo_E k kd fr (am + am2) le po ls))[q1]? = some (b, vo_E k2 kd2 fr2 am2 le2 po2 ls2) := st_other hne he2
  refine lv_aload_n hx hb dX4_takeIn_13 rfl (lv_at hl 0 rfl) ?_
  refine lv_dup hx hb dX4_takeIn_14 rfl ?_
  refine vo_gL X hP he mw_70 (Or.inl rfl) dX4_takeIn_15 ?_
  refine lv_aload_n hx hb dX4_takeIn_18 rfl (lv_at hl 1 rfl) ?_
  refine vo_gL X hP he2 mw_70 (Or.inl rfl) dX4_takeIn_19 ?_
  refine lv_iadd hx hb dX4_takeIn_22 ?_
  refine vo_pL X hP hD hS he mw_70 (Or.inl rfl) dX4_takeIn_23 (fun H locs hP hD hS => ?_)
  have he : ((ws.set q0 (a, vo_E k kd fr (am + am2) le po ls)).set q0 (a, vo_E k kd fr (am + am2) (le + le2) po ls))[q0]? = some (a, vo_E k kd fr (am + am2) (le + le2) po ls) := st_same he
  have he2 : ((ws.set q0 (a, vo_E k kd fr (am + am2) le po ls)).set q0 (a, vo_E k kd fr (am + am2) (le + le2) po ls))[q1]? = some (b, vo_E k2 kd2 fr2 am2 le2 po2 ls2) := st_other hne he2
  exact e_void X hP hD hS dX4_takeIn_26 ⟨rfl, by simp only [List.set_set]⟩
set_option maxHeartbeats 4000000 in
set_option maxRecDepth 100000 in
theorem c_X3_takeIn (l : Launch) (D : va_G) (tys : List (ClassId × FieldType)) (d : Nat) (hd : 1 ≤ d) {ws : va_W} {q0 a k : Nat} {kd fr am le po ls : Int32} (he : ws[q0]? = some (a, vo_E k kd fr am le po ls)) {q1 b k2 : Nat} {kd2 fr2 am2 le2 po2 ls2 : Int32} (he2 : ws[q1]? = some (b, vo_E k2 kd2 fr2 am2 le2 po2 ls2)) (hne : q0 ≠ q1) (hk : 6 ≤ k) : Ct l D tys yX3_takeIn cX3_takeIn 2 none d 0 0 [.ref a, .ref b] ws (pW none (ws.set q0 (a, vo_E k kd fr (am + am2) (le + le2) (po + vPts k2 po2) ls))) := by
  refine ct_intro (by decide) (Nat.le_of_ble_eq_true rfl) ?_
  intro p e s m below meth c A L X hin hP hD hS hA hl
  have hl : lv_has L 2 [(0, .ref a), (1, .ref b)] := hl
  obtain ⟨hx, hb, hr, hml, hown, hts, hK, hlk, hxK⟩ := id X
  refine lv_aload_n hx hb dX3_takeIn_0 rfl (lv_at hl 0 rfl) ?_
  refine lv_aload_n hx hb dX3_takeIn_1 rfl (lv_at hl 1 rfl) ?_
  obtain ⟨ci_2, fs_2, cq_2, e1_2, e2_2⟩ := vo_rec k kd fr am le po ls
  have er_2 := he
  rw [e1_2] at er_2
  refine g_super (As := [.ref b]) (rest := []) uw_X3_21 X (c_X4_takeIn l D tys 0 (by decide) he he2 hne) hP hD hS hA er_2 e2_2 ⟨by show _ ≤ d; omega, by show _ ≤ 30 * d; omega⟩ rfl hl.1 rfl (Nat.le_of_ble_eq_true rfl) dX3_takeIn_2 ⟨Nat.le_refl _, Nat.le_refl _⟩ (kW fun H locs hP hD hS => ?_)
  have he : (ws.set q0 (a, vo_E k kd fr (am + am2) (le + le2) po ls))[q0]? = some (a, vo_E k kd fr (am + am2) (le + le2) po ls) := st_same he
  have he2 : (ws.set q0 (a, vo_E k kd fr (am + am2) (le + le2) po ls))[q1]? = some (b, vo_E k2 kd2 fr2 am2 le2 po2 ls2) := st_other hne he2
  refine W.eq (g2 := F0 m 5 L []) rfl ?_
  refine lv_aload_n hx hb dX3_takeIn_5 rfl (lv_at hl 0 rfl) ?_
  refine lv_dup hx hb dX3_takeIn_6 rfl ?_
  refine vo_gP X hP hk he mw_147 (Or.inl rfl) dX3_takeIn_7 ?_
  refine lv_aload_n hx hb dX3_takeIn_10 rfl (lv_at hl 1 rfl) ?_
  refine dv_pointsNow (rest := [.int po, .ref a]) X mw_375 hP hD hS hA he2 ⟨by show _ ≤ d; omega, by show _ ≤ 30 * d; omega⟩ hl.1 (Nat.le_of_ble_eq_true rfl) dX3_takeIn_11 ⟨Nat.le_refl _, Nat.le_refl _⟩ (fun H locs hP hD hS => ?_)
  refine lv_iadd hx hb dX3_takeIn_14 ?_
  refine vo_pP X hP hD hS hk he mw_147 (Or.inl rfl) dX3_takeIn_15 (fun H locs hP hD hS => ?_)
  have he : ((ws.set q0 (a, vo_E k kd fr (am + am2) (le + le2) po ls)).set q0 (a, vo_E k kd fr (am + am2) (le + le2) (po + (vPts k2 po2)) ls))[q0]? = some (a, vo_E k kd fr (am + am2) (le + le2) (po + (vPts k2 po2)) ls) := st_same he
  have he2 : ((ws.set q0 (a, vo_E k kd fr (am + am2) (le + le2) po ls)).set q0 (a, vo_E k kd fr (am + am2) (le + le2) (po + (vPts k2 po2)) ls))[q1]? = some (b, vo_E k2 kd2 fr2 am2 le2 po2 ls2) := st_other hne he2
  exact e_void X hP hD hS dX3_takeIn_18 ⟨rfl, by simp only [List.set_set]⟩
set_option maxHeartbeats 4000000 in
set_option maxRecDepth 100000 in
theorem c_X7_takeIn (l : Launch) (D : va_G) (tys : List (ClassId × FieldType)) (d : Nat) (hd : 1 ≤ d) {ws : va_W} {q0 a k : Nat} {kd fr am le po ls : Int32} (he : ws[q0]? = some (a, vo_E k kd fr am le po ls)) {q1 b k2 : Nat} {kd2 fr2 am2 le2 po2 ls2 : Int32} (he2 : ws[q1]? = some (b, vo_E k2 kd2 fr2 am2 le2 po2 ls2)) (hne : q0 ≠ q1) (hk : k = 3) : Ct l D tys yX7_takeIn cX7_takeIn 2 none d 0 0 [.ref a, .ref b] ws (pW none (ws.set q0 (a, vo_E k kd fr (am + am2) (le + le2) po (if ls < vLS k2 ls2 then vLS k2 ls2 else ls)))) := by
  refine ct_intro (by decide) (Nat.le_of_ble_eq_true rfl) ?_
  intro p e s m below meth c A L X hin hP hD hS hA hl
  have hl : lv_has L 2 [(0, .ref a), (1, .ref b)] := hl
  obtain ⟨hx, hb, hr, hml, hown, hts, hK, hlk, hxK⟩ := id X
  refine lv_aload_n hx hb dX7_takeIn_0 rfl (lv_at hl 0 rfl) ?_
  refine lv_aload_n hx hb dX7_takeIn_1 rfl (lv_at hl 1 rfl) ?_
  obtain ⟨ci_2, fs_2, cq_2, e1_2, e2_2⟩ := vo_rec k kd fr am le po ls
  have er_2 := he
  rw [e1_2] at er_2
  refine g_super (As := [.ref b]) (rest := []) uw_X7_31 X (c_X4_takeIn l D tys 0 (by decide) he he2 hne) hP hD hS hA er_2 e2_2 ⟨by show _ ≤ d; omega, by show _ ≤ 30 * d; omega⟩ rfl hl.1 rfl (Nat.le_of_ble_eq_true rfl) dX7_takeIn_2 ⟨Nat.le_refl _, Nat.le_refl _⟩ (kW fun H locs hP hD hS => ?_)
  have he : (ws.set q0 (a, vo_E k kd fr (am + am2) (le + le2) po ls))[q0]? = some (a, vo_E k kd fr (am + am2) (le + le2) po ls) := st_same he
  have he2 : (ws.set q0 (a, vo_E k kd fr (am + am2) (le + le2) po ls))[q1]? = some (b, vo_E k2 kd2 fr2 am2 le2 po2 ls2) := st_other hne he2
  refine W.eq (g2 := F0 m 5 L []) rfl ?_
  refine lv_aload_n hx hb dX7_takeIn_5 rfl (lv_at hl 0 rfl) ?_
  refine lv_aload_n hx hb dX7_takeIn_6 rfl (lv_at hl 0 rfl) ?_
  refine vo_gS X hP hk he mw_111 (Or.inl rfl) dX7_takeIn_7 ?_
  refine lv_aload_n hx hb dX7_takeIn_10 rfl (lv_at hl 1 rfl) ?_
  refine dv_lastSpent (rest := [.int ls, .ref a]) X mw_398 hP hD hS hA he2 ⟨by show _ ≤ d; omega, by show _ ≤ 30 * d; omega⟩ hl.1 (Nat.le_of_ble_eq_true rfl) dX7_takeIn_11 ⟨Nat.le_refl _, Nat.le_refl _⟩ (fun H locs hP hD hS => ?_)
  refine va_mmax hx hb (hml.trans hl.1.symm) hown (hts _ mw_412) (hts _ mw_236) (hts _ mw_11) (hts _ mw_237) (by show _ ≤ d; omega) (by show _ ≤ 30 * d; simp [Value.category]; omega) (Nat.le_refl _) (Nat.le_refl _) dX7_takeIn_14 ?_
  refine vo_pS X hP hD hS hk he mw_111 (Or.inl rfl) dX7_takeIn_17 (fun H locs hP hD hS => ?_)
  have he : ((ws.set q0 (a, vo_E k kd fr (am + am2) (le + le2) po ls)).set q0 (a, vo_E k kd fr (am + am2) (le + le2) po (if ls < (vLS k2 ls2) then (vLS k2 ls2) else ls)))[q0]? = some (a, vo_E k kd fr (am + am2) (le + le2) po (if ls < (vLS k2 ls2) then (vLS k2 ls2) else ls)) := st_same he
  have he2 : ((ws.set q0 (a, vo_E k kd fr (am + am2) (le + le2) po ls)).set q0 (a, vo_E k kd fr (am + am2) (le + le2) po (if ls < (vLS k2 ls2) then (vLS k2 ls2) else ls)))[q1]? = some (b, vo_E k2 kd2 fr2 am2 le2 po2 ls2) := st_other hne he2
  exact e_void X hP hD hS dX7_takeIn_20 ⟨rfl, by simp only [List.set_set]⟩
section DC
variable {p : Program} {l : Launch} {e : Env} {R : Room} {s : State} {m : MethodId} {args : Array Value} {below : List Frame} {meth : Method} {c : Code} {H : Heap} {locs : List Loc} {cells slots : Nat} {Q : State → Prop}
variable {pc : Nat} {L : Array Slot} {rest : List Value} {A0 : Nat → Prop} {H0 : Heap} {D : va_G} {tys : List (ClassId × FieldType)} {ws : va_W} {own : String} {cc : ByteArray} {nL idx q0 a k : Nat} {rt0 : Option FieldType} {kd fr am le po ls : Int32}
set_option maxHeartbeats 4000000 in
set_option maxRecDepth 100000 in
theorem dv_markOf (X : Cx p m c meth s args own cc nL rt0 D tys) (hl : Cond.methodLink own idx yX4_markOf ∈ wd_big) (hP : va_P D vwCl ws H) (hD : va_D A0 ws) (hS : va_S A0 H0 H locs) (hA : ∀ q, H0.size ≤ q → A0 q) (he : ws[q0]? = some (a, vo_E k kd fr am le po ls)) (hR : 3 ≤ R.frames ∧ 90 ≤ R.locals) (hsize : L.size = nL) (hW : (rest.map fun v => v.category).sum ≤ 8) (hdg : decode cc pc = .ok (.invokevirtual idx, 3)) (hf : cells ≤ R.cells ∧ slots ≤ R.slots) {n0 : Int32}
    (kk : ∀ (H1 : Heap) (locs1 : List Loc), va_P D vwCl ws H1 → va_D A0 ws → va_S A0 H0 H1 locs1 → W p l e R s m args below meth c H1 locs1 cells slots Q (F0 m (pc + 3) L (.int (vMark k fr am le po n0) :: rest))) : W p l e R s m args below meth c H locs cells slots Q (F0 m pc L (.int n0 :: .ref a :: rest)) := by
  match k, he, kk with
  | 0, he, kk => exact g_virt (n := 1) (As := [.int n0]) (rest := rest) (ci := 4) (cq := (RX4, TX4, 4)) ⟨hl, mw_307, mw_305, mw_306, mw_305, mw_3, mw_322, ⟨_, _, _, mw_322⟩, by decide +kernel⟩ X (c_X4_markOf l D tys 2 (by decide) he n0) hP hD hS hA he rfl rfl ⟨hR.1, Nat.le_trans (by decide) hR.2⟩ rfl hsize rfl hW hdg hf (kI kk)
  | 1, he, kk => exact g_virt (n := 1) (As := [.int n0]) (rest := rest) (ci := 2) (cq := (RX2, TX2, 4)) ⟨hl, mw_307, mw_305, mw_317, mw_305, mw_3, mw_322, ⟨_, _, _, mw_322⟩, by decide +kernel⟩ X (c_X4_markOf l D tys 2 (by decide) he n0) hP hD hS hA he rfl rfl ⟨hR.1, Nat.le_trans (by decide) hR.2⟩ rfl hsize rfl hW hdg hf (kI kk)
  | 2, he, kk => exact g_virt (n := 1) (As := [.int n0]) (rest := rest) (ci := 6) (cq := (RX6, TX6, 4)) ⟨hl, mw_307, mw_305, mw_320, mw_305, mw_3, mw_322, ⟨_, _, _, mw_322⟩, by decide +kernel⟩ X (c_X4_markOf l D tys 2 (by decide) he n0) hP hD hS hA he rfl rfl ⟨hR.1, Nat.le_trans (by decide) hR.2⟩ rfl hsize rfl hW hdg hf (kI kk)
  | 3, he, kk => exact g_virt (n := 1) (As := [.int n0]) (rest := rest) (ci := 7) (cq := (RX7, TX7, 5)) ⟨hl, mw_307, mw_305, mw_321, mw_305, mw_3, mw_322, ⟨_, _, _, mw_322⟩, by decide +kernel⟩ X (c_X4_markOf l D tys 2 (by decide) he n0) hP hD hS hA he rfl rfl ⟨hR.1, Nat.le_trans (by decide) hR.2⟩ rfl hsize rfl hW hdg hf (kI kk)
  | 4, he, kk => exact g_virt (n := 1) (As := [.int n0]) (rest := rest) (ci := 5) (cq := (RX5, TX5, 4)) ⟨hl, mw_307, mw_305, mw_319, mw_305, mw_3, mw_322, ⟨_, _, _, mw_322⟩, by decide +kernel⟩ X (c_X4_markOf l D tys 2 (by decide) he n0) hP hD hS hA he rfl rfl ⟨hR.1, Nat.le_trans (by decide) hR.2⟩ rfl hsize rfl hW hdg hf (kI kk)
  | 5, he, kk => exact g_virt (n := 1) (As := [.int n0]) (rest := rest) (ci := 0) (cq := (RX0, TX0, 4)) ⟨hl, mw_307, mw_305, mw_308, mw_309, mw_8, mw_310, ⟨_, _, _, mw_322⟩, by decide +kernel⟩ X (c_X0_markOf l D tys 2 (by decide) he (by omega) n0) hP hD hS hA he rfl rfl ⟨hR.1, Nat.le_trans (by decide) hR.2⟩ rfl hsize rfl hW hdg hf (kI kk)
  | 6, he, kk => exact g_virt (n := 1) (As := [.int n0]) (rest := rest) (ci := 3) (cq := (RX3, TX3, 5)) ⟨hl, mw_307, mw_305, mw_318, mw_309, mw_8, mw_310, ⟨_, _, _, mw_322⟩, by decide +kernel⟩ X (c_X0_markOf l D tys 2 (by decide) he (by omega) n0) hP hD hS hA he rfl rfl ⟨hR.1, Nat.le_trans (by decide) hR.2⟩ rfl hsize rfl hW hdg hf (kI kk)
  | n + 7, he, kk => exact g_virt (n := 1) (As := [.int n0]) (rest := rest) (ci := 1) (cq := (RX1, TX1, 5)) ⟨hl, mw_307, mw_305, mw_316, mw_309, mw_8, mw_310, ⟨_, _, _, mw_322⟩, by decide +kernel⟩ X (c_X0_markOf l D tys 2 (by decide) he (by omega) n0) hP hD hS hA he rfl rfl ⟨hR.1, Nat.le_trans (by decide) hR.2⟩ rfl hsize rfl hW hdg hf (kI kk)
set_option maxHeartbeats 4000000 in
set_option maxRecDepth 100000 in
theorem dv_spendOn (X : Cx p m c meth s args own cc nL rt0 D tys) (hl : Cond.methodLink own idx yX4_spendOn ∈ wd_big) (hP : va_P D vwCl ws H) (hD : va_D A0 ws) (hS : va_S A0 H0 H locs) (hA : ∀ q, H0.size ≤ q → A0 q) (he : ws[q0]? = some (a, vo_E k kd fr am le po ls)) (hR : 6 ≤ R.frames ∧ 180 ≤ R.locals) (hsize : L.size = nL) (hW : (rest.map fun v => v.category).sum ≤ 8) (hdg : decode cc pc = .ok (.invokevirtual idx, 3)) (hf : cells ≤ R.cells ∧ slots ≤ R.slots) {day g : Int32}
    (kk : ∀ (H1 : Heap) (locs1 : List Loc), va_P D vwCl (ws.set q0 (a, vo_E k kd fr am (vSL k fr le po ls day g) (vSP k fr le po day g) (vSS k fr le po ls day g))) H1 → va_D A0 (ws.set q0 (a, vo_E k kd fr am (vSL k fr le po ls day g) (vSP k fr le po day g) (vSS k fr le po ls day g))) → va_S A0 H0 H1 locs1 → W p l e R s m args below meth c H1 locs1 cells slots Q (F0 m (pc + 3) L (.int (vSR k fr le po ls day g) :: rest))) : W p l e R s m args below meth c H locs cells slots Q (F0 m pc L (.int g :: .int day :: .ref a :: rest)) := by
  match k, he, kk with
  | 0, he, kk => exact g_virt (n := 2) (As := [.int day, .int g]) (rest := rest) (ci := 4) (cq := (RX4, TX4, 4)) ⟨hl, mw_255, mw_253, mw_254, mw_253, mw_3, mw_272, ⟨_, _, _, mw_272⟩, by decide +kernel⟩ X (c_X4_spendOn l D tys 5 (by decide) he day g) hP hD hS hA he rfl rfl ⟨hR.1, Nat.le_trans (by decide) hR.2⟩ rfl hsize rfl hW hdg hf (kW kk)
  | 1, he, kk => exact g_virt (n := 2) (As := [.int day, .int g]) (rest := rest) (ci := 2) (cq := (RX2, TX2, 4)) ⟨hl, mw_255, mw_253, mw_263, mw_253, mw_3, mw_272, ⟨_, _, _, mw_272⟩, by decide +kernel⟩ X (c_X4_spendOn l D tys 5 (by decide) he day g) hP hD hS hA he rfl rfl ⟨hR.1, Nat.le_trans (by decide) hR.2⟩ rfl hsize rfl hW hdg hf (kW kk)
  | 2, he, kk => exact g_virt (n := 2) (As := [.int day, .int g]) (rest := rest) (ci := 6) (cq := (RX6, TX6, 4)) ⟨hl, mw_255, mw_253, mw_266, mw_253, mw_3, mw_272, ⟨_, _, _, mw_272⟩, by decide +kernel⟩ X (c_X4_spendOn l D tys 5 (by decide) he day g) hP hD hS hA he rfl rfl ⟨hR.1, Nat.le_trans (by decide) hR.2⟩ rfl hsize rfl hW hdg hf (kW kk)
  | 3, he, kk => exact g_virt (n := 2) (As := [.int day, .int g]) (rest := rest) (ci := 7) (cq := (RX7, TX7, 5)) ⟨hl, mw_255, mw_253, mw_267, mw_268, mw_6, mw_269, ⟨_, _, _, mw_272⟩, by decide +kernel⟩ X (c_X7_spendOn l D tys 5 (by decide) he rfl day g) hP hD hS hA he rfl rfl ⟨hR.1, Nat.le_trans (by decide) hR.2⟩ rfl hsize rfl hW hdg hf (kW kk)
  | 4, he, kk => exact g_virt (n := 2) (As := [.int day, .int g]) (rest := rest) (ci := 5) (cq := (RX5, TX5, 4)) ⟨hl, mw_255, mw_253, mw_265, mw_253, mw_3, mw_272, ⟨_, _, _, mw_272⟩, by decide +kernel⟩ X (c_X4_spendOn l D tys 5 (by decide) he day g) hP hD hS hA he rfl rfl ⟨hR.1, Nat.le_trans (by decide) hR.2⟩ rfl hsize rfl hW hdg hf (kW kk)
  | 5, he, kk => exact g_virt (n := 2) (As := [.int day, .int g]) (rest := rest) (ci := 0) (cq := (RX0, TX0, 4)) ⟨hl, mw_255, mw_253, mw_256, mw_253, mw_3, mw_272, ⟨_, _, _, mw_272⟩, by decide +kernel⟩ X (c_X4_spendOn l D tys 5 (by decide) he day g) hP hD hS hA he rfl rfl ⟨hR.1, Nat.le_trans (by decide) hR.2⟩ rfl hsize rfl hW hdg hf (kW kk)
  | 6, he, kk => exact g_virt (n := 2) (As := [.int day, .int g]) (rest := rest) (ci := 3) (cq := (RX3, TX3, 5)) ⟨hl, mw_255, mw_253, mw_264, mw_258, mw_9, mw_259, ⟨_, _, _, mw_272⟩, by decide +kernel⟩ X (c_X3_spendOn l D tys 5 (by decide) he (by omega) day g) hP hD hS hA he rfl rfl ⟨hR.1, Nat.le_trans (by decide) hR.2⟩ rfl hsize rfl hW hdg hf (kW kk)
  | n + 7, he, kk => exact g_virt (n := 2) (As := [.int day, .int g]) (rest := rest) (ci := 1) (cq := (RX1, TX1, 5)) ⟨hl, mw_255, mw_253, mw_257, mw_258, mw_9, mw_259, ⟨_, _, _, mw_272⟩, by decide +kernel⟩ X (c_X3_spendOn l D tys 5 (by decide) he (by omega) day g) hP hD hS hA he rfl rfl ⟨hR.1, Nat.le_trans (by decide) hR.2⟩ rfl hsize rfl hW hdg hf (kW kk)
set_option maxHeartbeats 4000000 in
set_option maxRecDepth 100000 in
theorem dv_takeIn (X : Cx p m c meth s args own cc nL rt0 D tys) (hl : Cond.methodLink own idx yX4_takeIn ∈ wd_big) (hP : va_P D vwCl ws H) (hD : va_D A0 ws) (hS : va_S A0 H0 H locs) (hA : ∀ q, H0.size ≤ q → A0 q) (he : ws[q0]? = some (a, vo_E k kd fr am le po ls)) (hR : 2 ≤ R.frames ∧ 60 ≤ R.locals) (hsize : L.size = nL) (hW : (rest.map fun v => v.category).sum ≤ 8) (hdg : decode cc pc = .ok (.invokevirtual idx, 3)) (hf : cells ≤ R.cells ∧ slots ≤ R.slots) {q1 b k2 : Nat} {kd2 fr2 am2 le2 po2 ls2 : Int32} (he2 : ws[q1]? = some (b, vo_E k2 kd2 fr2 am2 le2 po2 ls2)) (hne : q0 ≠ q1)
    (kk : ∀ (H1 : Heap) (locs1 : List Loc), va_P D vwCl (ws.set q0 (a, vo_E k kd fr (am + am2) (le + le2) (vTP k po k2 po2) (vTS k ls k2 ls2))) H1 → va_D A0 (ws.set q0 (a, vo_E k kd fr (am + am2) (le + le2) (vTP k po k2 po2) (vTS k ls k2 ls2))) → va_S A0 H0 H1 locs1 → W p l e R s m args below meth c H1 locs1 cells slots Q (F0 m (pc + 3) L (rest))) : W p l e R s m args below meth c H locs cells slots Q (F0 m pc L (.ref b :: .ref a :: rest)) := by
  match k, he, kk with
  | 0, he, kk => exact g_virt (n := 1) (As := [.ref b]) (rest := rest) (ci := 4) (cq := (RX4, TX4, 4)) ⟨hl, mw_367, mw_365, mw_366, mw_365, mw_3, mw_413, ⟨_, _, _, mw_413⟩, by decide +kernel⟩ X (c_X4_takeIn l D tys 1 (by decide) he he2 hne) hP hD hS hA he rfl rfl ⟨hR.1, Nat.le_trans (by decide) hR.2⟩ rfl hsize rfl hW hdg hf (kW kk)
  | 1, he, kk => exact g_virt (n := 1) (As := [.ref b]) (rest := rest) (ci := 2) (cq := (RX2, TX2, 4)) ⟨hl, mw_367, mw_365, mw_389, mw_365, mw_3, mw_413, ⟨_, _, _, mw_413⟩, by decide +kernel⟩ X (c_X4_takeIn l D tys 1 (by decide) he he2 hne) hP hD hS hA he rfl rfl ⟨hR.1, Nat.le_trans (by decide) hR.2⟩ rfl hsize rfl hW hdg hf (kW kk)
  | 2, he, kk => exact g_virt (n := 1) (As := [.ref b]) (rest := rest) (ci := 6) (cq := (RX6, TX6, 4)) ⟨hl, mw_367, mw_365, mw_392, mw_365, mw_3, mw_413, ⟨_, _, _, mw_413⟩, by decide +kernel⟩ X (c_X4_takeIn l D tys 1 (by decide) he he2 hne) hP hD hS hA he rfl rfl ⟨hR.1, Nat.le_trans (by decide) hR.2⟩ rfl hsize rfl hW hdg hf (kW kk)
  | 3, he, kk => exact g_virt (n := 1) (As := [.ref b]) (rest := rest) (ci := 7) (cq := (RX7, TX7, 5)) ⟨hl, mw_367, mw_365, mw_393, mw_394, mw_6, mw_395, ⟨_, _, _, mw_413⟩, by decide +kernel⟩ X (c_X7_takeIn l D tys 1 (by decide) he he2 hne rfl) hP hD hS hA he rfl rfl ⟨hR.1, Nat.le_trans (by decide) hR.2⟩ rfl hsize rfl hW hdg hf (kW kk)
  | 4, he, kk => exact g_virt (n := 1) (As := [.ref b]) (rest := rest) (ci := 5) (cq := (RX5, TX5, 4)) ⟨hl, mw_367, mw_365, mw_391, mw_365, mw_3, mw_413, ⟨_, _, _, mw_413⟩, by decide +kernel⟩ X (c_X4_takeIn l D tys 1 (by decide) he he2 hne) hP hD hS hA he rfl rfl ⟨hR.1, Nat.le_trans (by decide) hR.2⟩ rfl hsize rfl hW hdg hf (kW kk)
  | 5, he, kk => exact g_virt (n := 1) (As := [.ref b]) (rest := rest) (ci := 0) (cq := (RX0, TX0, 4)) ⟨hl, mw_367, mw_365, mw_368, mw_365, mw_3, mw_413, ⟨_, _, _, mw_413⟩, by decide +kernel⟩ X (c_X4_takeIn l D tys 1 (by decide) he he2 hne) hP hD hS hA he rfl rfl ⟨hR.1, Nat.le_trans (by decide) hR.2⟩ rfl hsize rfl hW hdg hf (kW kk)
  | 6, he, kk => exact g_virt (n := 1) (As := [.ref b]) (rest := rest) (ci := 3) (cq := (RX3, TX3, 5)) ⟨hl, mw_367, mw_365, mw_390, mw_370, mw_9, mw_371, ⟨_, _, _, mw_413⟩, by decide +kernel⟩ X (c_X3_takeIn l D tys 1 (by decide) he he2 hne (by omega)) hP hD hS hA he rfl rfl ⟨hR.1, Nat.le_trans (by decide) hR.2⟩ rfl hsize rfl hW hdg hf (kW kk)
  | n + 7, he, kk => exact g_virt (n := 1) (As := [.ref b]) (rest := rest) (ci := 1) (cq := (RX1, TX1, 5)) ⟨hl, mw_367, mw_365, mw_369, mw_370, mw_9, mw_371, ⟨_, _, _, mw_413⟩, by decide +kernel⟩ X (c_X3_takeIn l D tys 1 (by decide) he he2 hne (by omega)) hP hD hS hA he rfl rfl ⟨hR.1, Nat.le_trans (by decide) hR.2⟩ rfl hsize rfl hW hdg hf (kW kk)
end DC
end
section
/-- cells of the reference -/
def isM (e : va_E) : Prop := match e with
  | .inr (c, _) => c = 9
  | .inl (_, _, .inl _) => True
  | .inl (_, _, .inr _) => False
def mSet (ar : Nat → Nat → Int32) (j i : Nat) (x : Int32) : Nat → Nat → Int32 := va_up ar j (upd (ar j) i x)
def mo_o (sc : Nat → Int32) (ad : Nat → Nat) : va_E := .inr (9, [.int (sc 0), .int (sc 1), .int (sc 2), .int (sc 3), .int (sc 4), .int (sc 5), .ref (ad 0), .ref (ad 1), .ref (ad 2), .ref (ad 3), .ref (ad 4), .ref (ad 5), .ref (ad 6)])
/-- the reference stands in the world ws: its object at h (place q 0), its rows at ad 0 .. ad 6 (places q 1 .. q 7) -/
def mo_at (cI cZ : ClassId) (ws : va_W) (h : Nat) (q ad : Nat → Nat) (sc : Nat → Int32) (ar : Nat → Nat → Int32) : Prop :=
  ws[q 0]? = some (h, mo_o sc ad) ∧ ws[q 1]? = some (ad 0, .inl (cI, 40, .inl (ar 0))) ∧ ws[q 2]? = some (ad 1, .inl (cI, 40, .inl (ar 1))) ∧ ws[q 3]? = some (ad 2, .inl (cI, 40, .inl (ar 2))) ∧ ws[q 4]? = some (ad 3, .inl (cI, 40, .inl (ar 3))) ∧ ws[q 5]? = some (ad 4, .inl (cI, 40, .inl (ar 4))) ∧ ws[q 6]? = some (ad 5, .inl (cI, 40, .inl (ar 5))) ∧ ws[q 7]? = some (ad 6, .inl (cZ, 40, .inl (ar 6))) ∧ ∀ i j, i < 8 → j < 8 → q i = q j → i = j
def mo_fr (ws w : va_W) : Prop := ∀ (i : Nat) (a : Nat) (e : va_E), ws[i]? = some (a, e) → ¬ isM e → w[i]? = some (a, e)
theorem mo_fr_rf (ws : va_W) : mo_fr ws ws := fun _ _ _ h _ => h
theorem mo_fr_tr {w0 w1 w2 : va_W} (h1 : mo_fr w0 w1) (h2 : mo_fr w1 w2) : mo_fr w0 w2 := fun i a e h hn => h2 i a e (h1 i a e h hn) hn
theorem mo_fr_set {ws : va_W} {q : Nat} {a0 : Nat} {e0 : va_E} {y : Nat × va_E} (h : ws[q]? = some (a0, e0)) (hM : isM e0) : mo_fr ws (ws.set q y) := fun i a e hi hn => by
  refine st_other ?_ hi
  intro hq
  subst hq
  cases h.symm.trans hi
  exact hn hM
section MG
variable {p : Program} {l : Launch} {e : Env} {R : Room} {s : State} {m : MethodId} {args : Array Value} {below : List Frame} {meth : Method} {c : Code} {H : Heap} {locs : List Loc} {cells slots : Nat} {Q : State → Prop}
variable {pc : Nat} {L : Array Slot} {rest : List Value} {A : Nat → Prop} {H0 : Heap} {D : va_G} {cI cZ cP : ClassId} {ws ws0 : va_W} {own : String} {cc : ByteArray} {nL idx h : Nat} {rt0 : Option FieldType} {q ad : Nat → Nat} {sc : Nat → Int32} {ar : Nat → Nat → Int32}
theorem mo_g0 (X : Cx p m c meth s args own cc nL rt0 D (vTy cI cZ cP)) (hP : va_P D vwCl ws H) (hm : mo_at cI cZ ws h q ad sc ar) (hlink : Cond.fieldLink own idx "VoucherOfficeModel" "day" "I" ∈ wd_big) (hdg : decode cc pc = .ok (.getfield idx, 3)) (kk : W p l e R s m args below meth c H locs cells slots Q (F0 m (pc + 3) L (.int (sc 0) :: rest))) : W p l e R s m args below meth c H locs cells slots Q (F0 m pc L (.ref h :: rest)) := by
  obtain ⟨hx, hb, hr, hml, hown, hts, hK, hlk, hxK⟩ := X
  exact va_get (ci := 9) (C := RX9) (T := TX9) (N := 13) hx hb hts in_X9 hown hK hP (q 0) hm.1 rfl 0 (by decide) (hts _ hlink) (fun _ h9 => h9) rfl hdg kk
theorem mo_g1 (X : Cx p m c meth s args own cc nL rt0 D (vTy cI cZ cP)) (hP : va_P D vwCl ws H) (hm : mo_at cI cZ ws h q ad sc ar) (hlink : Cond.fieldLink own idx "VoucherOfficeModel" "issued" "I" ∈ wd_big) (hdg : decode cc pc = .ok (.getfield idx, 3)) (kk : W p l e R s m args below meth c H locs cells slots Q (F0 m (pc + 3) L (.int (sc 1) :: rest))) : W p l e R s m args below meth c H locs cells slots Q (F0 m pc L (.ref h :: rest)) := by
  obtain ⟨hx, hb, hr, hml, hown, hts, hK, hlk, hxK⟩ := X
  exact va_get (ci := 9) (C := RX9) (T := TX9) (N := 13) hx hb hts in_X9 hown hK hP (q 0) hm.1 rfl 1 (by decide) (hts _ hlink) (fun _ h9 => h9) rfl hdg kk
theorem mo_g2 (X : Cx p m c meth s args own cc nL rt0 D (vTy cI cZ cP)) (hP : va_P D vwCl ws H) (hm : mo_at cI cZ ws h q ad sc ar) (hlink : Cond.fieldLink own idx "VoucherOfficeModel" "amounts" "I" ∈ wd_big) (hdg : decode cc pc = .ok (.getfield idx, 3)) (kk : W p l e R s m args below meth c H locs cells slots Q (F0 m (pc + 3) L (.int (sc 2) :: rest))) : W p l e R s m args below meth c H locs cells slots Q (F0 m pc L (.ref h :: rest)) := by
  obtain ⟨hx, hb, hr, hml, hown, hts, hK, hlk, hxK⟩ := X
  exact va_get (ci := 9) (C := RX9) (T := TX9) (N := 13) hx hb hts in_X9 hown hK hP (q 0) hm.1 rfl 2 (by decide) (hts _ hlink) (fun _ h9 => h9) rfl hdg kk
theorem mo_g3 (X : Cx p m c meth s args own cc nL rt0 D (vTy cI cZ cP)) (hP : va_P D vwCl ws H) (hm : mo_at cI cZ ws h q ad sc ar) (hlink : Cond.fieldLink own idx "VoucherOfficeModel" "spent" "I" ∈ wd_big) (hdg : decode cc pc = .ok (.getfield idx, 3)) (kk : W p l e R s m args below meth c H locs cells slots Q (F0 m (pc + 3) L (.int (sc 3) :: rest))) : W p l e R s m args below meth c H locs cells slots Q (F0 m pc L (.ref h :: rest)) := by
  obtain ⟨hx, hb, hr, hml, hown, hts, hK, hlk, hxK⟩ := X
  exact va_get (ci := 9) (C := RX9) (T := TX9) (N := 13) hx hb hts in_X9 hown hK hP (q 0) hm.1 rfl 3 (by decide) (hts _ hlink) (fun _ h9 => h9) rfl hdg kk
theorem mo_g4 (X : Cx p m c meth s args own cc nL rt0 D (vTy cI cZ cP)) (hP : va_P D vwCl ws H) (hm : mo_at cI cZ ws h q ad sc ar) (hlink : Cond.fieldLink own idx "VoucherOfficeModel" "fees" "I" ∈ wd_big) (hdg : decode cc pc = .ok (.getfield idx, 3)) (kk : W p l e R s m args below meth c H locs cells slots Q (F0 m (pc + 3) L (.int (sc 4) :: rest))) : W p l e R s m args below meth c H locs cells slots Q (F0 m pc L (.ref h :: rest)) := by
  obtain ⟨hx, hb, hr, hml, hown, hts, hK, hlk, hxK⟩ := X
  exact va_get (ci := 9) (C := RX9) (T := TX9) (N := 13) hx hb hts in_X9 hown hK hP (q 0) hm.1 rfl 4 (by decide) (hts _ hlink) (fun _ h9 => h9) rfl hdg kk
theorem mo_g5 (X : Cx p m c meth s args own cc nL rt0 D (vTy cI cZ cP)) (hP : va_P D vwCl ws H) (hm : mo_at cI cZ ws h q ad sc ar) (hlink : Cond.fieldLink own idx "VoucherOfficeModel" "lapsed" "I" ∈ wd_big) (hdg : decode cc pc = .ok (.getfield idx, 3)) (kk : W p l e R s m args below meth c H locs cells slots Q (F0 m (pc + 3) L (.int (sc 5) :: rest))) : W p l e R s m args below meth c H locs cells slots Q (F0 m pc L (.ref h :: rest)) := by
  obtain ⟨hx, hb, hr, hml, hown, hts, hK, hlk, hxK⟩ := X
  exact va_get (ci := 9) (C := RX9) (T := TX9) (N := 13) hx hb hts in_X9 hown hK hP (q 0) hm.1 rfl 5 (by decide) (hts _ hlink) (fun _ h9 => h9) rfl hdg kk
theorem mo_r0 (X : Cx p m c meth s args own cc nL rt0 D (vTy cI cZ cP)) (hP : va_P D vwCl ws H) (hm : mo_at cI cZ ws h q ad sc ar) (hlink : Cond.fieldLink own idx "VoucherOfficeModel" "kindOf" "[I" ∈ wd_big) (hdg : decode cc pc = .ok (.getfield idx, 3)) (kk : W p l e R s m args below meth c H locs cells slots Q (F0 m (pc + 3) L (.ref (ad 0) :: rest))) : W p l e R s m args below meth c H locs cells slots Q (F0 m pc L (.ref h :: rest)) := by
  obtain ⟨hx, hb, hr, hml, hown, hts, hK, hlk, hxK⟩ := X
  exact va_get (ci := 9) (C := RX9) (T := TX9) (N := 13) hx hb hts in_X9 hown hK hP (q 0) hm.1 rfl 6 (by decide) (hts _ hlink) (fun _ h9 => h9) rfl hdg kk
theorem mo_a0 (X : Cx p m c meth s args own cc nL rt0 D (vTy cI cZ cP)) (hP : va_P D vwCl ws H) (hm : mo_at cI cZ ws h q ad sc ar) {i : Int32} (hi : vp_in i 40) (hdg : decode cc pc = .ok (.iaload, 1)) (kk : W p l e R s m args below meth c H locs cells slots Q (F0 m (pc + 1) L (.int (ar 0 i.toNatClampNeg) :: rest))) : W p l e R s m args below meth c H locs cells slots Q (F0 m pc L (.int i :: .ref (ad 0) :: rest)) := by
  obtain ⟨hx, hb, hr, hml, hown, hts, hK, hlk, hxK⟩ := X
  exact va_iald hx hb hK hP (q 1) 0 hm.2.1 rfl hi hdg kk
theorem mo_s0 (X : Cx p m c meth s args own cc nL rt0 D (vTy cI cZ cP)) (hP : va_P D vwCl ws H) (hD : va_D A ws) (hS : va_S A H0 H locs) (hm : mo_at cI cZ ws h q ad sc ar) (hfr : mo_fr ws0 ws) {i x : Int32} (hi : vp_in i 40) (hdg : decode cc pc = .ok (.iastore, 1)) (kk : ∀ (w : va_W) (H1 : Heap) (locs1 : List Loc), va_P D vwCl w H1 → va_D A w → va_S A H0 H1 locs1 → mo_at cI cZ w h q ad sc (mSet ar 0 i.toNatClampNeg x) → mo_fr ws0 w → W p l e R s m args below meth c H1 locs1 cells slots Q (F0 m (pc + 1) L rest)) : W p l e R s m args below meth c H locs cells slots Q (F0 m pc L (.int x :: .int i :: .ref (ad 0) :: rest)) := by
  obtain ⟨hx, hb, hr, hml, hown, hts, hK, hlk, hxK⟩ := X
  refine va_iast hx hb hK hP hD hS (q 1) 0 hm.2.1 rfl hi hdg (fun H1 locs1 hP1 hD1 hS1 => kk _ H1 locs1 hP1 hD1 hS1 ?_ (mo_fr_tr hfr (mo_fr_set hm.2.1 trivial)))
  obtain ⟨h0, h1, h2, h3, h4, h5, h6, h7, hq⟩ := hm
  exact ⟨st_other (fun z => absurd (hq 1 0 (by decide) (by decide) z) (by decide)) h0, (st_same h1).trans rfl, st_other (fun z => absurd (hq 1 2 (by decide) (by decide) z) (by decide)) h2, st_other (fun z => absurd (hq 1 3 (by decide) (by decide) z) (by decide)) h3, st_other (fun z => absurd (hq 1 4 (by decide) (by decide) z) (by decide)) h4, st_other (fun z => absurd (hq 1 5 (by decide) (by decide) z) (by decide)) h5, st_other (fun z => absurd (hq 1 6 (by decide) (by decide) z) (by decide)) h6, st_other (fun z => absurd (hq 1 7 (by decide) (by decide) z) (by decide)) h7, hq⟩
theorem mo_r1 (X : Cx p m c meth s args own cc nL rt0 D (vTy cI cZ cP)) (hP : va_P D vwCl ws H) (hm : mo_at cI cZ ws h q ad sc ar) (hlink : Cond.fieldLink own idx "VoucherOfficeModel" "amountOf" "[I" ∈ wd_big) (hdg : decode cc pc = .ok (.getfield idx, 3)) (kk : W p l e R s m args below meth c H locs cells slots Q (F0 m (pc + 3) L (.ref (ad 1) :: rest))) : W p l e R s m args below meth c H locs cells slots Q (F0 m pc L (.ref h :: rest)) := by
  obtain ⟨hx, hb, hr, hml, hown, hts, hK, hlk, hxK⟩ := X
  exact va_get (ci := 9) (C := RX9) (T := TX9) (N := 13) hx hb hts in_X9 hown hK hP (q 0) hm.1 rfl 7 (by decide) (hts _ hlink) (fun _ h9 => h9) rfl hdg kk
theorem mo_a1 (X : Cx p m c meth s args own cc nL rt0 D (vTy cI cZ cP)) (hP : va_P D vwCl ws H) (hm : mo_at cI cZ ws h q ad sc ar) {i : Int32} (hi : vp_in i 40) (hdg : decode cc pc = .ok (.iaload, 1)) (kk : W p l e R s m args below meth c H locs cells slots Q (F0 m (pc + 1) L (.int (ar 1 i.toNatClampNeg) :: rest))) : W p l e R s m args below meth c H locs cells slots Q (F0 m pc L (.int i :: .ref (ad 1) :: rest)) := by
  obtain ⟨hx, hb, hr, hml, hown, hts, hK, hlk, hxK⟩ := X
  exact va_iald hx hb hK hP (q 2) 0 hm.2.2.1 rfl hi hdg kk
theorem mo_s1 (X : Cx p m c meth s args own cc nL rt0 D (vTy cI cZ cP)) (hP : va_P D vwCl ws H) (hD : va_D A ws) (hS : va_S A H0 H locs) (hm : mo_at cI cZ ws h q ad sc ar) (hfr : mo_fr ws0 ws) {i x : Int32} (hi : vp_in i 40) (hdg : decode cc pc = .ok (.iastore, 1)) (kk : ∀ (w : va_W) (H1 : Heap) (locs1 : List Loc), va_P D vwCl w H1 → va_D A w → va_S A H0 H1 locs1 → mo_at cI cZ w h q ad sc (mSet ar 1 i.toNatClampNeg x) → mo_fr ws0 w → W p l e R s m args below meth c H1 locs1 cells slots Q (F0 m (pc + 1) L rest)) : W p l e R s m args below meth c H locs cells slots Q (F0 m pc L (.int x :: .int i :: .ref (ad 1) :: rest)) := by
  obtain ⟨hx, hb, hr, hml, hown, hts, hK, hlk, hxK⟩ := X
  refine va_iast hx hb hK hP hD hS (q 2) 0 hm.2.2.1 rfl hi hdg (fun H1 locs1 hP1 hD1 hS1 => kk _ H1 locs1 hP1 hD1 hS1 ?_ (mo_fr_tr hfr (mo_fr_set hm.2.2.1 trivial)))
  obtain ⟨h0, h1, h2, h3, h4, h5, h6, h7, hq⟩ := hm
  exact ⟨st_other (fun z => absurd (hq 2 0 (by decide) (by decide) z) (by decide)) h0, st_other (fun z => absurd (hq 2 1 (by decide) (by decide) z) (by decide)) h1, (st_same h2).trans rfl, st_other (fun z => absurd (hq 2 3 (by decide) (by decide) z) (by decide)) h3, st_other (fun z => absurd (hq 2 4 (by decide) (by decide) z) (by decide)) h4, st_other (fun z => absurd (hq 2 5 (by decide) (by decide) z) (by decide)) h5, st_other (fun z => absurd (hq 2 6 (by decide) (by decide) z) (by decide)) h6, st_other (fun z => absurd (hq 2 7 (by decide) (by decide) z) (by decide)) h7, hq⟩
theorem mo_r2 (X : Cx p m c meth s args own cc nL rt0 D (vTy cI cZ cP)) (hP : va_P D vwCl ws H) (hm : mo_at cI cZ ws h q ad sc ar) (hlink : Cond.fieldLink own idx "VoucherOfficeModel" "leftOf" "[I" ∈ wd_big) (hdg : decode cc pc = .ok (.getfield idx, 3)) (kk : W p l e R s m args below meth c H locs cells slots Q (F0 m (pc + 3) L (.ref (ad 2) :: rest))) : W p l e R s m args below meth c H locs cells slots Q (F0 m pc L (.ref h :: rest)) := by
  obtain ⟨hx, hb, hr, hml, hown, hts, hK, hlk, hxK⟩ := X
  exact va_get (ci := 9) (C := RX9) (T := TX9) (N := 13) hx hb hts in_X9 hown hK hP (q 0) hm.1 rfl 8 (by decide) (hts _ hlink) (fun _ h9 => h9) rfl hdg kk
theorem mo_a2 (X : Cx p m c meth s args own cc nL rt0 D (vTy cI cZ cP)) (hP : va_P D vwCl ws H) (hm : mo_at cI cZ ws h q ad sc ar) {i : Int32} (hi : vp_in i 40) (hdg : decode cc pc = .ok (.iaload, 1)) (kk : W p l e R s m args below meth c H locs cells slots Q (F0 m (pc + 1) L (.int (ar 2 i.toNatClampNeg) :: rest))) : W p l e R s m args below meth c H locs cells slots Q (F0 m pc L (.int i :: .ref (ad 2) :: rest)) := by
  obtain ⟨hx, hb, hr, hml, hown, hts, hK, hlk, hxK⟩ := X
  exact va_iald hx hb hK hP (q 3) 0 hm.2.2.2.1 rfl hi hdg kk
theorem mo_s2 (X : Cx p m c meth s args own cc nL rt0 D (vTy cI cZ cP)) (hP : va_P D vwCl ws H) (hD : va_D A ws) (hS : va_S A H0 H locs) (hm : mo_at cI cZ ws h q ad sc ar) (hfr : mo_fr ws0 ws) {i x : Int32} (hi : vp_in i 40) (hdg : decode cc pc = .ok (.iastore, 1)) (kk : ∀ (w : va_W) (H1 : Heap) (locs1 : List Loc), va_P D vwCl w H1 → va_D A w → va_S A H0 H1 locs1 → mo_at cI cZ w h q ad sc (mSet ar 2 i.toNatClampNeg x) → mo_fr ws0 w → W p l e R s m args below meth c H1 locs1 cells slots Q (F0 m (pc + 1) L rest)) : W p l e R s m args below meth c H locs cells slots Q (F0 m pc L (.int x :: .int i :: .ref (ad 2) :: rest)) := by
  obtain ⟨hx, hb, hr, hml, hown, hts, hK, hlk, hxK⟩ := X
  refine va_iast hx hb hK hP hD hS (q 3) 0 hm.2.2.2.1 rfl hi hdg (fun H1 locs1 hP1 hD1 hS1 => kk _ H1 locs1 hP1 hD1 hS1 ?_ (mo_fr_tr hfr (mo_fr_set hm.2.2.2.1 trivial)))
  obtain ⟨h0, h1, h2, h3, h4, h5, h6, h7, hq⟩ := hm
  exact ⟨st_other (fun z => absurd (hq 3 0 (by decide) (by decide) z) (by decide)) h0, st_other (fun z => absurd (hq 3 1 (by decide) (by decide) z) (by decide)) h1, st_other (fun z => absurd (hq 3 2 (by decide) (by decide) z) (by decide)) h2, (st_same h3).trans rfl, st_other (fun z => absurd (hq 3 4 (by decide) (by decide) z) (by decide)) h4, st_other (fun z => absurd (hq 3 5 (by decide) (by decide) z) (by decide)) h5, st_other (fun z => absurd (hq 3 6 (by decide) (by decide) z) (by decide)) h6, st_other (fun z => absurd (hq 3 7 (by decide) (by decide) z) (by decide)) h7, hq⟩
theorem mo_r3 (X : Cx p m c meth s args own cc nL rt0 D (vTy cI cZ cP)) (hP : va_P D vwCl ws H) (hm : mo_at cI cZ ws h q ad sc ar) (hlink : Cond.fieldLink own idx "VoucherOfficeModel" "fromOf" "[I" ∈ wd_big) (hdg : decode cc pc = .ok (.getfield idx, 3)) (kk : W p l e R s m args below meth c H locs cells slots Q (F0 m (pc + 3) L (.ref (ad 3) :: rest))) : W p l e R s m args below meth c H locs cells slots Q (F0 m pc L (.ref h :: rest)) := by
  obtain ⟨hx, hb, hr, hml, hown, hts, hK, hlk, hxK⟩ := X
  exact va_get (ci := 9) (C := RX9) (T := TX9) (N := 13) hx hb hts in_X9 hown hK hP (q 0) hm.1 rfl 9 (by decide) (hts _ hlink) (fun _ h9 => h9) rfl hdg kk
theorem mo_a3 (X : Cx p m c meth s args own cc nL rt0 D (vTy cI cZ cP)) (hP : va_P D vwCl ws H) (hm : mo_at cI cZ ws h q ad sc ar) {i : Int32} (hi : vp_in i 40) (hdg : decode cc pc = .ok (.iaload, 1)) (kk : W p l e R s m args below meth c H locs cells slots Q (F0 m (pc + 1) L (.int (ar 3 i.toNatClampNeg) :: rest))) : W p l e R s m args below meth c H locs cells slots Q (F0 m pc L (.int i :: .ref (ad 3) :: rest)) := by
  obtain ⟨hx, hb, hr, hml, hown, hts, hK, hlk, hxK⟩ := X
  exact va_iald hx hb hK hP (q 4) 0 hm.2.2.2.2.1 rfl hi hdg kk
theorem mo_s3 (X : Cx p m c meth s args own cc nL rt0 D (vTy cI cZ cP)) (hP : va_P D vwCl ws H) (hD : va_D A ws) (hS : va_S A H0 H locs) (hm : mo_at cI cZ ws h q ad sc ar) (hfr : mo_fr ws0 ws) {i x : Int32} (hi : vp_in i 40) (hdg : decode cc pc = .ok (.iastore, 1)) (kk : ∀ (w : va_W) (H1 : Heap) (locs1 : List Loc), va_P D vwCl w H1 → va_D A w → va_S A H0 H1 locs1 → mo_at cI cZ w h q ad sc (mSet ar 3 i.toNatClampNeg x) → mo_fr ws0 w → W p l e R s m args below meth c H1 locs1 cells slots Q (F0 m (pc + 1) L rest)) : W p l e R s m args below meth c H locs cells slots Q (F0 m pc L (.int x :: .int i :: .ref (ad 3) :: rest)) := by
  obtain ⟨hx, hb, hr, hml, hown, hts, hK, hlk, hxK⟩ := X
  refine va_iast hx hb hK hP hD hS (q 4) 0 hm.2.2.2.2.1 rfl hi hdg (fun H1 locs1 hP1 hD1 hS1 => kk _ H1 locs1 hP1 hD1 hS1 ?_ (mo_fr_tr hfr (mo_fr_set hm.2.2.2.2.1 trivial)))
  obtain ⟨h0, h1, h2, h3, h4, h5, h6, h7, hq⟩ := hm
  exact ⟨st_other (fun z => absurd (hq 4 0 (by decide) (by decide) z) (by decide)) h0, st_other (fun z => absurd (hq 4 1 (by decide) (by decide) z) (by decide)) h1, st_other (fun z => absurd (hq 4 2 (by decide) (by decide) z) (by decide)) h2, st_other (fun z => absurd (hq 4 3 (by decide) (by decide) z) (by decide)) h3, (st_same h4).trans rfl, st_other (fun z => absurd (hq 4 5 (by decide) (by decide) z) (by decide)) h5, st_other (fun z => absurd (hq 4 6 (by decide) (by decide) z) (by decide)) h6, st_other (fun z => absurd (hq 4 7 (by decide) (by decide) z) (by decide)) h7, hq⟩
theorem mo_r4 (X : Cx p m c meth s args own cc nL rt0 D (vTy cI cZ cP)) (hP : va_P D vwCl ws H) (hm : mo_at cI cZ ws h q ad sc ar) (hlink : Cond.fieldLink own idx "VoucherOfficeModel" "pointsOf" "[I" ∈ wd_big) (hdg : decode cc pc = .ok (.getfield idx, 3)) (kk : W p l e R s m args below meth c H locs cells slots Q (F0 m (pc + 3) L (.ref (ad 4) :: rest))) : W p l e R s m args below meth c H locs cells slots Q (F0 m pc L (.ref h :: rest)) := by
  obtain ⟨hx, hb, hr, hml, hown, hts, hK, hlk, hxK⟩ := X
  exact va_get (ci := 9) (C := RX9) (T := TX9) (N := 13) hx hb hts in_X9 hown hK hP (q 0) hm.1 rfl 10 (by decide) (hts _ hlink) (fun _ h9 => h9) rfl hdg kk
theorem mo_a4 (X : Cx p m c meth s args own cc nL rt0 D (vTy cI cZ cP)) (hP : va_P D vwCl ws H) (hm : mo_at cI cZ ws h q ad sc ar) {i : Int32} (hi : vp_in i 40) (hdg : decode cc pc = .ok (.iaload, 1)) (kk : W p l e R s m args below meth c H locs cells slots Q (F0 m (pc + 1) L (.int (ar 4 i.toNatClampNeg) :: rest))) : W p l e R s m args below meth c H locs cells slots Q (F0 m pc L (.int i :: .ref (ad 4) :: rest)) := by
  obtain ⟨hx, hb, hr, hml, hown, hts, hK, hlk, hxK⟩ := X
  exact va_iald hx hb hK hP (q 5) 0 hm.2.2.2.2.2.1 rfl hi hdg kk
theorem mo_s4 (X : Cx p m c meth s args own cc nL rt0 D (vTy cI cZ cP)) (hP : va_P D vwCl ws H) (hD : va_D A ws) (hS : va_S A H0 H locs) (hm : mo_at cI cZ ws h q ad sc ar) (hfr : mo_fr ws0 ws) {i x : Int32} (hi : vp_in i 40) (hdg : decode cc pc = .ok (.iastore, 1)) (kk : ∀ (w : va_W) (H1 : Heap) (locs1 : List Loc), va_P D vwCl w H1 → va_D A w → va_S A H0 H1 locs1 → mo_at cI cZ w h q ad sc (mSet ar 4 i.toNatClampNeg x) → mo_fr ws0 w → W p l e R s m args below meth c H1 locs1 cells slots Q (F0 m (pc + 1) L rest)) : W p l e R s m args below meth c H locs cells slots Q (F0 m pc L (.int x :: .int i :: .ref (ad 4) :: rest)) := by
  obtain ⟨hx, hb, hr, hml, hown, hts, hK, hlk, hxK⟩ := X
  refine va_iast hx hb hK hP hD hS (q 5) 0 hm.2.2.2.2.2.1 rfl hi hdg (fun H1 locs1 hP1 hD1 hS1 => kk _ H1 locs1 hP1 hD1 hS1 ?_ (mo_fr_tr hfr (mo_fr_set hm.2.2.2.2.2.1 trivial)))
  obtain ⟨h0, h1, h2, h3, h4, h5, h6, h7, hq⟩ := hm
  exact ⟨st_other (fun z => absurd (hq 5 0 (by decide) (by decide) z) (by decide)) h0, st_other (fun z => absurd (hq 5 1 (by decide) (by decide) z) (by decide)) h1, st_other (fun z => absurd (hq 5 2 (by decide) (by decide) z) (by decide)) h2, st_other (fun z => absurd (hq 5 3 (by decide) (by decide) z) (by decide)) h3, st_other (fun z => absurd (hq 5 4 (by decide) (by decide) z) (by decide)) h4, (st_same h5).trans rfl, st_other (fun z => absurd (hq 5 6 (by decide) (by decide) z) (by decide)) h6, st_other (fun z => absurd (hq 5 7 (by decide) (by decide) z) (by decide)) h7, hq⟩
theorem mo_r5 (X : Cx p m c meth s args own cc nL rt0 D (vTy cI cZ cP)) (hP : va_P D vwCl ws H) (hm : mo_at cI cZ ws h q ad sc ar) (hlink : Cond.fieldLink own idx "VoucherOfficeModel" "spentOn" "[I" ∈ wd_big) (hdg : decode cc pc = .ok (.getfield idx, 3)) (kk : W p l e R s m args below meth c H locs cells slots Q (F0 m (pc + 3) L (.ref (ad 5) :: rest))) : W p l e R s m args below meth c H locs cells slots Q (F0 m pc L (.ref h :: rest)) := by
  obtain ⟨hx, hb, hr, hml, hown, hts, hK, hlk, hxK⟩ := X
  exact va_get (ci := 9) (C := RX9) (T := TX9) (N := 13) hx hb hts in_X9 hown hK hP (q 0) hm.1 rfl 11 (by decide) (hts _ hlink) (fun _ h9 => h9) rfl hdg kk
theorem mo_a5 (X : Cx p m c meth s args own cc nL rt0 D (vTy cI cZ cP)) (hP : va_P D vwCl ws H) (hm : mo_at cI cZ ws h q ad sc ar) {i : Int32} (hi : vp_in i 40) (hdg : decode cc pc = .ok (.iaload, 1)) (kk : W p l e R s m args below meth c H locs cells slots Q (F0 m (pc + 1) L (.int (ar 5 i.toNatClampNeg) :: rest))) : W p l e R s m args below meth c H locs cells slots Q (F0 m pc L (.int i :: .ref (ad 5) :: rest)) := by
  obtain ⟨hx, hb, hr, hml, hown, hts, hK, hlk, hxK⟩ := X
  exact va_iald hx hb hK hP (q 6) 0 hm.2.2.2.2.2.2.1 rfl hi hdg kk
theorem mo_s5 (X : Cx p m c meth s args own cc nL rt0 D (vTy cI cZ cP)) (hP : va_P D vwCl ws H) (hD : va_D A ws) (hS : va_S A H0 H locs) (hm : mo_at cI cZ ws h q ad sc ar) (hfr : mo_fr ws0 ws) {i x : Int32} (hi : vp_in i 40) (hdg : decode cc pc = .ok (.iastore, 1)) (kk : ∀ (w : va_W) (H1 : Heap) (locs1 : List Loc), va_P D vwCl w H1 → va_D A w → va_S A H0 H1 locs1 → mo_at cI cZ w h q ad sc (mSet ar 5 i.toNatClampNeg x) → mo_fr ws0 w → W p l e R s m args below meth c H1 locs1 cells slots Q (F0 m (pc + 1) L rest)) : W p l e R s m args below meth c H locs cells slots Q (F0 m pc L (.int x :: .int i :: .ref (ad 5) :: rest)) := by
  obtain ⟨hx, hb, hr, hml, hown, hts, hK, hlk, hxK⟩ := X
  refine va_iast hx hb hK hP hD hS (q 6) 0 hm.2.2.2.2.2.2.1 rfl hi hdg (fun H1 locs1 hP1 hD1 hS1 => kk _ H1 locs1 hP1 hD1 hS1 ?_ (mo_fr_tr hfr (mo_fr_set hm.2.2.2.2.2.2.1 trivial)))
  obtain ⟨h0, h1, h2, h3, h4, h5, h6, h7, hq⟩ := hm
  exact ⟨st_other (fun z => absurd (hq 6 0 (by decide) (by decide) z) (by decide)) h0, st_other (fun z => absurd (hq 6 1 (by decide) (by decide) z) (by decide)) h1, st_other (fun z => absurd (hq 6 2 (by decide) (by decide) z) (by decide)) h2, st_other (fun z => absurd (hq 6 3 (by decide) (by decide) z) (by decide)) h3, st_other (fun z => absurd (hq 6 4 (by decide) (by decide) z) (by decide)) h4, st_other (fun z => absurd (hq 6 5 (by decide) (by decide) z) (by decide)) h5, (st_same h6).trans rfl, st_other (fun z => absurd (hq 6 7 (by decide) (by decide) z) (by decide)) h7, hq⟩
theorem mo_r6 (X : Cx p m c meth s args own cc nL rt0 D (vTy cI cZ cP)) (hP : va_P D vwCl ws H) (hm : mo_at cI cZ ws h q ad sc ar) (hlink : Cond.fieldLink own idx "VoucherOfficeModel" "gone" "[Z" ∈ wd_big) (hdg : decode cc pc = .ok (.getfield idx, 3)) (kk : W p l e R s m args below meth c H locs cells slots Q (F0 m (pc + 3) L (.ref (ad 6) :: rest))) : W p l e R s m args below meth c H locs cells slots Q (F0 m pc L (.ref h :: rest)) := by
  obtain ⟨hx, hb, hr, hml, hown, hts, hK, hlk, hxK⟩ := X
  exact va_get (ci := 9) (C := RX9) (T := TX9) (N := 13) hx hb hts in_X9 hown hK hP (q 0) hm.1 rfl 12 (by decide) (hts _ hlink) (fun _ h9 => h9) rfl hdg kk
theorem mo_a6 (X : Cx p m c meth s args own cc nL rt0 D (vTy cI cZ cP)) (hP : va_P D vwCl ws H) (hm : mo_at cI cZ ws h q ad sc ar) {i : Int32} (hi : vp_in i 40) (hdg : decode cc pc = .ok (.baload, 1)) (kk : W p l e R s m args below meth c H locs cells slots Q (F0 m (pc + 1) L (.int (ar 6 i.toNatClampNeg) :: rest))) : W p l e R s m args below meth c H locs cells slots Q (F0 m pc L (.int i :: .ref (ad 6) :: rest)) := by
  obtain ⟨hx, hb, hr, hml, hown, hts, hK, hlk, hxK⟩ := X
  exact va_zald hx hb hK hP (q 7) 1 hm.2.2.2.2.2.2.2.1 rfl hi hdg kk
theorem mo_s6 (X : Cx p m c meth s args own cc nL rt0 D (vTy cI cZ cP)) (hP : va_P D vwCl ws H) (hD : va_D A ws) (hS : va_S A H0 H locs) (hm : mo_at cI cZ ws h q ad sc ar) (hfr : mo_fr ws0 ws) {i x : Int32} (hi : vp_in i 40) (hdg : decode cc pc = .ok (.bastore, 1)) (kk : ∀ (w : va_W) (H1 : Heap) (locs1 : List Loc), va_P D vwCl w H1 → va_D A w → va_S A H0 H1 locs1 → mo_at cI cZ w h q ad sc (mSet ar 6 i.toNatClampNeg (vp_nar .boolean x)) → mo_fr ws0 w → W p l e R s m args below meth c H1 locs1 cells slots Q (F0 m (pc + 1) L rest)) : W p l e R s m args below meth c H locs cells slots Q (F0 m pc L (.int x :: .int i :: .ref (ad 6) :: rest)) := by
  obtain ⟨hx, hb, hr, hml, hown, hts, hK, hlk, hxK⟩ := X
  refine va_zast hx hb hK hP hD hS (q 7) 1 hm.2.2.2.2.2.2.2.1 rfl hi hdg (fun H1 locs1 hP1 hD1 hS1 => kk _ H1 locs1 hP1 hD1 hS1 ?_ (mo_fr_tr hfr (mo_fr_set hm.2.2.2.2.2.2.2.1 trivial)))
  obtain ⟨h0, h1, h2, h3, h4, h5, h6, h7, hq⟩ := hm
  exact ⟨st_other (fun z => absurd (hq 7 0 (by decide) (by decide) z) (by decide)) h0, st_other (fun z => absurd (hq 7 1 (by decide) (by decide) z) (by decide)) h1, st_other (fun z => absurd (hq 7 2 (by decide) (by decide) z) (by decide)) h2, st_other (fun z => absurd (hq 7 3 (by decide) (by decide) z) (by decide)) h3, st_other (fun z => absurd (hq 7 4 (by decide) (by decide) z) (by decide)) h4, st_other (fun z => absurd (hq 7 5 (by decide) (by decide) z) (by decide)) h5, st_other (fun z => absurd (hq 7 6 (by decide) (by decide) z) (by decide)) h6, (st_same h7).trans rfl, hq⟩
theorem mo_p0 (X : Cx p m c meth s args own cc nL rt0 D (vTy cI cZ cP)) (hP : va_P D vwCl ws H) (hD : va_D A ws) (hS : va_S A H0 H locs) (hm : mo_at cI cZ ws h q ad sc ar) (hfr : mo_fr ws0 ws) {x : Int32} (hlink : Cond.fieldLink own idx "VoucherOfficeModel" "day" "I" ∈ wd_big) (hdg : decode cc pc = .ok (.putfield idx, 3)) (kk : ∀ (w : va_W) (H1 : Heap) (locs1 : List Loc), va_P D vwCl w H1 → va_D A w → va_S A H0 H1 locs1 → mo_at cI cZ w h q ad (va_up sc 0 x) ar → mo_fr ws0 w → W p l e R s m args below meth c H1 locs1 cells slots Q (F0 m (pc + 3) L rest)) : W p l e R s m args below meth c H locs cells slots Q (F0 m pc L (.int x :: .ref h :: rest)) := by
  obtain ⟨hx, hb, hr, hml, hown, hts, hK, hlk, hxK⟩ := X
  refine va_put (ci := 9) (v := .int x) (ty := .int) (C := RX9) (T := TX9) (N := 13) hx hb hts in_X9 tyX9 tyX9_ok nmX9 hown hK hP hD hS (q 0) hm.1 rfl 0 (by decide) (hts _ hlink) (fun _ h9 => h9) rfl (by decide +kernel) rfl rfl (Nat.le_of_ble_eq_true rfl) hdg (fun H1 locs1 hP1 hD1 hS1 => kk _ H1 locs1 hP1 hD1 hS1 ?_ (mo_fr_tr hfr (mo_fr_set hm.1 rfl)))
  obtain ⟨h0, h1, h2, h3, h4, h5, h6, h7, hq⟩ := hm
  exact ⟨(st_same h0).trans rfl, st_other (fun z => absurd (hq 0 1 (by decide) (by decide) z) (by decide)) h1, st_other (fun z => absurd (hq 0 2 (by decide) (by decide) z) (by decide)) h2, st_other (fun z => absurd (hq 0 3 (by decide) (by decide) z) (by decide)) h3, st_other (fun z => absurd (hq 0 4 (by decide) (by decide) z) (by decide)) h4, st_other (fun z => absurd (hq 0 5 (by decide) (by decide) z) (by decide)) h5, st_other (fun z => absurd (hq 0 6 (by decide) (by decide) z) (by decide)) h6, st_other (fun z => absurd (hq 0 7 (by decide) (by decide) z) (by decide)) h7, hq⟩
theorem mo_p1 (X : Cx p m c meth s args own cc nL rt0 D (vTy cI cZ cP)) (hP : va_P D vwCl ws H) (hD : va_D A ws) (hS : va_S A H0 H locs) (hm : mo_at cI cZ ws h q ad sc ar) (hfr : mo_fr ws0 ws) {x : Int32} (hlink : Cond.fieldLink own idx "VoucherOfficeModel" "issued" "I" ∈ wd_big) (hdg : decode cc pc = .ok (.putfield idx, 3)) (kk : ∀ (w : va_W) (H1 : Heap) (locs1 : List Loc), va_P D vwCl w H1 → va_D A w → va_S A H0 H1 locs1 → mo_at cI cZ w h q ad (va_up sc 1 x) ar → mo_fr ws0 w → W p l e R s m args below meth c H1 locs1 cells slots Q (F0 m (pc + 3) L rest)) : W p l e R s m args below meth c H locs cells slots Q (F0 m pc L (.int x :: .ref h :: rest)) := by
  obtain ⟨hx, hb, hr, hml, hown, hts, hK, hlk, hxK⟩ := X
  refine va_put (ci := 9) (v := .int x) (ty := .int) (C := RX9) (T := TX9) (N := 13) hx hb hts in_X9 tyX9 tyX9_ok nmX9 hown hK hP hD hS (q 0) hm.1 rfl 1 (by decide) (hts _ hlink) (fun _ h9 => h9) rfl (by decide +kernel) rfl rfl (Nat.le_of_ble_eq_true rfl) hdg (fun H1 locs1 hP1 hD1 hS1 => kk _ H1 locs1 hP1 hD1 hS1 ?_ (mo_fr_tr hfr (mo_fr_set hm.1 rfl)))
  obtain ⟨h0, h1, h2, h3, h4, h5, h6, h7, hq⟩ := hm
  exact ⟨(st_same h0).trans rfl, st_other (fun z => absurd (hq 0 1 (by decide) (by decide) z) (by decide)) h1, st_other (fun z => absurd (hq 0 2 (by decide) (by decide) z) (by decide)) h2, st_other (fun z => absurd (hq 0 3 (by decide) (by decide) z) (by decide)) h3, st_other (fun z => absurd (hq 0 4 (by decide) (by decide) z) (by decide)) h4, st_other (fun z => absurd (hq 0 5 (by decide) (by decide) z) (by decide)) h5, st_other (fun z => absurd (hq 0 6 (by decide) (by decide) z) (by decide)) h6, st_other (fun z => absurd (hq 0 7 (by decide) (by decide) z) (by decide)) h7, hq⟩
theorem mo_p2 (X : Cx p m c meth s args own cc nL rt0 D (vTy cI cZ cP)) (hP : va_P D vwCl ws H) (hD : va_D A ws) (hS : va_S A H0 H locs) (hm : mo_at cI cZ ws h q ad sc ar) (hfr : mo_fr ws0 ws) {x : Int32} (hlink : Cond.fieldLink own idx "VoucherOfficeModel" "amounts" "I" ∈ wd_big) (hdg : decode cc pc = .ok (.putfield idx, 3)) (kk : ∀ (w : va_W) (H1 : Heap) (locs1 : List Loc), va_P D vwCl w H1 → va_D A w → va_S A H0 H1 locs1 → mo_at cI cZ w h q ad (va_up sc 2 x) ar → mo_fr ws0 w → W p l e R s m args below meth c H1 locs1 cells slots Q (F0 m (pc + 3) L rest)) : W p l e R s m args below meth c H locs cells slots Q (F0 m pc L (.int x :: .ref h :: rest)) := by
  obtain ⟨hx, hb, hr, hml, hown, hts, hK, hlk, hxK⟩ := X
  refine va_put (ci := 9) (v := .int x) (ty := .int) (C := RX9) (T := TX9) (N := 13) hx hb hts in_X9 tyX9 tyX9_ok nmX9 hown hK hP hD hS (q 0) hm.1 rfl 2 (by decide) (hts _ hlink) (fun _ h9 => h9) rfl (by decide +kernel) rfl rfl (Nat.le_of_ble_eq_true rfl) hdg (fun H1 locs1 hP1 hD1 hS1 => kk _ H1 locs1 hP1 hD1 hS1 ?_ (mo_fr_tr hfr (mo_fr_set hm.1 rfl)))
  obtain ⟨h0, h1, h2, h3, h4, h5, h6, h7, hq⟩ := hm
  exact ⟨(st_same h0).trans rfl, st_other (fun z => absurd (hq 0 1 (by decide) (by decide) z) (by decide)) h1, st_other (fun z => absurd (hq 0 2 (by decide) (by decide) z) (by decide)) h2, st_other (fun z => absurd (hq 0 3 (by decide) (by decide) z) (by decide)) h3, st_other (fun z => absurd (hq 0 4 (by decide) (by decide) z) (by decide)) h4, st_other (fun z => absurd (hq 0 5 (by decide) (by decide) z) (by decide)) h5, st_other (fun z => absurd (hq 0 6 (by decide) (by decide) z) (by decide)) h6, st_other (fun z => absurd (hq 0 7 (by decide) (by decide) z) (by decide)) h7, hq⟩
theorem mo_p3 (X : Cx p m c meth s args own cc nL rt0 D (vTy cI cZ cP)) (hP : va_P D vwCl ws H) (hD : va_D A ws) (hS : va_S A H0 H locs) (hm : mo_at cI cZ ws h q ad sc ar) (hfr : mo_fr ws0 ws) {x : Int32} (hlink : Cond.fieldLink own idx "VoucherOfficeModel" "spent" "I" ∈ wd_big) (hdg : decode cc pc = .ok (.putfield idx, 3)) (kk : ∀ (w : va_W) (H1 : Heap) (locs1 : List Loc), va_P D vwCl w H1 → va_D A w → va_S A H0 H1 locs1 → mo_at cI cZ w h q ad (va_up sc 3 x) ar → mo_fr ws0 w → W p l e R s m args below meth c H1 locs1 cells slots Q (F0 m (pc + 3) L rest)) : W p l e R s m args below meth c H locs cells slots Q (F0 m pc L (.int x :: .ref h :: rest)) := by
  obtain ⟨hx, hb, hr, hml, hown, hts, hK, hlk, hxK⟩ := X
  refine va_put (ci := 9) (v := .int x) (ty := .int) (C := RX9) (T := TX9) (N := 13) hx hb hts in_X9 tyX9 tyX9_ok nmX9 hown hK hP hD hS (q 0) hm.1 rfl 3 (by decide) (hts _ hlink) (fun _ h9 => h9) rfl (by decide +kernel) rfl rfl (Nat.le_of_ble_eq_true rfl) hdg (fun H1 locs1 hP1 hD1 hS1 => kk _ H1 locs1 hP1 hD1 hS1 ?_ (mo_fr_tr hfr (mo_fr_set hm.1 rfl)))
  obtain ⟨h0, h1, h2, h3, h4, h5, h6, h7, hq⟩ := hm
  exact ⟨(st_same h0).trans rfl, st_other (fun z => absurd (hq 0 1 (by decide) (by decide) z) (by decide)) h1, st_other (fun z => absurd (hq 0 2 (by decide) (by decide) z) (by decide)) h2, st_other (fun z => absurd (hq 0 3 (by decide) (by decide) z) (by decide)) h3, st_other (fun z => absurd (hq 0 4 (by decide) (by decide) z) (by decide)) h4, st_other (fun z => absurd (hq 0 5 (by decide) (by decide) z) (by decide)) h5, st_other (fun z => absurd (hq 0 6 (by decide) (by decide) z) (by decide)) h6, st_other (fun z => absurd (hq 0 7 (by decide) (by decide) z) (by decide)) h7, hq⟩
theorem mo_p4 (X : Cx p m c meth s args own cc nL rt0 D (vTy cI cZ cP)) (hP : va_P D vwCl ws H) (hD : va_D A ws) (hS : va_S A H0 H locs) (hm : mo_at cI cZ ws h q ad sc ar) (hfr : mo_fr ws0 ws) {x : Int32} (hlink : Cond.fieldLink own idx "VoucherOfficeModel" "fees" "I" ∈ wd_big) (hdg : decode cc pc = .ok (.putfield idx, 3)) (kk : ∀ (w : va_W) (H1 : Heap) (locs1 : List Loc), va_P D vwCl w H1 → va_D A w → va_S A H0 H1 locs1 → mo_at cI cZ w h q ad (va_up sc 4 x) ar → mo_fr ws0 w → W p l e R s m args below meth c H1 locs1 cells slots Q (F0 m (pc + 3) L rest)) : W p l e R s m args below meth c H locs cells slots Q (F0 m pc L (.int x :: .ref h :: rest)) := by
  obtain ⟨hx, hb, hr, hml, hown, hts, hK, hlk, hxK⟩ := X
  refine va_put (ci := 9) (v := .int x) (ty := .int) (C := RX9) (T := TX9) (N := 13) hx hb hts in_X9 tyX9 tyX9_ok nmX9 hown hK hP hD hS (q 0) hm.1 rfl 4 (by decide) (hts _ hlink) (fun _ h9 => h9) rfl (by decide +kernel) rfl rfl (Nat.le_of_ble_eq_true rfl) hdg (fun H1 locs1 hP1 hD1 hS1 => kk _ H1 locs1 hP1 hD1 hS1 ?_ (mo_fr_tr hfr (mo_fr_set hm.1 rfl)))
  obtain ⟨h0, h1, h2, h3, h4, h5, h6, h7, hq⟩ := hm
  exact ⟨(st_same h0).trans rfl, st_other (fun z => absurd (hq 0 1 (by decide) (by decide) z) (by decide)) h1, st_other (fun z => absurd (hq 0 2 (by decide) (by decide) z) (by decide)) h2, st_other (fun z => absurd (hq 0 3 (by decide) (by decide) z) (by decide)) h3, st_other (fun z => absurd (hq 0 4 (by decide) (by decide) z) (by decide)) h4, st_other (fun z => absurd (hq 0 5 (by decide) (by decide) z) (by decide)) h5, st_other (fun z => absurd (hq 0 6 (by decide) (by decide) z) (by decide)) h6, st_other (fun z => absurd (hq 0 7 (by decide) (by decide) z) (by decide)) h7, hq⟩
theorem mo_p5 (X : Cx p m c meth s args own cc nL rt0 D (vTy cI cZ cP)) (hP : va_P D vwCl ws H) (hD : va_D A ws) (hS : va_S A H0 H locs) (hm : mo_at cI cZ ws h q ad sc ar) (hfr : mo_fr ws0 ws) {x : Int32} (hlink : Cond.fieldLink own idx "VoucherOfficeModel" "lapsed" "I" ∈ wd_big) (hdg : decode cc pc = .ok (.putfield idx, 3)) (kk : ∀ (w : va_W) (H1 : Heap) (locs1 : List Loc), va_P D vwCl w H1 → va_D A w → va_S A H0 H1 locs1 → mo_at cI cZ w h q ad (va_up sc 5 x) ar → mo_fr ws0 w → W p l e R s m args below meth c H1 locs1 cells slots Q (F0 m (pc + 3) L rest)) : W p l e R s m args below meth c H locs cells slots Q (F0 m pc L (.int x :: .ref h :: rest)) := by
  obtain ⟨hx, hb, hr, hml, hown, hts, hK, hlk, hxK⟩ := X
  refine va_put (ci := 9) (v := .int x) (ty := .int) (C := RX9) (T := TX9) (N := 13) hx hb hts in_X9 tyX9 tyX9_ok nmX9 hown hK hP hD hS (q 0) hm.1 rfl 5 (by decide) (hts _ hlink) (fun _ h9 => h9) rfl (by decide +kernel) rfl rfl (Nat.le_of_ble_eq_true rfl) hdg (fun H1 locs1 hP1 hD1 hS1 => kk _ H1 locs1 hP1 hD1 hS1 ?_ (mo_fr_tr hfr (mo_fr_set hm.1 rfl)))
  obtain ⟨h0, h1, h2, h3, h4, h5, h6, h7, hq⟩ := hm
  exact ⟨(st_same h0).trans rfl, st_other (fun z => absurd (hq 0 1 (by decide) (by decide) z) (by decide)) h1, st_other (fun z => absurd (hq 0 2 (by decide) (by decide) z) (by decide)) h2, st_other (fun z => absurd (hq 0 3 (by decide) (by decide) z) (by decide)) h3, st_other (fun z => absurd (hq 0 4 (by decide) (by decide) z) (by decide)) h4, st_other (fun z => absurd (hq 0 5 (by decide) (by decide) z) (by decide)) h5, st_other (fun z => absurd (hq 0 6 (by decide) (by decide) z) (by decide)) h6, st_other (fun z => absurd (hq 0 7 (by decide) (by decide) z) (by decide)) h7, hq⟩
end MG
end
section
def mWin (v lo hi : Int32) : Int32 := if v < lo then 0 else if hi < v then 0 else 1
abbrev mI (v : Int32) : Nat := v.toNatClampNeg
def mDat (ar : Nat → Nat → Int32) (i : Nat) : Int32 := if ar 0 i = 2 then 1 else if ar 0 i = 3 then 1 else 0
def mHas (ar : Nat → Nat → Int32) (i : Nat) : Int32 := if ar 0 i < 6 then 0 else 1
def mLast (ar : Nat → Nat → Int32) (i : Nat) : Int32 := if ar 0 i = 3 then ar 3 i + 30 else ar 3 i + 90
def mThe (sc : Nat → Int32) (ar : Nat → Nat → Int32) (v : Int32) : Int32 := if mWin v 0 (sc 1 - 1) = 0 then 0 else if ar 6 (mI v) = 0 then 1 else 0
def mN (ar : Nat → Nat → Int32) (i : Nat) : Int32 := if mHas ar i = 0 then ar 2 i / 10 * 10 else ar 2 i / 10 * 10 + ar 4 i
def mV3 (ar : Nat → Nat → Int32) (i : Nat) (t : Int32) : Int32 := if ar 0 i = 7 then (if t - t / 7 * 7 = 0 then 2 * mN ar i else mN ar i) else mN ar i
def mV2 (ar : Nat → Nat → Int32) (i : Nat) (t : Int32) : Int32 := if ar 0 i = 3 then ar 2 i - ar 2 i / 10 else if 4 ≤ ar 0 i then mV3 ar i t else ar 2 i
def mVal (ar : Nat → Nat → Int32) (i : Nat) (t : Int32) : Int32 := if mDat ar i = 0 then mV2 ar i t else if t ≤ mLast ar i then mV2 ar i t else 0
def mFee (ar : Nat → Nat → Int32) (i : Nat) (g : Int32) : Int32 := if ar 0 i = 3 then (g / 50 + 1) / 2 else if ar 0 i = 7 then (if g / 50 + 1 ≤ ar 4 i then 0 else g / 50 + 1 - ar 4 i) else g / 50 + 1
def mS0 (ar : Nat → Nat → Int32) (i : Nat) : Int32 := if mDat ar i = 0 then ar 2 i * 961 + ar 3 i * 31 + ar 1 i else ar 2 i * 961 + ar 3 i * 31 + ar 1 i + mLast ar i
def mSeal (ar : Nat → Nat → Int32) (i : Nat) : Int32 := if ar 0 i = 7 then mS0 ar i + 3 * ar 4 i else mS0 ar i
abbrev mT : Type := Int32 × (Nat → Int32) × (Nat → Nat → Int32)
def mIssue (sc : Nat → Int32) (ar : Nat → Nat → Int32) (k am : Int32) : mT := if mWin k 0 7 = 0 then (-2, sc, ar) else if mWin am 1 100000 = 0 then (-2, sc, ar) else if sc 1 = 40 then (-4, sc, ar) else (sc 1, va_up (va_up sc 1 (sc 1 + 1)) 2 (sc 2 + am), mSet (mSet (mSet (mSet ar 0 (mI (sc 1)) k) 1 (mI (sc 1)) am) 2 (mI (sc 1)) am) 3 (mI (sc 1)) (sc 0))
def mPass (sc : Nat → Int32) (ar : Nat → Nat → Int32) (dd : Int32) : mT := if mWin dd 1 1000 = 0 then (-2, sc, ar) else if sc 0 + dd ≤ 20000 then (sc 0 + dd, va_up sc 0 (sc 0 + dd), ar) else (-4, sc, ar)
def mValue (sc : Nat → Int32) (ar : Nat → Nat → Int32) (v t : Int32) : Int32 := if mThe sc ar v = 0 then -1 else if mWin t 0 20000 = 0 then -2 else mVal ar (mI v) t
def mFeeP (sc : Nat → Int32) (ar : Nat → Nat → Int32) (v g : Int32) : Int32 := if mThe sc ar v = 0 then -1 else if mWin g 1 100000 = 0 then -2 else mFee ar (mI v) g
def mSealP (sc : Nat → Int32) (ar : Nat → Nat → Int32) (v : Int32) : Int32 := if mThe sc ar v = 0 then -1 else mSeal ar (mI v)
def mMark (sc : Nat → Int32) (ar : Nat → Nat → Int32) (v n : Int32) : Int32 := if mThe sc ar v = 0 then -1 else if mWin n 0 999 = 0 then -2 else if ar 0 (mI v) < 5 then -3 else mSeal ar (mI v) * 7 + n
def mDays (sc : Nat → Int32) (ar : Nat → Nat → Int32) (v t : Int32) : Int32 := if mThe sc ar v = 0 then -1 else if mWin t 0 20000 = 0 then -2 else if mDat ar (mI v) = 0 then -3 else if mLast ar (mI v) - t ≤ 0 then 0 else mLast ar (mI v) - t
def mPaper (sc : Nat → Int32) (ar : Nat → Nat → Int32) (v w : Int32) : Int32 := if mThe sc ar v = 0 then -1 else if mWin w 0 5 = 0 then -2 else if w = 0 then ar 0 (mI v) else if w = 1 then ar 1 (mI v) else if w = 2 then ar 2 (mI v) else if w = 3 then ar 3 (mI v) else if w = 4 then ar 4 (mI v) else if mDat ar (mI v) = 0 then -3 else mLast ar (mI v)
def mSpend (sc : Nat → Int32) (ar : Nat → Nat → Int32) (v g : Int32) : mT := if mThe sc ar v = 0 then (-1, sc, ar) else if mWin g 1 100000 = 0 then (-2, sc, ar) else if ar 0 (mI v) = 3 ∧ ar 5 (mI v) = sc 0 + 1 then (-6, sc, ar) else if mVal ar (mI v) (sc 0) < g then (-5, sc, ar) else if g + mFee ar (mI v) g ≤ ar 2 (mI v) then
  (ar 2 (mI v) - (g + mFee ar (mI v) g), va_up (va_up sc 3 (sc 3 + g)) 4 (sc 4 + mFee ar (mI v) g), if mHas ar (mI v) = 0 then mSet (mSet ar 2 (mI v) (ar 2 (mI v) - (g + mFee ar (mI v) g))) 5 (mI v) (sc 0 + 1) else mSet (mSet (mSet ar 2 (mI v) (ar 2 (mI v) - (g + mFee ar (mI v) g))) 5 (mI v) (sc 0 + 1)) 4 (mI v) (ar 4 (mI v) + g / 100)) else (-5, sc, ar)
def mMerge (sc : Nat → Int32) (ar : Nat → Nat → Int32) (v w : Int32) : mT := if mThe sc ar v = 0 then (-1, sc, ar) else if mThe sc ar w = 0 then (-1, sc, ar) else if v = w then (-2, sc, ar) else if ar 0 (mI v) = ar 0 (mI w) then (if ar 1 (mI v) + ar 1 (mI w) ≤ 100000 then
  (ar 1 (mI v) + ar 1 (mI w), sc, mSet (mSet (mSet (mSet (mSet ar 1 (mI v) (ar 1 (mI v) + ar 1 (mI w))) 2 (mI v) (ar 2 (mI v) + ar 2 (mI w))) 4 (mI v) (ar 4 (mI v) + ar 4 (mI w))) 5 (mI v) (if ar 5 (mI w) ≤ ar 5 (mI v) then ar 5 (mI v) else ar 5 (mI w))) 6 (mI w) 1) else (-4, sc, ar)) else (-3, sc, ar)
/-- the sum of f over those below i that are there -/
def mSum (ar : Nat → Nat → Int32) (f : Nat → Int32) : Nat → Int32
  | 0 => 0
  | i + 1 => mSum ar f i + (if ar 6 i = 0 then f i else 0)
def mTotal (sc : Nat → Int32) (ar : Nat → Nat → Int32) (t : Int32) : Int32 := if mWin t 0 20000 = 0 then -2 else mSum ar (fun i => mVal ar i t) (mI (sc 1))
def mLeft (sc : Nat → Int32) (ar : Nat → Nat → Int32) : Int32 := mSum ar (fun i => ar 2 i) (mI (sc 1))
def mCount (sc : Nat → Int32) (ar : Nat → Nat → Int32) (w : Int32) : Int32 := if w = 0 then sc 0 else if w = 1 then sc 1 else if w = 2 then sc 2 else if w = 3 then sc 3 else if w = 4 then sc 4 else if w = 5 then sc 5 else if w = 6 then mLeft sc ar else -2
/-- the reference's lapse below i: the sum, and the rows then -/
def mLapC (ar : Nat → Nat → Int32) (i : Nat) (day : Int32) : Prop := ar 6 i = 0 ∧ ¬ mDat ar i = 0 ∧ mLast ar i < day
def mLap (ar : Nat → Nat → Int32) (day : Int32) : Nat → Int32 × (Nat → Nat → Int32)
  | 0 => (0, ar)
  | i + 1 => if ar 6 i = 0 then (if mDat ar i = 0 then mLap ar day i else if mLast ar i < day then ((mLap ar day i).1 + ar 2 i, mSet (mLap ar day i).2 2 i 0) else mLap ar day i) else mLap ar day i
def mLapse (sc : Nat → Int32) (ar : Nat → Nat → Int32) : mT := ((mLap ar (sc 0) (mI (sc 1))).1, va_up sc 5 (sc 5 + (mLap ar (sc 0) (mI (sc 1))).1), (mLap ar (sc 0) (mI (sc 1))).2)
def pM (cI cZ : ClassId) (h : Nat) (q ad : Nat → Nat) (f : mT) (ws0 : va_W) : Option Value → va_W → Prop := fun v w => v = some (.int f.1) ∧ mo_at cI cZ w h q ad f.2.1 f.2.2 ∧ mo_fr ws0 w
theorem pM_of {cI cZ : ClassId} {h : Nat} {q ad : Nat → Nat} {f : mT} {ws0 w : va_W} {r : Int32} {sc : Nat → Int32} {ar : Nat → Nat → Int32} (hm : mo_at cI cZ w h q ad sc ar) (hfr : mo_fr ws0 w) (hf : f = (r, sc, ar)) : pM cI cZ h q ad f ws0 (some (.int r)) w := by
  subst hf
  exact ⟨rfl, hm, hfr⟩
theorem win_ii {v lo hi : Int32} (h : ¬ mWin v lo hi = 0) : ¬ v < lo ∧ ¬ hi < v := by
  unfold mWin at h
  by_cases h1 : v < lo
  · exact absurd (if_pos h1) h
  · by_cases h2 : hi < v
    · rw [if_neg h1, if_pos h2] at h
      exact absurd rfl h
    · exact ⟨h1, h2⟩
theorem win_no {v lo hi : Int32} (h : mWin v lo hi = 0) : v < lo ∨ hi < v := by
  unfold mWin at h
  by_cases h1 : v < lo
  · exact Or.inl h1
  · by_cases h2 : hi < v
    · exact Or.inr h2
    · rw [if_neg h1, if_neg h2] at h
      exact absurd h (by decide)
theorem win_in {v x : Int32} {n : Nat} (hn : x = nI n) (h40 : n ≤ 40) (h : ¬ mWin v 0 (x - 1) = 0) : ∃ j : Nat, j < n ∧ v = nI j := by
  obtain ⟨h1, h2⟩ := win_ii h
  obtain ⟨j, hj, rfl⟩ := nI_of h1
  subst hn
  rcases Nat.eq_zero_or_pos n with h0 | h0
  · subst h0
    exfalso
    apply h2
    have h3 : nI 0 - 1 < 0 := by decide
    exact Int32.lt_of_lt_of_le h3 (nI_pos' hj)
  · obtain ⟨m, rfl⟩ : ∃ m, n = m + 1 := ⟨n - 1, by omega⟩
    rw [nI_pred] at h2
    refine ⟨j, ?_, rfl⟩
    rcases Nat.lt_or_ge m j with q | q
    · exact absurd (nI_lt q hj) h2
    · omega
theorem the_in {sc : Nat → Int32} {ar : Nat → Nat → Int32} {v : Int32} {n : Nat} (hn : sc 1 = nI n) (h40 : n ≤ 40) (h : ¬ mThe sc ar v = 0) : ∃ j : Nat, j < n ∧ v = nI j ∧ ar 6 j = 0 := by
  unfold mThe at h
  by_cases h1 : mWin v 0 (sc 1 - 1) = 0
  · exact absurd (if_pos h1) h
  · obtain ⟨j, hj, rfl⟩ := win_in hn h40 h1
    refine ⟨j, hj, rfl, ?_⟩
    rw [if_neg h1, show mI (nI j) = j from nI_clamp (by omega)] at h
    by_cases h2 : ar 6 j = 0
    · exact h2
    · exact absurd (if_neg h2) h
theorem the_vp {sc : Nat → Int32} {ar : Nat → Nat → Int32} {v : Int32} {n : Nat} (hn : sc 1 = nI n) (h40 : n ≤ 40) (h : ¬ mThe sc ar v = 0) : vp_in v 40 := by
  obtain ⟨j, hj, rfl, -⟩ := the_in hn h40 h
  exact vp_in_nI (by omega) (by decide)
theorem win_vp {v x : Int32} {n : Nat} (hn : x = nI n) (h40 : n ≤ 40) (h : ¬ mWin v 0 (x - 1) = 0) : vp_in v 40 := by
  obtain ⟨j, hj, rfl⟩ := win_in hn h40 h
  exact vp_in_nI (by omega) (by decide)
theorem sw_X9_36 : SW RX9 36 yX9_within cX9_within 3 (some .boolean) 3 := ⟨mw_495, mw_496, mw_2, mw_497, by decide +kernel⟩
theorem pw_X9_40 : PW RX9 40 "VoucherOfficeModel" yX9_isDated cX9_isDated 2 (some .boolean) 1 := ⟨mw_515, mw_517, mp_4, mw_2, mw_518, by decide +kernel⟩
theorem pw_X9_48 : PW RX9 48 "VoucherOfficeModel" yX9_hasPoints cX9_hasPoints 2 (some .boolean) 1 := ⟨mw_523, mw_525, mp_6, mw_2, mw_526, by decide +kernel⟩
theorem pw_X9_44 : PW RX9 44 "VoucherOfficeModel" yX9_lastDay cX9_lastDay 2 (some .int) 1 := ⟨mw_519, mw_521, mp_5, mw_2, mw_522, by decide +kernel⟩
theorem pw_X9_58 : PW RX9 58 "VoucherOfficeModel" yX9_isThere cX9_isThere 2 (some .boolean) 1 := ⟨mw_507, mw_509, mp_2, mw_2, mw_510, by decide +kernel⟩
theorem pw_X9_61 : PW RX9 61 "VoucherOfficeModel" yX9_valueOf cX9_valueOf 4 (some .int) 2 := ⟨mw_511, mw_513, mp_3, mw_2, mw_514, by decide +kernel⟩
theorem pw_X9_65 : PW RX9 65 "VoucherOfficeModel" yX9_feeOf cX9_feeOf 4 (some .int) 2 := ⟨mw_531, mw_533, mp_7, mw_2, mw_534, by decide +kernel⟩
theorem pw_X9_74 : PW RX9 74 "VoucherOfficeModel" yX9_sealOf cX9_sealOf 3 (some .int) 1 := ⟨mw_543, mw_545, mp_8, mw_2, mw_546, by decide +kernel⟩
theorem pw_X9_80 : PW RX9 80 "VoucherOfficeModel" yX9_leftOfAll cX9_leftOfAll 3 (some .int) 0 := ⟨mw_575, mw_577, mp_9, mw_2, mw_578, by decide +kernel⟩
set_option maxHeartbeats 4000000 in
set_option maxRecDepth 100000 in
theorem c_X9_within (l : Launch) (D : va_G) (tys : List (ClassId × FieldType)) (d : Nat) (hd : 0 ≤ d) (ws : va_W) (v lo hi : Int32) : Ct l D tys yX9_within cX9_within 3 (some .boolean) d 0 0 [.int v, .int lo, .int hi] ws (pI ws (mWin v lo hi)) := by
  refine ct_intro (by decide) (Nat.le_of_ble_eq_true rfl) ?_
  intro p e s m below meth c A L X hin hP hD hS hA hl
  have hl : lv_has L 3 [(0, .int v), (1, .int lo), (2, .int hi)] := hl
  obtain ⟨hx, hb, hr, hml, hown, hts, hK, hlk, hxK⟩ := id X
  refine lv_iload_n hx hb dX9_within_0 rfl (lv_at hl 0 rfl) ?_
  refine lv_iload_n hx hb dX9_within_1 rfl (lv_at hl 1 rfl) ?_
  refine lv_icmp_lt (tgt := 14) hx hb dX9_within_2 (by decide) (fun c_2 => ?_) (fun c_2 => ?_)
  · -- c_2 True
    refine lv_iconst (v := 0) hx hb dX9_within_14 (by decide) ?_
    exact e_bool X hP hD hS dX9_within_15 (by first | exact Or.inl rfl | exact Or.inr rfl) ⟨by first | rfl | simp only [mWin, if_pos c_2] | (simp only [mWin, if_pos c_2]; rfl), rfl⟩
  · -- c_2 False
    refine lv_iload_n hx hb dX9_within_5 rfl (lv_at hl 0 rfl) ?_
    refine lv_iload_n hx hb dX9_within_6 rfl (lv_at hl 2 rfl) ?_
    refine lv_icmp_gt (tgt := 14) hx hb dX9_within_7 (by decide) (fun c_7 => ?_) (fun c_7 => ?_)
    · -- c_7 True
      refine lv_iconst (v := 0) hx hb dX9_within_14 (by decide) ?_
      exact e_bool X hP hD hS dX9_within_15 (by first | exact Or.inl rfl | exact Or.inr rfl) ⟨by first | rfl | simp only [mWin, if_neg c_2, if_pos c_7] | (simp only [mWin, if_neg c_2, if_pos c_7]; rfl), rfl⟩
    · -- c_7 False
      refine lv_iconst (v := 1) hx hb dX9_within_10 (by decide) ?_
      refine lv_goto (tgt := 15) hx hb dX9_within_11 (by decide) ?_
      exact e_bool X hP hD hS dX9_within_15 (by first | exact Or.inl rfl | exact Or.inr rfl) ⟨by first | rfl | simp only [mWin, if_neg c_2, if_neg c_7] | (simp only [mWin, if_neg c_2, if_neg c_7]; rfl), rfl⟩
set_option maxHeartbeats 4000000 in
set_option maxRecDepth 100000 in
theorem c_X9_isThere (l : Launch) (D : va_G) (cI cZ cP : ClassId) (d : Nat) (hd : 1 ≤ d) {ws : va_W} {h : Nat} {q ad : Nat → Nat} {sc : Nat → Int32} {ar : Nat → Nat → Int32} (hm : mo_at cI cZ ws h q ad sc ar) {n : Nat} (hn : sc 1 = nI n) (h40 : n ≤ 40) (v : Int32) : Ct l D (vTy cI cZ cP) yX9_isThere cX9_isThere 2 (some .boolean) d 0 0 [.ref h, .int v] ws (pI ws (mThe sc ar v)) := by
  refine ct_intro (by decide) (Nat.le_of_ble_eq_true rfl) ?_
  intro p e s m below meth c A L X hin hP hD hS hA hl
  have hl : lv_has L 2 [(0, .ref h), (1, .int v)] := hl
  obtain ⟨hx, hb, hr, hml, hown, hts, hK, hlk, hxK⟩ := id X
  have hfr := mo_fr_rf ws
  refine lv_iload_n hx hb dX9_isThere_0 rfl (lv_at hl 1 rfl) ?_
  refine lv_iconst (v := 0) hx hb dX9_isThere_1 (by decide) ?_
  refine lv_aload_n hx hb dX9_isThere_2 rfl (lv_at hl 0 rfl) ?_
  refine mo_g1 X hP hm mw_450 dX9_isThere_3 ?_
  refine lv_iconst (v := 1) hx hb dX9_isThere_6 (by decide) ?_
  refine lv_isub hx hb dX9_isThere_7 ?_
  refine g_static (As := [.int v, .int 0, .int ((sc 1) - 1)]) (rest := []) sw_X9_36 X (c_X9_within l D (vTy cI cZ cP) 0 (by decide) ws v 0 (((sc 1) - 1))) hP hD hS hA ⟨by show _ ≤ d; omega, by show _ ≤ 30 * d; omega⟩ rfl hl.1 rfl (Nat.le_of_ble_eq_true rfl) dX9_isThere_8 ⟨Nat.le_refl _, Nat.le_refl _⟩ (kI fun H locs hP hD hS => ?_)
  refine W.eq (g2 := F0 m 11 L [.int (mWin v 0 ((sc 1) - 1))]) rfl ?_
  refine lv_if_eq (tgt := 27) hx hb dX9_isThere_11 (by decide) (fun c_11 => ?_) (fun c_11 => ?_)
  · -- c_11 True
    refine lv_iconst (v := 0) hx hb dX9_isThere_27 (by decide) ?_
    exact e_bool X hP hD hS dX9_isThere_28 (by first | exact Or.inl rfl | exact Or.inr rfl) ⟨by first | rfl | simp only [mThe, if_pos c_11] | (simp only [mThe, if_pos c_11]; rfl), rfl⟩
  · -- c_11 False
    have hv := win_vp hn h40 c_11
    refine lv_aload_n hx hb dX9_isThere_14 rfl (lv_at hl 0 rfl) ?_
    refine mo_r6 X hP hm mw_461 dX9_isThere_15 ?_
    refine lv_iload_n hx hb dX9_isThere_18 rfl (lv_at hl 1 rfl) ?_
    refine mo_a6 X hP hm hv dX9_isThere_19 ?_
    refine lv_if_ne (tgt := 27) hx hb dX9_isThere_20 (by decide) (fun c_20 => ?_) (fun c_20 => ?_)
    · -- c_20 True
      refine lv_iconst (v := 0) hx hb dX9_isThere_27 (by decide) ?_
      exact e_bool X hP hD hS dX9_isThere_28 (by first | exact Or.inl rfl | exact Or.inr rfl) ⟨by first | rfl | simp only [mThe, if_neg c_11, if_neg c_20] | (simp only [mThe, if_neg c_11, if_neg c_20]; rfl), rfl⟩
    · -- c_20 False
      refine lv_iconst (v := 1) hx hb dX9_isThere_23 (by decide) ?_
      refine lv_goto (tgt := 28) hx hb dX9_isThere_24 (by decide) ?_
      exact e_bool X hP hD hS dX9_isThere_28 (by first | exact Or.inl rfl | exact Or.inr rfl) ⟨by first | rfl | simp only [mThe, if_neg c_11, if_pos c_20] | (simp only [mThe, if_neg c_11, if_pos c_20]; rfl), rfl⟩
set_option maxHeartbeats 4000000 in
set_option maxRecDepth 100000 in
theorem c_X9_isDated (l : Launch) (D : va_G) (cI cZ cP : ClassId) (d : Nat) (hd : 0 ≤ d) {ws : va_W} {h : Nat} {q ad : Nat → Nat} {sc : Nat → Int32} {ar : Nat → Nat → Int32} (hm : mo_at cI cZ ws h q ad sc ar) {v : Int32} (hv : vp_in v 40) : Ct l D (vTy cI cZ cP) yX9_isDated cX9_isDated 2 (some .boolean) d 0 0 [.ref h, .int v] ws (pI ws (mDat ar (mI v))) := by
  refine ct_intro (by decide) (Nat.le_of_ble_eq_true rfl) ?_
  intro p e s m below meth c A L X hin hP hD hS hA hl
  have hl : lv_has L 2 [(0, .ref h), (1, .int v)] := hl
  obtain ⟨hx, hb, hr, hml, hown, hts, hK, hlk, hxK⟩ := id X
  have hfr := mo_fr_rf ws
  refine lv_aload_n hx hb dX9_isDated_0 rfl (lv_at hl 0 rfl) ?_
  refine mo_r0 X hP hm mw_455 dX9_isDated_1 ?_
  refine lv_iload_n hx hb dX9_isDated_4 rfl (lv_at hl 1 rfl) ?_
  refine mo_a0 X hP hm hv dX9_isDated_5 ?_
  refine lv_iconst (v := 2) hx hb dX9_isDated_6 (by decide) ?_
  refine lv_icmp_eq (tgt := 20) hx hb dX9_isDated_7 (by decide) (fun c_7 => ?_) (fun c_7 => ?_)
  · -- c_7 True
    refine lv_iconst (v := 1) hx hb dX9_isDated_20 (by decide) ?_
    refine lv_goto (tgt := 25) hx hb dX9_isDated_21 (by decide) ?_
    exact e_bool X hP hD hS dX9_isDated_25 (by first | exact Or.inl rfl | exact Or.inr rfl) ⟨by first | rfl | simp only [mDat, if_pos c_7] | (simp only [mDat, if_pos c_7]; rfl), rfl⟩
  · -- c_7 False
    refine lv_aload_n hx hb dX9_isDated_10 rfl (lv_at hl 0 rfl) ?_
    refine mo_r0 X hP hm mw_455 dX9_isDated_11 ?_
    refine lv_iload_n hx hb dX9_isDated_14 rfl (lv_at hl 1 rfl) ?_
    refine mo_a0 X hP hm hv dX9_isDated_15 ?_
    refine lv_iconst (v := 3) hx hb dX9_isDated_16 (by decide) ?_
    refine lv_icmp_ne (tgt := 24) hx hb dX9_isDated_17 (by decide) (fun c_17 => ?_) (fun c_17 => ?_)
    · -- c_17 True
      refine lv_iconst (v := 0) hx hb dX9_isDated_24 (by decide) ?_
      exact e_bool X hP hD hS dX9_isDated_25 (by first | exact Or.inl rfl | exact Or.inr rfl) ⟨by first | rfl | simp only [mDat, if_neg c_7, if_neg c_17] | (simp only [mDat, if_neg c_7, if_neg c_17]; rfl), rfl⟩
    · -- c_17 False
      refine lv_iconst (v := 1) hx hb dX9_isDated_20 (by decide) ?_
      refine lv_goto (tgt := 25) hx hb dX9_isDated_21 (by decide) ?_
      exact e_bool X hP hD hS dX9_isDated_25 (by first | exact Or.inl rfl | exact Or.inr rfl) ⟨by first | rfl | simp only [mDat, if_neg c_7, if_pos c_17] | (simp only [mDat, if_neg c_7, if_pos c_17]; rfl), rfl⟩
set_option maxHeartbeats 4000000 in
set_option maxRecDepth 100000 in
theorem c_X9_hasPoints (l : Launch) (D : va_G) (cI cZ cP : ClassId) (d : Nat) (hd : 0 ≤ d) {ws : va_W} {h : Nat} {q ad : Nat → Nat} {sc : Nat → Int32} {ar : Nat → Nat → Int32} (hm : mo_at cI cZ ws h q ad sc ar) {v : Int32} (hv : vp_in v 40) : Ct l D (vTy cI cZ cP) yX9_hasPoints cX9_hasPoints 2 (some .boolean) d 0 0 [.ref h, .int v] ws (pI ws (mHas ar (mI v))) := by
  refine ct_intro (by decide) (Nat.le_of_ble_eq_true rfl) ?_
  intro p e s m below meth c A L X hin hP hD hS hA hl
  have hl : lv_has L 2 [(0, .ref h), (1, .int v)] := hl
  obtain ⟨hx, hb, hr, hml, hown, hts, hK, hlk, hxK⟩ := id X
  have hfr := mo_fr_rf ws
  refine lv_aload_n hx hb dX9_hasPoints_0 rfl (lv_at hl 0 rfl) ?_
  refine mo_r0 X hP hm mw_455 dX9_hasPoints_1 ?_
  refine lv_iload_n hx hb dX9_hasPoints_4 rfl (lv_at hl 1 rfl) ?_
  refine mo_a0 X hP hm hv dX9_hasPoints_5 ?_
  refine lv_bipush (v := 6) hx hb dX9_hasPoints_6 (by decide) ?_
  refine lv_icmp_lt (tgt := 15) hx hb dX9_hasPoints_8 (by decide) (fun c_8 => ?_) (fun c_8 => ?_)
  · -- c_8 True
    refine lv_iconst (v := 0) hx hb dX9_hasPoints_15 (by decide) ?_
    exact e_bool X hP hD hS dX9_hasPoints_16 (by first | exact Or.inl rfl | exact Or.inr rfl) ⟨by first | rfl | simp only [mHas, if_pos c_8] | (simp only [mHas, if_pos c_8]; rfl), rfl⟩
  · -- c_8 False
    refine lv_iconst (v := 1) hx hb dX9_hasPoints_11 (by decide) ?_
    refine lv_goto (tgt := 16) hx hb dX9_hasPoints_12 (by decide) ?_
    exact e_bool X hP hD hS dX9_hasPoints_16 (by first | exact Or.inl rfl | exact Or.inr rfl) ⟨by first | rfl | simp only [mHas, if_neg c_8] | (simp only [mHas, if_neg c_8]; rfl), rfl⟩
set_option maxHeartbeats 4000000 in
set_option maxRecDepth 100000 in
theorem c_X9_lastDay (l : Launch) (D : va_G) (cI cZ cP : ClassId) (d : Nat) (hd : 0 ≤ d) {ws : va_W} {h : Nat} {q ad : Nat → Nat} {sc : Nat → Int32} {ar : Nat → Nat → Int32} (hm : mo_at cI cZ ws h q ad sc ar) {v : Int32} (hv : vp_in v 40) : Ct l D (vTy cI cZ cP) yX9_lastDay cX9_lastDay 2 (some .int) d 0 0 [.ref h, .int v] ws (pI ws (mLast ar (mI v))) := by
  refine ct_intro (by decide) (Nat.le_of_ble_eq_true rfl) ?_
  intro p e s m below meth c A L X hin hP hD hS hA hl
  have hl : lv_has L 2 [(0, .ref h), (1, .int v)] := hl
  obtain ⟨hx, hb, hr, hml, hown, hts, hK, hlk, hxK⟩ := id X
  have hfr := mo_fr_rf ws
  refine lv_aload_n hx hb dX9_lastDay_0 rfl (lv_at hl 0 rfl) ?_
  refine mo_r3 X hP hm mw_458 dX9_lastDay_1 ?_
  refine lv_iload_n hx hb dX9_lastDay_4 rfl (lv_at hl 1 rfl) ?_
  refine mo_a3 X hP hm hv dX9_lastDay_5 ?_
  refine lv_aload_n hx hb dX9_lastDay_6 rfl (lv_at hl 0 rfl) ?_
  refine mo_r0 X hP hm mw_455 dX9_lastDay_7 ?_
  refine lv_iload_n hx hb dX9_lastDay_10 rfl (lv_at hl 1 rfl) ?_
  refine mo_a0 X hP hm hv dX9_lastDay_11 ?_
  refine lv_iconst (v := 3) hx hb dX9_lastDay_12 (by decide) ?_
  refine lv_icmp_ne (tgt := 21) hx hb dX9_lastDay_13 (by decide) (fun c_13 => ?_) (fun c_13 => ?_)
  · -- c_13 True
    refine lv_bipush (v := 90) hx hb dX9_lastDay_21 (by decide) ?_
    refine lv_iadd hx hb dX9_lastDay_23 ?_
    exact e_int X hP hD hS dX9_lastDay_24 ⟨by first | rfl | simp only [mLast, if_neg c_13] | (simp only [mLast, if_neg c_13]; rfl), rfl⟩
  · -- c_13 False
    refine lv_bipush (v := 30) hx hb dX9_lastDay_16 (by decide) ?_
    refine lv_goto (tgt := 23) hx hb dX9_lastDay_18 (by decide) ?_
    refine lv_iadd hx hb dX9_lastDay_23 ?_
    exact e_int X hP hD hS dX9_lastDay_24 ⟨by first | rfl | simp only [mLast, if_pos c_13] | (simp only [mLast, if_pos c_13]; rfl), rfl⟩
set_option maxHeartbeats 4000000 in
set_option maxRecDepth 100000 in
theorem c_X9_valueOf (l : Launch) (D : va_G) (cI cZ cP : ClassId) (d : Nat) (hd : 1 ≤ d) {ws : va_W} {h : Nat} {q ad : Nat → Nat} {sc : Nat → Int32} {ar : Nat → Nat → Int32} (hm : mo_at cI cZ ws h q ad sc ar) {v : Int32} (hv : vp_in v 40) (t : Int32) : Ct l D (vTy cI cZ cP) yX9_valueOf cX9_valueOf 4 (some .int) d 0 0 [.ref h, .int v, .int t] ws (pI ws (mVal ar (mI v) t)) := by
  refine ct_intro (by decide) (Nat.le_of_ble_eq_true rfl) ?_
  intro p e s m below meth c A L X hin hP hD hS hA hl
  have hl : lv_has L 4 [(0, .ref h), (1, .int v), (2, .int t)] := hl
  obtain ⟨hx, hb, hr, hml, hown, hts, hK, hlk, hxK⟩ := id X
  have hfr := mo_fr_rf ws
  refine lv_aload_n hx hb dX9_valueOf_0 rfl (lv_at hl 0 rfl) ?_
  refine lv_iload_n hx hb dX9_valueOf_1 rfl (lv_at hl 1 rfl) ?_
  refine g_priv (ci := 9) (cq := (RX9, TX9, 13)) (As := [.int v]) (rest := []) pw_X9_40 X (c_X9_isDated l D cI cZ cP 0 (by decide) hm hv ) hP hD hS hA hm.1 rfl rfl ⟨by show _ ≤ d; omega, by show _ ≤ 30 * d; omega⟩ rfl hl.1 rfl (Nat.le_of_ble_eq_true rfl) dX9_valueOf_2 ⟨Nat.le_refl _, Nat.le_refl _⟩ (kI fun H locs hP hD hS => ?_)
  refine W.eq (g2 := F0 m 5 L [.int (mDat ar (mI v))]) rfl ?_
  refine lv_if_eq (tgt := 19) hx hb dX9_valueOf_5 (by decide) (fun c_5 => ?_) (fun c_5 => ?_)
  · -- c_5 True
    refine lv_aload_n hx hb dX9_valueOf_19 rfl (lv_at hl 0 rfl) ?_
    refine mo_r2 X hP hm mw_457 dX9_valueOf_20 ?_
    refine lv_iload_n hx hb dX9_valueOf_23 rfl (lv_at hl 1 rfl) ?_
    refine mo_a2 X hP hm hv dX9_valueOf_24 ?_
    refine lv_istore_n (lv' := [(3, .int (ar 2 (mI v))), (0, .ref h), (1, .int v), (2, .int t)]) hx hb dX9_valueOf_25 rfl hl (by decide) rfl (fun L hl => ?_)
    refine lv_aload_n hx hb dX9_valueOf_26 rfl (lv_at hl 1 rfl) ?_
    refine mo_r0 X hP hm mw_455 dX9_valueOf_27 ?_
    refine lv_iload_n hx hb dX9_valueOf_30 rfl (lv_at hl 2 rfl) ?_
    refine mo_a0 X hP hm hv dX9_valueOf_31 ?_
    refine lv_iconst (v := 3) hx hb dX9_valueOf_32 (by decide) ?_
    refine lv_icmp_ne (tgt := 43) hx hb dX9_valueOf_33 (by decide) (fun c_33 => ?_) (fun c_33 => ?_)
    · -- c_33 True
      refine lv_aload_n hx hb dX9_valueOf_43 rfl (lv_at hl 1 rfl) ?_
      refine mo_r0 X hP hm mw_455 dX9_valueOf_44 ?_
      refine lv_iload_n hx hb dX9_valueOf_47 rfl (lv_at hl 2 rfl) ?_
      refine mo_a0 X hP hm hv dX9_valueOf_48 ?_
      refine lv_iconst (v := 4) hx hb dX9_valueOf_49 (by decide) ?_
      refine lv_icmp_ge (tgt := 55) hx hb dX9_valueOf_50 (by decide) (fun c_50 => ?_) (fun c_50 => ?_)
      · -- c_50 True
        refine lv_iload_n hx hb dX9_valueOf_55 rfl (lv_at hl 0 rfl) ?_
        refine lv_bipush (v := 10) hx hb dX9_valueOf_56 (by decide) ?_
        refine lv_idiv hx hb dX9_valueOf_58 (by decide) ?_
        refine lv_bipush (v := 10) hx hb dX9_valueOf_59 (by decide) ?_
        refine lv_imul hx hb dX9_valueOf_61 ?_
        refine lv_istore_n (lv' := [(3, .int (((ar 2 (mI v)) / 10) * 10)), (0, .ref h), (1, .int v), (2, .int t)]) hx hb dX9_valueOf_62 rfl hl (by decide) rfl (fun L hl => ?_)
        refine lv_aload_n hx hb dX9_valueOf_63 rfl (lv_at hl 1 rfl) ?_
        refine lv_iload_n hx hb dX9_valueOf_64 rfl (lv_at hl 2 rfl) ?_
        refine g_priv (ci := 9) (cq := (RX9, TX9, 13)) (As := [.int v]) (rest := []) pw_X9_48 X (c_X9_hasPoints l D cI cZ cP 0 (by decide) hm hv ) hP hD hS hA hm.1 rfl rfl ⟨by show _ ≤ d; omega, by show _ ≤ 30 * d; omega⟩ rfl hl.1 rfl (Nat.le_of_ble_eq_true rfl) dX9_valueOf_65 ⟨Nat.le_refl _, Nat.le_refl _⟩ (kI fun H locs hP hD hS => ?_)
        refine W.eq (g2 := F0 m 68 L [.int (mHas ar (mI v))]) rfl ?_
        refine lv_if_eq (tgt := 80) hx hb dX9_valueOf_68 (by decide) (fun c_68 => ?_) (fun c_68 => ?_)
        · -- c_68 True
          refine lv_aload_n hx hb dX9_valueOf_80 rfl (lv_at hl 1 rfl) ?_
          refine mo_r0 X hP hm mw_455 dX9_valueOf_81 ?_
          refine lv_iload_n hx hb dX9_valueOf_84 rfl (lv_at hl 2 rfl) ?_
          refine mo_a0 X hP hm hv dX9_valueOf_85 ?_
          refine lv_bipush (v := 7) hx hb dX9_valueOf_86 (by decide) ?_
          refine lv_icmp_ne (tgt := 104) hx hb dX9_valueOf_88 (by decide) (fun c_88 => ?_) (fun c_88 => ?_)
          · -- c_88 True
            refine lv_iload_n hx hb dX9_valueOf_104 rfl (lv_at hl 0 rfl) ?_
            exact e_int X hP hD hS dX9_valueOf_105 ⟨by first | rfl | simp only [mVal, mV2, mV3, mN, if_pos c_5, if_neg c_33, if_pos c_50, if_pos c_68, if_neg c_88] | (simp only [mVal, mV2, mV3, mN, if_pos c_5, if_neg c_33, if_pos c_50, if_pos c_68, if_neg c_88]; rfl), rfl⟩
          · -- c_88 False
            refine lv_iload_n hx hb dX9_valueOf_91 rfl (lv_at hl 3 rfl) ?_
            refine lv_bipush (v := 7) hx hb dX9_valueOf_92 (by decide) ?_
            refine lv_irem hx hb dX9_valueOf_94 (by decide) ?_
            refine lv_if_ne (tgt := 104) hx hb dX9_valueOf_95 (by decide) (fun c_95 => ?_) (fun c_95 => ?_)
            · -- c_95 True
              refine lv_iload_n hx hb dX9_valueOf_104 rfl (lv_at hl 0 rfl) ?_
              exact e_int X hP hD hS dX9_valueOf_105 ⟨by first | rfl | simp only [mVal, mV2, mV3, mN, if_pos c_5, if_neg c_33, if_pos c_50, if_pos c_68, if_pos c_88, if_neg c_95] | (simp only [mVal, mV2, mV3, mN, if_pos c_5, if_neg c_33, if_pos c_50, if_pos c_68, if_pos c_88, if_neg c_95]; rfl), rfl⟩
            · -- c_95 False
              refine lv_iconst (v := 2) hx hb dX9_valueOf_98 (by decide) ?_
              refine lv_iload_n hx hb dX9_valueOf_99 rfl (lv_at hl 0 rfl) ?_
              refine lv_imul hx hb dX9_valueOf_100 ?_
              refine lv_goto (tgt := 105) hx hb dX9_valueOf_101 (by decide) ?_
              exact e_int X hP hD hS dX9_valueOf_105 ⟨by first | rfl | simp only [mVal, mV2, mV3, mN, if_pos c_5, if_neg c_33, if_pos c_50, if_pos c_68, if_pos c_88, if_pos c_95] | (simp only [mVal, mV2, mV3, mN, if_pos c_5, if_neg c_33, if_pos c_50, if_pos c_68, if_pos c_88, if_pos c_95]; rfl), rfl⟩
        · -- c_68 False
          refine lv_iload_n hx hb dX9_valueOf_71 rfl (lv_at hl 0 rfl) ?_
          refine lv_aload_n hx hb dX9_valueOf_72 rfl (lv_at hl 1 rfl) ?_
          refine mo_r4 X hP hm mw_459 dX9_valueOf_73 ?_
          refine lv_iload_n hx hb dX9_valueOf_76 rfl (lv_at hl 2 rfl) ?_
          refine mo_a4 X hP hm hv dX9_valueOf_77 ?_
          refine lv_iadd hx hb dX9_valueOf_78 ?_
          refine lv_istore_n (lv' := [(3, .int ((((ar 2 (mI v)) / 10) * 10) + (ar 4 (mI v)))), (0, .ref h), (1, .int v), (2, .int t)]) hx hb dX9_valueOf_79 rfl hl (by decide) rfl (fun L hl => ?_)
          refine lv_aload_n hx hb dX9_valueOf_80 rfl (lv_at hl 1 rfl) ?_
          refine mo_r0 X hP hm mw_455 dX9_valueOf_81 ?_
          refine lv_iload_n hx hb dX9_valueOf_84 rfl (lv_at hl 2 rfl) ?_
          refine mo_a0 X hP hm hv dX9_valueOf_85 ?_
          refine lv_bipush (v := 7) hx hb dX9_valueOf_86 (by decide) ?_
          refine lv_icmp_ne (tgt := 104) hx hb dX9_valueOf_88 (by decide) (fun c_88 => ?_) (fun c_88 => ?_)
          · -- c_88 True
            refine lv_iload_n hx hb dX9_valueOf_104 rfl (lv_at hl 0 rfl) ?_
            exact e_int X hP hD hS dX9_valueOf_105 ⟨by first | rfl | simp only [mVal, mV2, mV3, mN, if_pos c_5, if_neg c_33, if_pos c_50, if_neg c_68, if_neg c_88] | (simp only [mVal, mV2, mV3, mN, if_pos c_5, if_neg c_33, if_pos c_50, if_neg c_68, if_neg c_88]; rfl), rfl⟩
          · -- c_88 False
            refine lv_iload_n hx hb dX9_valueOf_91 rfl (lv_at hl 3 rfl) ?_
            refine lv_bipush (v := 7) hx hb dX9_valueOf_92 (by decide) ?_
            refine lv_irem hx hb dX9_valueOf_94 (by decide) ?_
            refine lv_if_ne (tgt := 104) hx hb dX9_valueOf_95 (by decide) (fun c_95 => ?_) (fun c_95 => ?_)
            · -- c_95 True
              refine lv_iload_n hx hb dX9_valueOf_104 rfl (lv_at hl 0 rfl) ?_
              exact e_int X hP hD hS dX9_valueOf_105 ⟨by first | rfl | simp only [mVal, mV2, mV3, mN, if_pos c_5, if_neg c_33, if_pos c_50, if_neg c_68, if_pos c_88, if_neg c_95] | (simp only [mVal, mV2, mV3, mN, if_pos c_5, if_neg c_33, if_pos c_50, if_neg c_68, if_pos c_88, if_neg c_95]; rfl), rfl⟩
            · -- c_95 False
              refine lv_iconst (v := 2) hx hb dX9_valueOf_98 (by decide) ?_
              refine lv_iload_n hx hb dX9_valueOf_99 rfl (lv_at hl 0 rfl) ?_
              refine lv_imul hx hb dX9_valueOf_100 ?_
              refine lv_goto (tgt := 105) hx hb dX9_valueOf_101 (by decide) ?_
              exact e_int X hP hD hS dX9_valueOf_105 ⟨by first | rfl | simp only [mVal, mV2, mV3, mN, if_pos c_5, if_neg c_33, if_pos c_50, if_neg c_68, if_pos c_88, if_pos c_95] | (simp only [mVal, mV2, mV3, mN, if_pos c_5, if_neg c_33, if_pos c_50, if_neg c_68, if_pos c_88, if_pos c_95]; rfl), rfl⟩
      · -- c_50 False
        refine lv_iload_n hx hb dX9_valueOf_53 rfl (lv_at hl 0 rfl) ?_
        exact e_int X hP hD hS dX9_valueOf_54 ⟨by first | rfl | simp only [mVal, mV2, mV3, mN, if_pos c_5, if_neg c_33, if_neg c_50] | (simp only [mVal, mV2, mV3, mN, if_pos c_5, if_neg c_33, if_neg c_50]; rfl), rfl⟩
    · -- c_33 False
      refine lv_iload_n hx hb dX9_valueOf_36 rfl (lv_at hl 0 rfl) ?_
      refine lv_iload_n hx hb dX9_valueOf_37 rfl (lv_at hl 0 rfl) ?_
      refine lv_bipush (v := 10) hx hb dX9_valueOf_38 (by decide) ?_
      refine lv_idiv hx hb dX9_valueOf_40 (by decide) ?_
      refine lv_isub hx hb dX9_valueOf_41 ?_
      exact e_int X hP hD hS dX9_valueOf_42 ⟨by first | rfl | simp only [mVal, mV2, mV3, mN, if_pos c_5, if_pos c_33] | (simp only [mVal, mV2, mV3, mN, if_pos c_5, if_pos c_33]; rfl), rfl⟩
  · -- c_5 False
    refine lv_iload_n hx hb dX9_valueOf_8 rfl (lv_at hl 2 rfl) ?_
    refine lv_aload_n hx hb dX9_valueOf_9 rfl (lv_at hl 0 rfl) ?_
    refine lv_iload_n hx hb dX9_valueOf_10 rfl (lv_at hl 1 rfl) ?_
    refine g_priv (ci := 9) (cq := (RX9, TX9, 13)) (As := [.int v]) (rest := [.int t]) pw_X9_44 X (c_X9_lastDay l D cI cZ cP 0 (by decide) hm hv ) hP hD hS hA hm.1 rfl rfl ⟨by show _ ≤ d; omega, by show _ ≤ 30 * d; omega⟩ rfl hl.1 rfl (Nat.le_of_ble_eq_true rfl) dX9_valueOf_11 ⟨Nat.le_refl _, Nat.le_refl _⟩ (kI fun H locs hP hD hS => ?_)
    refine W.eq (g2 := F0 m 14 L [.int (mLast ar (mI v)), .int t]) rfl ?_
    refine lv_icmp_le (tgt := 19) hx hb dX9_valueOf_14 (by decide) (fun c_14 => ?_) (fun c_14 => ?_)
    · -- c_14 True
      refine lv_aload_n hx hb dX9_valueOf_19 rfl (lv_at hl 0 rfl) ?_
      refine mo_r2 X hP hm mw_457 dX9_valueOf_20 ?_
      refine lv_iload_n hx hb dX9_valueOf_23 rfl (lv_at hl 1 rfl) ?_
      refine mo_a2 X hP hm hv dX9_valueOf_24 ?_
      refine lv_istore_n (lv' := [(3, .int (ar 2 (mI v))), (0, .ref h), (1, .int v), (2, .int t)]) hx hb dX9_valueOf_25 rfl hl (by decide) rfl (fun L hl => ?_)
      refine lv_aload_n hx hb dX9_valueOf_26 rfl (lv_at hl 1 rfl) ?_
      refine mo_r0 X hP hm mw_455 dX9_valueOf_27 ?_
      refine lv_iload_n hx hb dX9_valueOf_30 rfl (lv_at hl 2 rfl) ?_
      refine mo_a0 X hP hm hv dX9_valueOf_31 ?_
      refine lv_iconst (v := 3) hx hb dX9_valueOf_32 (by decide) ?_
      refine lv_icmp_ne (tgt := 43) hx hb dX9_valueOf_33 (by decide) (fun c_33 => ?_) (fun c_33 => ?_)
      · -- c_33 True
        refine lv_aload_n hx hb dX9_valueOf_43 rfl (lv_at hl 1 rfl) ?_
        refine mo_r0 X hP hm mw_455 dX9_valueOf_44 ?_
        refine lv_iload_n hx hb dX9_valueOf_47 rfl (lv_at hl 2 rfl) ?_
        refine mo_a0 X hP hm hv dX9_valueOf_48 ?_
        refine lv_iconst (v := 4) hx hb dX9_valueOf_49 (by decide) ?_
        refine lv_icmp_ge (tgt := 55) hx hb dX9_valueOf_50 (by decide) (fun c_50 => ?_) (fun c_50 => ?_)
        · -- c_50 True
          refine lv_iload_n hx hb dX9_valueOf_55 rfl (lv_at hl 0 rfl) ?_
          refine lv_bipush (v := 10) hx hb dX9_valueOf_56 (by decide) ?_
          refine lv_idiv hx hb dX9_valueOf_58 (by decide) ?_
          refine lv_bipush (v := 10) hx hb dX9_valueOf_59 (by decide) ?_
          refine lv_imul hx hb dX9_valueOf_61 ?_
          refine lv_istore_n (lv' := [(3, .int (((ar 2 (mI v)) / 10) * 10)), (0, .ref h), (1, .int v), (2, .int t)]) hx hb dX9_valueOf_62 rfl hl (by decide) rfl (fun L hl => ?_)
          refine lv_aload_n hx hb dX9_valueOf_63 rfl (lv_at hl 1 rfl) ?_
          refine lv_iload_n hx hb dX9_valueOf_64 rfl (lv_at hl 2 rfl) ?_
          refine g_priv (ci := 9) (cq := (RX9, TX9, 13)) (As := [.int v]) (rest := []) pw_X9_48 X (c_X9_hasPoints l D cI cZ cP 0 (by decide) hm hv ) hP hD hS hA hm.1 rfl rfl ⟨by show _ ≤ d; omega, by show _ ≤ 30 * d; omega⟩ rfl hl.1 rfl (Nat.le_of_ble_eq_true rfl) dX9_valueOf_65 ⟨Nat.le_refl _, Nat.le_refl _⟩ (kI fun H locs hP hD hS => ?_)
          refine W.eq (g2 := F0 m 68 L [.int (mHas ar (mI v))]) rfl ?_
          refine lv_if_eq (tgt := 80) hx hb dX9_valueOf_68 (by decide) (fun c_68 => ?_) (fun c_68 => ?_)
          · -- c_68 True
            refine lv_aload_n hx hb dX9_valueOf_80 rfl (lv_at hl 1 rfl) ?_
            refine mo_r0 X hP hm mw_455 dX9_valueOf_81 ?_
            refine lv_iload_n hx hb dX9_valueOf_84 rfl (lv_at hl 2 rfl) ?_
            refine mo_a0 X hP hm hv dX9_valueOf_85 ?_
            refine lv_bipush (v := 7) hx hb dX9_valueOf_86 (by decide) ?_
            refine lv_icmp_ne (tgt := 104) hx hb dX9_valueOf_88 (by decide) (fun c_88 => ?_) (fun c_88 => ?_)
            · -- c_88 True
              refine lv_iload_n hx hb dX9_valueOf_104 rfl (lv_at hl 0 rfl) ?_
              exact e_int X hP hD hS dX9_valueOf_105 ⟨by first | rfl | simp only [mVal, mV2, mV3, mN, if_neg c_5, if_pos c_14, if_neg c_33, if_pos c_50, if_pos c_68, if_neg c_88] | (simp only [mVal, mV2, mV3, mN, if_neg c_5, if_pos c_14, if_neg c_33, if_pos c_50, if_pos c_68, if_neg c_88]; rfl), rfl⟩
            · -- c_88 False
              refine lv_iload_n hx hb dX9_valueOf_91 rfl (lv_at hl 3 rfl) ?_
              refine lv_bipush (v := 7) hx hb dX9_valueOf_92 (by decide) ?_
              refine lv_irem hx hb dX9_valueOf_94 (by decide) ?_
              refine lv_if_ne (tgt := 104) hx hb dX9_valueOf_95 (by decide) (fun c_95 => ?_) (fun c_95 => ?_)
              · -- c_95 True
                refine lv_iload_n hx hb dX9_valueOf_104 rfl (lv_at hl 0 rfl) ?_
                exact e_int X hP hD hS dX9_valueOf_105 ⟨by first | rfl | simp only [mVal, mV2, mV3, mN, if_neg c_5, if_pos c_14, if_neg c_33, if_pos c_50, if_pos c_68, if_pos c_88, if_neg c_95] | (simp only [mVal, mV2, mV3, mN, if_neg c_5, if_pos c_14, if_neg c_33, if_pos c_50, if_pos c_68, if_pos c_88, if_neg c_95]; rfl), rfl⟩
              · -- c_95 False
                refine lv_iconst (v := 2) hx hb dX9_valueOf_98 (by decide) ?_
                refine lv_iload_n hx hb dX9_valueOf_99 rfl (lv_at hl 0 rfl) ?_
                refine lv_imul hx hb dX9_valueOf_100 ?_
                refine lv_goto (tgt := 105) hx hb dX9_valueOf_101 (by decide) ?_
                exact e_int X hP hD hS dX9_valueOf_105 ⟨by first | rfl | simp only [mVal, mV2, mV3, mN, if_neg c_5, if_pos c_14, if_neg c_33, if_pos c_50, if_pos c_68, if_pos c_88, if_pos c_95] | (simp only [mVal, mV2, mV3, mN, if_neg c_5, if_pos c_14, if_neg c_33, if_pos c_50, if_pos c_68, if_pos c_88, if_pos c_95]; rfl), rfl⟩
          · -- c_68 False
            refine lv_iload_n hx hb dX9_valueOf_71 rfl (lv_at hl 0 rfl) ?_
            refine lv_aload_n hx hb dX9_valueOf_72 rfl (lv_at hl 1 rfl) ?_
            refine mo_r4 X hP hm mw_459 dX9_valueOf_73 ?_
            refine lv_iload_n hx hb dX9_valueOf_76 rfl (lv_at hl 2 rfl) ?_
            refine mo_a4 X hP hm hv dX9_valueOf_77 ?_
            refine lv_iadd hx hb dX9_valueOf_78 ?_
            refine lv_istore_n (lv' := [(3, .int ((((ar 2 (mI v)) / 10) * 10) + (ar 4 (mI v)))), (0, .ref h), (1, .int v), (2, .int t)]) hx hb dX9_valueOf_79 rfl hl (by decide) rfl (fun L hl => ?_)
            refine lv_aload_n hx hb dX9_valueOf_80 rfl (lv_at hl 1 rfl) ?_
            refine mo_r0 X hP hm mw_455 dX9_valueOf_81 ?_
            refine lv_iload_n hx hb dX9_valueOf_84 rfl (lv_at hl 2 rfl) ?_
            refine mo_a0 X hP hm hv dX9_valueOf_85 ?_
            refine lv_bipush (v := 7) hx hb dX9_valueOf_86 (by decide) ?_
            refine lv_icmp_ne (tgt := 104) hx hb dX9_valueOf_88 (by decide) (fun c_88 => ?_) (fun c_88 => ?_)
            · -- c_88 True
              refine lv_iload_n hx hb dX9_valueOf_104 rfl (lv_at hl 0 rfl) ?_
              exact e_int X hP hD hS dX9_valueOf_105 ⟨by first | rfl | simp only [mVal, mV2, mV3, mN, if_neg c_5, if_pos c_14, if_neg c_33, if_pos c_50, if_neg c_68, if_neg c_88] | (simp only [mVal, mV2, mV3, mN, if_neg c_5, if_pos c_14, if_neg c_33, if_pos c_50, if_neg c_68, if_neg c_88]; rfl), rfl⟩
            · -- c_88 False
              refine lv_iload_n hx hb dX9_valueOf_91 rfl (lv_at hl 3 rfl) ?_
              refine lv_bipush (v := 7) hx hb dX9_valueOf_92 (by decide) ?_
              refine lv_irem hx hb dX9_valueOf_94 (by decide) ?_
              refine lv_if_ne (tgt := 104) hx hb dX9_valueOf_95 (by decide) (fun c_95 => ?_) (fun c_95 => ?_)
              · -- c_95 True
                refine lv_iload_n hx hb dX9_valueOf_104 rfl (lv_at hl 0 rfl) ?_
                exact e_int X hP hD hS dX9_valueOf_105 ⟨by first | rfl | simp only [mVal, mV2, mV3, mN, if_neg c_5, if_pos c_14, if_neg c_33, if_pos c_50, if_neg c_68, if_pos c_88, if_neg c_95] | (simp only [mVal, mV2, mV3, mN, if_neg c_5, if_pos c_14, if_neg c_33, if_pos c_50, if_neg c_68, if_pos c_88, if_neg c_95]; rfl), rfl⟩
              · -- c_95 False
                refine lv_iconst (v := 2) hx hb dX9_valueOf_98 (by decide) ?_
                refine lv_iload_n hx hb dX9_valueOf_99 rfl (lv_at hl 0 rfl) ?_
                refine lv_imul hx hb dX9_valueOf_100 ?_
                refine lv_goto (tgt := 105) hx hb dX9_valueOf_101 (by decide) ?_
                exact e_int X hP hD hS dX9_valueOf_105 ⟨by first | rfl | simp only [mVal, mV2, mV3, mN, if_neg c_5, if_pos c_14, if_neg c_33, if_pos c_50, if_neg c_68, if_pos c_88, if_pos c_95] | (simp only [mVal, mV2, mV3, mN, if_neg c_5, if_pos c_14, if_neg c_33, if_pos c_50, if_neg c_68, if_pos c_88, if_pos c_95]; rfl), rfl⟩
        · -- c_50 False
          refine lv_iload_n hx hb dX9_valueOf_53 rfl (lv_at hl 0 rfl) ?_
          exact e_int X hP hD hS dX9_valueOf_54 ⟨by first | rfl | simp only [mVal, mV2, mV3, mN, if_neg c_5, if_pos c_14, if_neg c_33, if_neg c_50] | (simp only [mVal, mV2, mV3, mN, if_neg c_5, if_pos c_14, if_neg c_33, if_neg c_50]; rfl), rfl⟩
      · -- c_33 False
        refine lv_iload_n hx hb dX9_valueOf_36 rfl (lv_at hl 0 rfl) ?_
        refine lv_iload_n hx hb dX9_valueOf_37 rfl (lv_at hl 0 rfl) ?_
        refine lv_bipush (v := 10) hx hb dX9_valueOf_38 (by decide) ?_
        refine lv_idiv hx hb dX9_valueOf_40 (by decide) ?_
        refine lv_isub hx hb dX9_valueOf_41 ?_
        exact e_int X hP hD hS dX9_valueOf_42 ⟨by first | rfl | simp only [mVal, mV2, mV3, mN, if_neg c_5, if_pos c_14, if_pos c_33] | (simp only [mVal, mV2, mV3, mN, if_neg c_5, if_pos c_14, if_pos c_33]; rfl), rfl⟩
    · -- c_14 False
      refine lv_iconst (v := 0) hx hb dX9_valueOf_17 (by decide) ?_
      exact e_int X hP hD hS dX9_valueOf_18 ⟨by first | rfl | simp only [mVal, mV2, mV3, mN, if_neg c_5, if_neg c_14] | (simp only [mVal, mV2, mV3, mN, if_neg c_5, if_neg c_14]; rfl), rfl⟩
set_option maxHeartbeats 4000000 in
set_option maxRecDepth 100000 in
theorem c_X9_feeOf (l : Launch) (D : va_G) (cI cZ cP : ClassId) (d : Nat) (hd : 0 ≤ d) {ws : va_W} {h : Nat} {q ad : Nat → Nat} {sc : Nat → Int32} {ar : Nat → Nat → Int32} (hm : mo_at cI cZ ws h q ad sc ar) {v : Int32} (hv : vp_in v 40) (g : Int32) : Ct l D (vTy cI cZ cP) yX9_feeOf cX9_feeOf 4 (some .int) d 0 0 [.ref h, .int v, .int g] ws (pI ws (mFee ar (mI v) g)) := by
  refine ct_intro (by decide) (Nat.le_of_ble_eq_true rfl) ?_
  intro p e s m below meth c A L X hin hP hD hS hA hl
  have hl : lv_has L 4 [(0, .ref h), (1, .int v), (2, .int g)] := hl
  obtain ⟨hx, hb, hr, hml, hown, hts, hK, hlk, hxK⟩ := id X
  have hfr := mo_fr_rf ws
  refine lv_iload_n hx hb dX9_feeOf_0 rfl (lv_at hl 2 rfl) ?_
  refine lv_bipush (v := 50) hx hb dX9_feeOf_1 (by decide) ?_
  refine lv_idiv hx hb dX9_feeOf_3 (by decide) ?_
  refine lv_iconst (v := 1) hx hb dX9_feeOf_4 (by decide) ?_
  refine lv_iadd hx hb dX9_feeOf_5 ?_
  refine lv_istore_n (lv' := [(3, .int ((g / 50) + 1)), (0, .ref h), (1, .int v), (2, .int g)]) hx hb dX9_feeOf_6 rfl hl (by decide) rfl (fun L hl => ?_)
  refine lv_aload_n hx hb dX9_feeOf_7 rfl (lv_at hl 1 rfl) ?_
  refine mo_r0 X hP hm mw_455 dX9_feeOf_8 ?_
  refine lv_iload_n hx hb dX9_feeOf_11 rfl (lv_at hl 2 rfl) ?_
  refine mo_a0 X hP hm hv dX9_feeOf_12 ?_
  refine lv_iconst (v := 3) hx hb dX9_feeOf_13 (by decide) ?_
  refine lv_icmp_ne (tgt := 21) hx hb dX9_feeOf_14 (by decide) (fun c_14 => ?_) (fun c_14 => ?_)
  · -- c_14 True
    refine lv_aload_n hx hb dX9_feeOf_21 rfl (lv_at hl 1 rfl) ?_
    refine mo_r0 X hP hm mw_455 dX9_feeOf_22 ?_
    refine lv_iload_n hx hb dX9_feeOf_25 rfl (lv_at hl 2 rfl) ?_
    refine mo_a0 X hP hm hv dX9_feeOf_26 ?_
    refine lv_bipush (v := 7) hx hb dX9_feeOf_27 (by decide) ?_
    refine lv_icmp_eq (tgt := 34) hx hb dX9_feeOf_29 (by decide) (fun c_29 => ?_) (fun c_29 => ?_)
    · -- c_29 True
      refine lv_iload_n hx hb dX9_feeOf_34 rfl (lv_at hl 0 rfl) ?_
      refine lv_aload_n hx hb dX9_feeOf_35 rfl (lv_at hl 1 rfl) ?_
      refine mo_r4 X hP hm mw_459 dX9_feeOf_36 ?_
      refine lv_iload_n hx hb dX9_feeOf_39 rfl (lv_at hl 2 rfl) ?_
      refine mo_a4 X hP hm hv dX9_feeOf_40 ?_
      refine lv_icmp_le (tgt := 55) hx hb dX9_feeOf_41 (by decide) (fun c_41 => ?_) (fun c_41 => ?_)
      · -- c_41 True
        refine lv_iconst (v := 0) hx hb dX9_feeOf_55 (by decide) ?_
        exact e_int X hP hD hS dX9_feeOf_56 ⟨by first | rfl | simp only [mFee, if_neg c_14, if_pos c_29, if_pos c_41] | (simp only [mFee, if_neg c_14, if_pos c_29, if_pos c_41]; rfl), rfl⟩
      · -- c_41 False
        refine lv_iload_n hx hb dX9_feeOf_44 rfl (lv_at hl 0 rfl) ?_
        refine lv_aload_n hx hb dX9_feeOf_45 rfl (lv_at hl 1 rfl) ?_
        refine mo_r4 X hP hm mw_459 dX9_feeOf_46 ?_
        refine lv_iload_n hx hb dX9_feeOf_49 rfl (lv_at hl 2 rfl) ?_
        refine mo_a4 X hP hm hv dX9_feeOf_50 ?_
        refine lv_isub hx hb dX9_feeOf_51 ?_
        refine lv_goto (tgt := 56) hx hb dX9_feeOf_52 (by decide) ?_
        exact e_int X hP hD hS dX9_feeOf_56 ⟨by first | rfl | simp only [mFee, if_neg c_14, if_pos c_29, if_neg c_41] | (simp only [mFee, if_neg c_14, if_pos c_29, if_neg c_41]; rfl), rfl⟩
    · -- c_29 False
      refine lv_iload_n hx hb dX9_feeOf_32 rfl (lv_at hl 0 rfl) ?_
      exact e_int X hP hD hS dX9_feeOf_33 ⟨by first | rfl | simp only [mFee, if_neg c_14, if_neg c_29] | (simp only [mFee, if_neg c_14, if_neg c_29]; rfl), rfl⟩
  · -- c_14 False
    refine lv_iload_n hx hb dX9_feeOf_17 rfl (lv_at hl 0 rfl) ?_
    refine lv_iconst (v := 2) hx hb dX9_feeOf_18 (by decide) ?_
    refine lv_idiv hx hb dX9_feeOf_19 (by decide) ?_
    exact e_int X hP hD hS dX9_feeOf_20 ⟨by first | rfl | simp only [mFee, if_pos c_14] | (simp only [mFee, if_pos c_14]; rfl), rfl⟩
set_option maxHeartbeats 4000000 in
set_option maxRecDepth 100000 in
theorem c_X9_sealOf (l : Launch) (D : va_G) (cI cZ cP : ClassId) (d : Nat) (hd : 1 ≤ d) {ws : va_W} {h : Nat} {q ad : Nat → Nat} {sc : Nat → Int32} {ar : Nat → Nat → Int32} (hm : mo_at cI cZ ws h q ad sc ar) {v : Int32} (hv : vp_in v 40) : Ct l D (vTy cI cZ cP) yX9_sealOf cX9_sealOf 3 (some .int) d 0 0 [.ref h, .int v] ws (pI ws (mSeal ar (mI v))) := by
  refine ct_intro (by decide) (Nat.le_of_ble_eq_true rfl) ?_
  intro p e s m below meth c A L X hin hP hD hS hA hl
  have hl : lv_has L 3 [(0, .ref h), (1, .int v)] := hl
  obtain ⟨hx, hb, hr, hml, hown, hts, hK, hlk, hxK⟩ := id X
  have hfr := mo_fr_rf ws
  refine lv_aload_n hx hb dX9_sealOf_0 rfl (lv_at hl 0 rfl) ?_
  refine mo_r2 X hP hm mw_457 dX9_sealOf_1 ?_
  refine lv_iload_n hx hb dX9_sealOf_4 rfl (lv_at hl 1 rfl) ?_
  refine mo_a2 X hP hm hv dX9_sealOf_5 ?_
  refine lv_sipush (v := 961) hx hb dX9_sealOf_6 (by decide) ?_
  refine lv_imul hx hb dX9_sealOf_9 ?_
  refine lv_aload_n hx hb dX9_sealOf_10 rfl (lv_at hl 0 rfl) ?_
  refine mo_r3 X hP hm mw_458 dX9_sealOf_11 ?_
  refine lv_iload_n hx hb dX9_sealOf_14 rfl (lv_at hl 1 rfl) ?_
  refine mo_a3 X hP hm hv dX9_sealOf_15 ?_
  refine lv_bipush (v := 31) hx hb dX9_sealOf_16 (by decide) ?_
  refine lv_imul hx hb dX9_sealOf_18 ?_
  refine lv_iadd hx hb dX9_sealOf_19 ?_
  refine lv_aload_n hx hb dX9_sealOf_20 rfl (lv_at hl 0 rfl) ?_
  refine mo_r1 X hP hm mw_456 dX9_sealOf_21 ?_
  refine lv_iload_n hx hb dX9_sealOf_24 rfl (lv_at hl 1 rfl) ?_
  refine mo_a1 X hP hm hv dX9_sealOf_25 ?_
  refine lv_iadd hx hb dX9_sealOf_26 ?_
  refine lv_istore_n (lv' := [(2, .int ((((ar 2 (mI v)) * 961) + ((ar 3 (mI v)) * 31)) + (ar 1 (mI v)))), (0, .ref h), (1, .int v)]) hx hb dX9_sealOf_27 rfl hl (by decide) rfl (fun L hl => ?_)
  refine lv_aload_n hx hb dX9_sealOf_28 rfl (lv_at hl 1 rfl) ?_
  refine lv_iload_n hx hb dX9_sealOf_29 rfl (lv_at hl 2 rfl) ?_
  refine g_priv (ci := 9) (cq := (RX9, TX9, 13)) (As := [.int v]) (rest := []) pw_X9_40 X (c_X9_isDated l D cI cZ cP 0 (by decide) hm hv ) hP hD hS hA hm.1 rfl rfl ⟨by show _ ≤ d; omega, by show _ ≤ 30 * d; omega⟩ rfl hl.1 rfl (Nat.le_of_ble_eq_true rfl) dX9_sealOf_30 ⟨Nat.le_refl _, Nat.le_refl _⟩ (kI fun H locs hP hD hS => ?_)
  refine W.eq (g2 := F0 m 33 L [.int (mDat ar (mI v))]) rfl ?_
  refine lv_if_eq (tgt := 44) hx hb dX9_sealOf_33 (by decide) (fun c_33 => ?_) (fun c_33 => ?_)
  · -- c_33 True
    refine lv_aload_n hx hb dX9_sealOf_44 rfl (lv_at hl 1 rfl) ?_
    refine mo_r0 X hP hm mw_455 dX9_sealOf_45 ?_
    refine lv_iload_n hx hb dX9_sealOf_48 rfl (lv_at hl 2 rfl) ?_
    refine mo_a0 X hP hm hv dX9_sealOf_49 ?_
    refine lv_bipush (v := 7) hx hb dX9_sealOf_50 (by decide) ?_
    refine lv_icmp_ne (tgt := 66) hx hb dX9_sealOf_52 (by decide) (fun c_52 => ?_) (fun c_52 => ?_)
    · -- c_52 True
      refine lv_iload_n hx hb dX9_sealOf_66 rfl (lv_at hl 0 rfl) ?_
      exact e_int X hP hD hS dX9_sealOf_67 ⟨by first | rfl | simp only [mSeal, mS0, if_pos c_33, if_neg c_52] | (simp only [mSeal, mS0, if_pos c_33, if_neg c_52]; rfl), rfl⟩
    · -- c_52 False
      refine lv_iload_n hx hb dX9_sealOf_55 rfl (lv_at hl 0 rfl) ?_
      refine lv_iconst (v := 3) hx hb dX9_sealOf_56 (by decide) ?_
      refine lv_aload_n hx hb dX9_sealOf_57 rfl (lv_at hl 1 rfl) ?_
      refine mo_r4 X hP hm mw_459 dX9_sealOf_58 ?_
      refine lv_iload_n hx hb dX9_sealOf_61 rfl (lv_at hl 2 rfl) ?_
      refine mo_a4 X hP hm hv dX9_sealOf_62 ?_
      refine lv_imul hx hb dX9_sealOf_63 ?_
      refine lv_iadd hx hb dX9_sealOf_64 ?_
      refine lv_istore_n (lv' := [(2, .int (((((ar 2 (mI v)) * 961) + ((ar 3 (mI v)) * 31)) + (ar 1 (mI v))) + (3 * (ar 4 (mI v))))), (0, .ref h), (1, .int v)]) hx hb dX9_sealOf_65 rfl hl (by decide) rfl (fun L hl => ?_)
      refine lv_iload_n hx hb dX9_sealOf_66 rfl (lv_at hl 0 rfl) ?_
      exact e_int X hP hD hS dX9_sealOf_67 ⟨by first | rfl | simp only [mSeal, mS0, if_pos c_33, if_pos c_52] | (simp only [mSeal, mS0, if_pos c_33, if_pos c_52]; rfl), rfl⟩
  · -- c_33 False
    refine lv_iload_n hx hb dX9_sealOf_36 rfl (lv_at hl 0 rfl) ?_
    refine lv_aload_n hx hb dX9_sealOf_37 rfl (lv_at hl 1 rfl) ?_
    refine lv_iload_n hx hb dX9_sealOf_38 rfl (lv_at hl 2 rfl) ?_
    refine g_priv (ci := 9) (cq := (RX9, TX9, 13)) (As := [.int v]) (rest := [.int ((((ar 2 (mI v)) * 961) + ((ar 3 (mI v)) * 31)) + (ar 1 (mI v)))]) pw_X9_44 X (c_X9_lastDay l D cI cZ cP 0 (by decide) hm hv ) hP hD hS hA hm.1 rfl rfl ⟨by show _ ≤ d; omega, by show _ ≤ 30 * d; omega⟩ rfl hl.1 rfl (Nat.le_of_ble_eq_true rfl) dX9_sealOf_39 ⟨Nat.le_refl _, Nat.le_refl _⟩ (kI fun H locs hP hD hS => ?_)
    refine W.eq (g2 := F0 m 42 L [.int (mLast ar (mI v)), .int ((((ar 2 (mI v)) * 961) + ((ar 3 (mI v)) * 31)) + (ar 1 (mI v)))]) rfl ?_
    refine lv_iadd hx hb dX9_sealOf_42 ?_
    refine lv_istore_n (lv' := [(2, .int (((((ar 2 (mI v)) * 961) + ((ar 3 (mI v)) * 31)) + (ar 1 (mI v))) + (mLast ar (mI v)))), (0, .ref h), (1, .int v)]) hx hb dX9_sealOf_43 rfl hl (by decide) rfl (fun L hl => ?_)
    refine lv_aload_n hx hb dX9_sealOf_44 rfl (lv_at hl 1 rfl) ?_
    refine mo_r0 X hP hm mw_455 dX9_sealOf_45 ?_
    refine lv_iload_n hx hb dX9_sealOf_48 rfl (lv_at hl 2 rfl) ?_
    refine mo_a0 X hP hm hv dX9_sealOf_49 ?_
    refine lv_bipush (v := 7) hx hb dX9_sealOf_50 (by decide) ?_
    refine lv_icmp_ne (tgt := 66) hx hb dX9_sealOf_52 (by decide) (fun c_52 => ?_) (fun c_52 => ?_)
    · -- c_52 True
      refine lv_iload_n hx hb dX9_sealOf_66 rfl (lv_at hl 0 rfl) ?_
      exact e_int X hP hD hS dX9_sealOf_67 ⟨by first | rfl | simp only [mSeal, mS0, if_neg c_33, if_neg c_52] | (simp only [mSeal, mS0, if_neg c_33, if_neg c_52]; rfl), rfl⟩
    · -- c_52 False
      refine lv_iload_n hx hb dX9_sealOf_55 rfl (lv_at hl 0 rfl) ?_
      refine lv_iconst (v := 3) hx hb dX9_sealOf_56 (by decide) ?_
      refine lv_aload_n hx hb dX9_sealOf_57 rfl (lv_at hl 1 rfl) ?_
      refine mo_r4 X hP hm mw_459 dX9_sealOf_58 ?_
      refine lv_iload_n hx hb dX9_sealOf_61 rfl (lv_at hl 2 rfl) ?_
      refine mo_a4 X hP hm hv dX9_sealOf_62 ?_
      refine lv_imul hx hb dX9_sealOf_63 ?_
      refine lv_iadd hx hb dX9_sealOf_64 ?_
      refine lv_istore_n (lv' := [(2, .int ((((((ar 2 (mI v)) * 961) + ((ar 3 (mI v)) * 31)) + (ar 1 (mI v))) + (mLast ar (mI v))) + (3 * (ar 4 (mI v))))), (0, .ref h), (1, .int v)]) hx hb dX9_sealOf_65 rfl hl (by decide) rfl (fun L hl => ?_)
      refine lv_iload_n hx hb dX9_sealOf_66 rfl (lv_at hl 0 rfl) ?_
      exact e_int X hP hD hS dX9_sealOf_67 ⟨by first | rfl | simp only [mSeal, mS0, if_neg c_33, if_pos c_52] | (simp only [mSeal, mS0, if_neg c_33, if_pos c_52]; rfl), rfl⟩
end
section
theorem sw_in {x : Int32} {n : Nat} (hn : n < 2 ^ 31) (h : ¬ (x.toInt < 0 ∨ (n : Int) - 1 < x.toInt)) : ∃ j : Nat, j < n ∧ x = nI j := by
  have h1 : ¬ x < 0 := fun z => h (Or.inl (by have := Int32.lt_iff_toInt_lt.mp z; simpa using this))
  obtain ⟨j, hj, rfl⟩ := nI_of h1
  refine ⟨j, ?_, rfl⟩
  rw [nI_toInt hj] at h
  omega
theorem sw_5 {x : Int32} (h : ¬ (x.toInt < 0 ∨ 4 < x.toInt)) : x = 0 ∨ x = 1 ∨ x = 2 ∨ x = 3 ∨ x = 4 := by
  obtain ⟨j, hj, rfl⟩ := sw_in (n := 5) (by decide) h
  rcases (by omega : j = 0 ∨ j = 1 ∨ j = 2 ∨ j = 3 ∨ j = 4) with rfl | rfl | rfl | rfl | rfl <;> decide
theorem sw_6 {x : Int32} (h : ¬ (x.toInt < 0 ∨ 5 < x.toInt)) : x = 0 ∨ x = 1 ∨ x = 2 ∨ x = 3 ∨ x = 4 ∨ x = 5 := by
  obtain ⟨j, hj, rfl⟩ := sw_in (n := 6) (by decide) h
  rcases (by omega : j = 0 ∨ j = 1 ∨ j = 2 ∨ j = 3 ∨ j = 4 ∨ j = 5) with rfl | rfl | rfl | rfl | rfl | rfl <;> decide
theorem sw_7 {x : Int32} (h : ¬ (x.toInt < 0 ∨ 6 < x.toInt)) : x = 0 ∨ x = 1 ∨ x = 2 ∨ x = 3 ∨ x = 4 ∨ x = 5 ∨ x = 6 := by
  obtain ⟨j, hj, rfl⟩ := sw_in (n := 7) (by decide) h
  rcases (by omega : j = 0 ∨ j = 1 ∨ j = 2 ∨ j = 3 ∨ j = 4 ∨ j = 5 ∨ j = 6) with rfl | rfl | rfl | rfl | rfl | rfl | rfl <;> decide
theorem sw_out {x y : Int32} {n : Int} (h : x.toInt < 0 ∨ n < x.toInt) (hy : 0 ≤ y.toInt ∧ y.toInt ≤ n) : ¬ x = y := fun z => by
  subst z
  omega
set_option maxHeartbeats 4000000 in
set_option maxRecDepth 100000 in
theorem c_X9_pass (l : Launch) (D : va_G) (cI cZ cP : ClassId) (d : Nat) (hd : 1 ≤ d) {ws : va_W} {h : Nat} {q ad : Nat → Nat} {sc : Nat → Int32} {ar : Nat → Nat → Int32} (hm : mo_at cI cZ ws h q ad sc ar) (dd : Int32) : Ct l D (vTy cI cZ cP) yX9_pass cX9_pass 2 (some .int) d 0 0 [.ref h, .int dd] ws (pM cI cZ h q ad (mPass sc ar dd) ws) := by
  refine ct_intro (by decide) (Nat.le_of_ble_eq_true rfl) ?_
  intro p e s m below meth c A L X hin hP hD hS hA hl
  have hl : lv_has L 2 [(0, .ref h), (1, .int dd)] := hl
  obtain ⟨hx, hb, hr, hml, hown, hts, hK, hlk, hxK⟩ := id X
  have hfr := mo_fr_rf ws
  refine lv_iload_n hx hb dX9_pass_0 rfl (lv_at hl 1 rfl) ?_
  refine lv_iconst (v := 1) hx hb dX9_pass_1 (by decide) ?_
  refine lv_sipush (v := 1000) hx hb dX9_pass_2 (by decide) ?_
  refine g_static (As := [.int dd, .int 1, .int 1000]) (rest := []) sw_X9_36 X (c_X9_within l D (vTy cI cZ cP) 0 (by decide) ws dd 1 1000) hP hD hS hA ⟨by show _ ≤ d; omega, by show _ ≤ 30 * d; omega⟩ rfl hl.1 rfl (Nat.le_of_ble_eq_true rfl) dX9_pass_5 ⟨Nat.le_refl _, Nat.le_refl _⟩ (kI fun H locs hP hD hS => ?_)
  refine W.eq (g2 := F0 m 8 L [.int (mWin dd 1 1000)]) rfl ?_
  refine lv_if_ne (tgt := 14) hx hb dX9_pass_8 (by decide) (fun c_8 => ?_) (fun c_8 => ?_)
  · -- c_8 True
    refine lv_aload_n hx hb dX9_pass_14 rfl (lv_at hl 0 rfl) ?_
    refine mo_g0 X hP hm mw_449 dX9_pass_15 ?_
    refine lv_iload_n hx hb dX9_pass_18 rfl (lv_at hl 1 rfl) ?_
    refine lv_iadd hx hb dX9_pass_19 ?_
    refine lv_sipush (v := 20000) hx hb dX9_pass_20 (by decide) ?_
    refine lv_icmp_le (tgt := 29) hx hb dX9_pass_23 (by decide) (fun c_23 => ?_) (fun c_23 => ?_)
    · -- c_23 True
      refine lv_aload_n hx hb dX9_pass_29 rfl (lv_at hl 0 rfl) ?_
      refine lv_dup hx hb dX9_pass_30 rfl ?_
      refine mo_g0 X hP hm mw_449 dX9_pass_31 ?_
      refine lv_iload_n hx hb dX9_pass_34 rfl (lv_at hl 1 rfl) ?_
      refine lv_iadd hx hb dX9_pass_35 ?_
      refine mo_p0 X hP hD hS hm hfr mw_449 dX9_pass_36 (fun ws H locs hP hD hS hm hfr => ?_)
      refine lv_aload_n hx hb dX9_pass_39 rfl (lv_at hl 0 rfl) ?_
      refine mo_g0 X hP hm mw_449 dX9_pass_40 ?_
      exact e_int X hP hD hS dX9_pass_43 (pM_of hm hfr (by first | (simp only [mPass, if_neg c_8, if_pos c_23]; done) | (simp only [mPass, if_neg c_8, if_pos c_23]; rfl)))
    · -- c_23 False
      refine lv_bipush (v := (-4)) hx hb dX9_pass_26 (by decide) ?_
      exact e_int X hP hD hS dX9_pass_28 (pM_of hm hfr (by first | (simp only [mPass, if_neg c_8, if_neg c_23]; done) | (simp only [mPass, if_neg c_8, if_neg c_23]; rfl)))
  · -- c_8 False
    refine lv_bipush (v := (-2)) hx hb dX9_pass_11 (by decide) ?_
    exact e_int X hP hD hS dX9_pass_13 (pM_of hm hfr (by first | (simp only [mPass, if_pos c_8]; done) | (simp only [mPass, if_pos c_8]; rfl)))
set_option maxHeartbeats 4000000 in
set_option maxRecDepth 100000 in
theorem c_X9_value (l : Launch) (D : va_G) (cI cZ cP : ClassId) (d : Nat) (hd : 2 ≤ d) {ws : va_W} {h : Nat} {q ad : Nat → Nat} {sc : Nat → Int32} {ar : Nat → Nat → Int32} (hm : mo_at cI cZ ws h q ad sc ar) {n : Nat} (hn : sc 1 = nI n) (h40 : n ≤ 40) (v t : Int32) : Ct l D (vTy cI cZ cP) yX9_value cX9_value 3 (some .int) d 0 0 [.ref h, .int v, .int t] ws (pI ws (mValue sc ar v t)) := by
  refine ct_intro (by decide) (Nat.le_of_ble_eq_true rfl) ?_
  intro p e s m below meth c A L X hin hP hD hS hA hl
  have hl : lv_has L 3 [(0, .ref h), (1, .int v), (2, .int t)] := hl
  obtain ⟨hx, hb, hr, hml, hown, hts, hK, hlk, hxK⟩ := id X
  have hfr := mo_fr_rf ws
  refine lv_aload_n hx hb dX9_value_0 rfl (lv_at hl 0 rfl) ?_
  refine lv_iload_n hx hb dX9_value_1 rfl (lv_at hl 1 rfl) ?_
  refine g_priv (ci := 9) (cq := (RX9, TX9, 13)) (As := [.int v]) (rest := []) pw_X9_58 X (c_X9_isThere l D cI cZ cP 1 (by decide) hm hn h40 v) hP hD hS hA hm.1 rfl rfl ⟨by show _ ≤ d; omega, by show _ ≤ 30 * d; omega⟩ rfl hl.1 rfl (Nat.le_of_ble_eq_true rfl) dX9_value_2 ⟨Nat.le_refl _, Nat.le_refl _⟩ (kI fun H locs hP hD hS => ?_)
  refine W.eq (g2 := F0 m 5 L [.int (mThe sc ar v)]) rfl ?_
  refine lv_if_ne (tgt := 10) hx hb dX9_value_5 (by decide) (fun c_5 => ?_) (fun c_5 => ?_)
  · -- c_5 True
    have hv_5 := the_vp hn h40 c_5
    refine lv_iload_n hx hb dX9_value_10 rfl (lv_at hl 2 rfl) ?_
    refine lv_iconst (v := 0) hx hb dX9_value_11 (by decide) ?_
    refine lv_sipush (v := 20000) hx hb dX9_value_12 (by decide) ?_
    refine g_static (As := [.int t, .int 0, .int 20000]) (rest := []) sw_X9_36 X (c_X9_within l D (vTy cI cZ cP) 0 (by decide) ws t 0 20000) hP hD hS hA ⟨by show _ ≤ d; omega, by show _ ≤ 30 * d; omega⟩ rfl hl.1 rfl (Nat.le_of_ble_eq_true rfl) dX9_value_15 ⟨Nat.le_refl _, Nat.le_refl _⟩ (kI fun H locs hP hD hS => ?_)
    refine W.eq (g2 := F0 m 18 L [.int (mWin t 0 20000)]) rfl ?_
    refine lv_if_eq (tgt := 30) hx hb dX9_value_18 (by decide) (fun c_18 => ?_) (fun c_18 => ?_)
    · -- c_18 True
      refine lv_bipush (v := (-2)) hx hb dX9_value_30 (by decide) ?_
      exact e_int X hP hD hS dX9_value_32 ⟨by first | rfl | simp only [mValue, if_neg c_5, if_pos c_18] | (simp only [mValue, if_neg c_5, if_pos c_18]; rfl), rfl⟩
    · -- c_18 False
      refine lv_aload_n hx hb dX9_value_21 rfl (lv_at hl 0 rfl) ?_
      refine lv_iload_n hx hb dX9_value_22 rfl (lv_at hl 1 rfl) ?_
      refine lv_iload_n hx hb dX9_value_23 rfl (lv_at hl 2 rfl) ?_
      refine g_priv (ci := 9) (cq := (RX9, TX9, 13)) (As := [.int v, .int t]) (rest := []) pw_X9_61 X (c_X9_valueOf l D cI cZ cP 1 (by decide) hm hv_5 t) hP hD hS hA hm.1 rfl rfl ⟨by show _ ≤ d; omega, by show _ ≤ 30 * d; omega⟩ rfl hl.1 rfl (Nat.le_of_ble_eq_true rfl) dX9_value_24 ⟨Nat.le_refl _, Nat.le_refl _⟩ (kI fun H locs hP hD hS => ?_)
      refine W.eq (g2 := F0 m 27 L [.int (mVal ar (mI v) t)]) rfl ?_
      refine lv_goto (tgt := 32) hx hb dX9_value_27 (by decide) ?_
      exact e_int X hP hD hS dX9_value_32 ⟨by first | rfl | simp only [mValue, if_neg c_5, if_neg c_18] | (simp only [mValue, if_neg c_5, if_neg c_18]; rfl), rfl⟩
  · -- c_5 False
    refine lv_iconst (v := (-1)) hx hb dX9_value_8 (by decide) ?_
    exact e_int X hP hD hS dX9_value_9 ⟨by first | rfl | simp only [mValue, if_pos c_5] | (simp only [mValue, if_pos c_5]; rfl), rfl⟩
set_option maxHeartbeats 4000000 in
set_option maxRecDepth 100000 in
theorem c_X9_fee (l : Launch) (D : va_G) (cI cZ cP : ClassId) (d : Nat) (hd : 2 ≤ d) {ws : va_W} {h : Nat} {q ad : Nat → Nat} {sc : Nat → Int32} {ar : Nat → Nat → Int32} (hm : mo_at cI cZ ws h q ad sc ar) {n : Nat} (hn : sc 1 = nI n) (h40 : n ≤ 40) (v g : Int32) : Ct l D (vTy cI cZ cP) yX9_fee cX9_fee 3 (some .int) d 0 0 [.ref h, .int v, .int g] ws (pI ws (mFeeP sc ar v g)) := by
  refine ct_intro (by decide) (Nat.le_of_ble_eq_true rfl) ?_
  intro p e s m below meth c A L X hin hP hD hS hA hl
  have hl : lv_has L 3 [(0, .ref h), (1, .int v), (2, .int g)] := hl
  obtain ⟨hx, hb, hr, hml, hown, hts, hK, hlk, hxK⟩ := id X
  have hfr := mo_fr_rf ws
  refine lv_aload_n hx hb dX9_fee_0 rfl (lv_at hl 0 rfl) ?_
  refine lv_iload_n hx hb dX9_fee_1 rfl (lv_at hl 1 rfl) ?_
  refine g_priv (ci := 9) (cq := (RX9, TX9, 13)) (As := [.int v]) (rest := []) pw_X9_58 X (c_X9_isThere l D cI cZ cP 1 (by decide) hm hn h40 v) hP hD hS hA hm.1 rfl rfl ⟨by show _ ≤ d; omega, by show _ ≤ 30 * d; omega⟩ rfl hl.1 rfl (Nat.le_of_ble_eq_true rfl) dX9_fee_2 ⟨Nat.le_refl _, Nat.le_refl _⟩ (kI fun H locs hP hD hS => ?_)
  refine W.eq (g2 := F0 m 5 L [.int (mThe sc ar v)]) rfl ?_
  refine lv_if_ne (tgt := 10) hx hb dX9_fee_5 (by decide) (fun c_5 => ?_) (fun c_5 => ?_)
  · -- c_5 True
    have hv_5 := the_vp hn h40 c_5
    refine lv_iload_n hx hb dX9_fee_10 rfl (lv_at hl 2 rfl) ?_
    refine lv_iconst (v := 1) hx hb dX9_fee_11 (by decide) ?_
    refine lv_ldc (v := 100000) hx hb hown (hts _ mw_498) dX9_fee_12 ?_
    refine g_static (As := [.int g, .int 1, .int 100000]) (rest := []) sw_X9_36 X (c_X9_within l D (vTy cI cZ cP) 0 (by decide) ws g 1 100000) hP hD hS hA ⟨by show _ ≤ d; omega, by show _ ≤ 30 * d; omega⟩ rfl hl.1 rfl (Nat.le_of_ble_eq_true rfl) dX9_fee_14 ⟨Nat.le_refl _, Nat.le_refl _⟩ (kI fun H locs hP hD hS => ?_)
    refine W.eq (g2 := F0 m 17 L [.int (mWin g 1 100000)]) rfl ?_
    refine lv_if_eq (tgt := 29) hx hb dX9_fee_17 (by decide) (fun c_17 => ?_) (fun c_17 => ?_)
    · -- c_17 True
      refine lv_bipush (v := (-2)) hx hb dX9_fee_29 (by decide) ?_
      exact e_int X hP hD hS dX9_fee_31 ⟨by first | rfl | simp only [mFeeP, if_neg c_5, if_pos c_17] | (simp only [mFeeP, if_neg c_5, if_pos c_17]; rfl), rfl⟩
    · -- c_17 False
      refine lv_aload_n hx hb dX9_fee_20 rfl (lv_at hl 0 rfl) ?_
      refine lv_iload_n hx hb dX9_fee_21 rfl (lv_at hl 1 rfl) ?_
      refine lv_iload_n hx hb dX9_fee_22 rfl (lv_at hl 2 rfl) ?_
      refine g_priv (ci := 9) (cq := (RX9, TX9, 13)) (As := [.int v, .int g]) (rest := []) pw_X9_65 X (c_X9_feeOf l D cI cZ cP 0 (by decide) hm hv_5 g) hP hD hS hA hm.1 rfl rfl ⟨by show _ ≤ d; omega, by show _ ≤ 30 * d; omega⟩ rfl hl.1 rfl (Nat.le_of_ble_eq_true rfl) dX9_fee_23 ⟨Nat.le_refl _, Nat.le_refl _⟩ (kI fun H locs hP hD hS => ?_)
      refine W.eq (g2 := F0 m 26 L [.int (mFee ar (mI v) g)]) rfl ?_
      refine lv_goto (tgt := 31) hx hb dX9_fee_26 (by decide) ?_
      exact e_int X hP hD hS dX9_fee_31 ⟨by first | rfl | simp only [mFeeP, if_neg c_5, if_neg c_17] | (simp only [mFeeP, if_neg c_5, if_neg c_17]; rfl), rfl⟩
  · -- c_5 False
    refine lv_iconst (v := (-1)) hx hb dX9_fee_8 (by decide) ?_
    exact e_int X hP hD hS dX9_fee_9 ⟨by first | rfl | simp only [mFeeP, if_pos c_5] | (simp only [mFeeP, if_pos c_5]; rfl), rfl⟩
set_option maxHeartbeats 4000000 in
set_option maxRecDepth 100000 in
theorem c_X9_seal (l : Launch) (D : va_G) (cI cZ cP : ClassId) (d : Nat) (hd : 2 ≤ d) {ws : va_W} {h : Nat} {q ad : Nat → Nat} {sc : Nat → Int32} {ar : Nat → Nat → Int32} (hm : mo_at cI cZ ws h q ad sc ar) {n : Nat} (hn : sc 1 = nI n) (h40 : n ≤ 40) (v : Int32) : Ct l D (vTy cI cZ cP) yX9_seal cX9_seal 2 (some .int) d 0 0 [.ref h, .int v] ws (pI ws (mSealP sc ar v)) := by
  refine ct_intro (by decide) (Nat.le_of_ble_eq_true rfl) ?_
  intro p e s m below meth c A L X hin hP hD hS hA hl
  have hl : lv_has L 2 [(0, .ref h), (1, .int v)] := hl
  obtain ⟨hx, hb, hr, hml, hown, hts, hK, hlk, hxK⟩ := id X
  have hfr := mo_fr_rf ws
  refine lv_aload_n hx hb dX9_seal_0 rfl (lv_at hl 0 rfl) ?_
  refine lv_iload_n hx hb dX9_seal_1 rfl (lv_at hl 1 rfl) ?_
  refine g_priv (ci := 9) (cq := (RX9, TX9, 13)) (As := [.int v]) (rest := []) pw_X9_58 X (c_X9_isThere l D cI cZ cP 1 (by decide) hm hn h40 v) hP hD hS hA hm.1 rfl rfl ⟨by show _ ≤ d; omega, by show _ ≤ 30 * d; omega⟩ rfl hl.1 rfl (Nat.le_of_ble_eq_true rfl) dX9_seal_2 ⟨Nat.le_refl _, Nat.le_refl _⟩ (kI fun H locs hP hD hS => ?_)
  refine W.eq (g2 := F0 m 5 L [.int (mThe sc ar v)]) rfl ?_
  refine lv_if_eq (tgt := 16) hx hb dX9_seal_5 (by decide) (fun c_5 => ?_) (fun c_5 => ?_)
  · -- c_5 True
    refine lv_iconst (v := (-1)) hx hb dX9_seal_16 (by decide) ?_
    exact e_int X hP hD hS dX9_seal_17 ⟨by first | rfl | simp only [mSealP, if_pos c_5] | (simp only [mSealP, if_pos c_5]; rfl), rfl⟩
  · -- c_5 False
    have hv_5 := the_vp hn h40 c_5
    refine lv_aload_n hx hb dX9_seal_8 rfl (lv_at hl 0 rfl) ?_
    refine lv_iload_n hx hb dX9_seal_9 rfl (lv_at hl 1 rfl) ?_
    refine g_priv (ci := 9) (cq := (RX9, TX9, 13)) (As := [.int v]) (rest := []) pw_X9_74 X (c_X9_sealOf l D cI cZ cP 1 (by decide) hm hv_5 ) hP hD hS hA hm.1 rfl rfl ⟨by show _ ≤ d; omega, by show _ ≤ 30 * d; omega⟩ rfl hl.1 rfl (Nat.le_of_ble_eq_true rfl) dX9_seal_10 ⟨Nat.le_refl _, Nat.le_refl _⟩ (kI fun H locs hP hD hS => ?_)
    refine W.eq (g2 := F0 m 13 L [.int (mSeal ar (mI v))]) rfl ?_
    refine lv_goto (tgt := 17) hx hb dX9_seal_13 (by decide) ?_
    exact e_int X hP hD hS dX9_seal_17 ⟨by first | rfl | simp only [mSealP, if_neg c_5] | (simp only [mSealP, if_neg c_5]; rfl), rfl⟩
set_option maxHeartbeats 4000000 in
set_option maxRecDepth 100000 in
theorem c_X9_mark (l : Launch) (D : va_G) (cI cZ cP : ClassId) (d : Nat) (hd : 2 ≤ d) {ws : va_W} {h : Nat} {q ad : Nat → Nat} {sc : Nat → Int32} {ar : Nat → Nat → Int32} (hm : mo_at cI cZ ws h q ad sc ar) {n : Nat} (hn : sc 1 = nI n) (h40 : n ≤ 40) (v n0 : Int32) : Ct l D (vTy cI cZ cP) yX9_mark cX9_mark 3 (some .int) d 0 0 [.ref h, .int v, .int n0] ws (pI ws (mMark sc ar v n0)) := by
  refine ct_intro (by decide) (Nat.le_of_ble_eq_true rfl) ?_
  intro p e s m below meth c A L X hin hP hD hS hA hl
  have hl : lv_has L 3 [(0, .ref h), (1, .int v), (2, .int n0)] := hl
  obtain ⟨hx, hb, hr, hml, hown, hts, hK, hlk, hxK⟩ := id X
  have hfr := mo_fr_rf ws
  refine lv_aload_n hx hb dX9_mark_0 rfl (lv_at hl 0 rfl) ?_
  refine lv_iload_n hx hb dX9_mark_1 rfl (lv_at hl 1 rfl) ?_
  refine g_priv (ci := 9) (cq := (RX9, TX9, 13)) (As := [.int v]) (rest := []) pw_X9_58 X (c_X9_isThere l D cI cZ cP 1 (by decide) hm hn h40 v) hP hD hS hA hm.1 rfl rfl ⟨by show _ ≤ d; omega, by show _ ≤ 30 * d; omega⟩ rfl hl.1 rfl (Nat.le_of_ble_eq_true rfl) dX9_mark_2 ⟨Nat.le_refl _, Nat.le_refl _⟩ (kI fun H locs hP hD hS => ?_)
  refine W.eq (g2 := F0 m 5 L [.int (mThe sc ar v)]) rfl ?_
  refine lv_if_ne (tgt := 10) hx hb dX9_mark_5 (by decide) (fun c_5 => ?_) (fun c_5 => ?_)
  · -- c_5 True
    have hv_5 := the_vp hn h40 c_5
    refine lv_iload_n hx hb dX9_mark_10 rfl (lv_at hl 2 rfl) ?_
    refine lv_iconst (v := 0) hx hb dX9_mark_11 (by decide) ?_
    refine lv_sipush (v := 999) hx hb dX9_mark_12 (by decide) ?_
    refine g_static (As := [.int n0, .int 0, .int 999]) (rest := []) sw_X9_36 X (c_X9_within l D (vTy cI cZ cP) 0 (by decide) ws n0 0 999) hP hD hS hA ⟨by show _ ≤ d; omega, by show _ ≤ 30 * d; omega⟩ rfl hl.1 rfl (Nat.le_of_ble_eq_true rfl) dX9_mark_15 ⟨Nat.le_refl _, Nat.le_refl _⟩ (kI fun H locs hP hD hS => ?_)
    refine W.eq (g2 := F0 m 18 L [.int (mWin n0 0 999)]) rfl ?_
    refine lv_if_ne (tgt := 24) hx hb dX9_mark_18 (by decide) (fun c_18 => ?_) (fun c_18 => ?_)
    · -- c_18 True
      refine lv_aload_n hx hb dX9_mark_24 rfl (lv_at hl 0 rfl) ?_
      refine mo_r0 X hP hm mw_455 dX9_mark_25 ?_
      refine lv_iload_n hx hb dX9_mark_28 rfl (lv_at hl 1 rfl) ?_
      refine mo_a0 X hP hm hv_5 dX9_mark_29 ?_
      refine lv_iconst (v := 5) hx hb dX9_mark_30 (by decide) ?_
      refine lv_icmp_lt (tgt := 47) hx hb dX9_mark_31 (by decide) (fun c_31 => ?_) (fun c_31 => ?_)
      · -- c_31 True
        refine lv_bipush (v := (-3)) hx hb dX9_mark_47 (by decide) ?_
        exact e_int X hP hD hS dX9_mark_49 ⟨by first | rfl | simp only [mMark, if_neg c_5, if_neg c_18, if_pos c_31] | (simp only [mMark, if_neg c_5, if_neg c_18, if_pos c_31]; rfl), rfl⟩
      · -- c_31 False
        refine lv_aload_n hx hb dX9_mark_34 rfl (lv_at hl 0 rfl) ?_
        refine lv_iload_n hx hb dX9_mark_35 rfl (lv_at hl 1 rfl) ?_
        refine g_priv (ci := 9) (cq := (RX9, TX9, 13)) (As := [.int v]) (rest := []) pw_X9_74 X (c_X9_sealOf l D cI cZ cP 1 (by decide) hm hv_5 ) hP hD hS hA hm.1 rfl rfl ⟨by show _ ≤ d; omega, by show _ ≤ 30 * d; omega⟩ rfl hl.1 rfl (Nat.le_of_ble_eq_true rfl) dX9_mark_36 ⟨Nat.le_refl _, Nat.le_refl _⟩ (kI fun H locs hP hD hS => ?_)
        refine W.eq (g2 := F0 m 39 L [.int (mSeal ar (mI v))]) rfl ?_
        refine lv_bipush (v := 7) hx hb dX9_mark_39 (by decide) ?_
        refine lv_imul hx hb dX9_mark_41 ?_
        refine lv_iload_n hx hb dX9_mark_42 rfl (lv_at hl 2 rfl) ?_
        refine lv_iadd hx hb dX9_mark_43 ?_
        refine lv_goto (tgt := 49) hx hb dX9_mark_44 (by decide) ?_
        exact e_int X hP hD hS dX9_mark_49 ⟨by first | rfl | simp only [mMark, if_neg c_5, if_neg c_18, if_neg c_31] | (simp only [mMark, if_neg c_5, if_neg c_18, if_neg c_31]; rfl), rfl⟩
    · -- c_18 False
      refine lv_bipush (v := (-2)) hx hb dX9_mark_21 (by decide) ?_
      exact e_int X hP hD hS dX9_mark_23 ⟨by first | rfl | simp only [mMark, if_neg c_5, if_pos c_18] | (simp only [mMark, if_neg c_5, if_pos c_18]; rfl), rfl⟩
  · -- c_5 False
    refine lv_iconst (v := (-1)) hx hb dX9_mark_8 (by decide) ?_
    exact e_int X hP hD hS dX9_mark_9 ⟨by first | rfl | simp only [mMark, if_pos c_5] | (simp only [mMark, if_pos c_5]; rfl), rfl⟩
set_option maxHeartbeats 4000000 in
set_option maxRecDepth 100000 in
theorem c_X9_daysLeft (l : Launch) (D : va_G) (cI cZ cP : ClassId) (d : Nat) (hd : 2 ≤ d) {ws : va_W} {h : Nat} {q ad : Nat → Nat} {sc : Nat → Int32} {ar : Nat → Nat → Int32} (hm : mo_at cI cZ ws h q ad sc ar) {n : Nat} (hn : sc 1 = nI n) (h40 : n ≤ 40) (v t : Int32) : Ct l D (vTy cI cZ cP) yX9_daysLeft cX9_daysLeft 4 (some .int) d 0 0 [.ref h, .int v, .int t] ws (pI ws (mDays sc ar v t)) := by
  refine ct_intro (by decide) (Nat.le_of_ble_eq_true rfl) ?_
  intro p e s m below meth c A L X hin hP hD hS hA hl
  have hl : lv_has L 4 [(0, .ref h), (1, .int v), (2, .int t)] := hl
  obtain ⟨hx, hb, hr, hml, hown, hts, hK, hlk, hxK⟩ := id X
  have hfr := mo_fr_rf ws
  refine lv_aload_n hx hb dX9_daysLeft_0 rfl (lv_at hl 0 rfl) ?_
  refine lv_iload_n hx hb dX9_daysLeft_1 rfl (lv_at hl 1 rfl) ?_
  refine g_priv (ci := 9) (cq := (RX9, TX9, 13)) (As := [.int v]) (rest := []) pw_X9_58 X (c_X9_isThere l D cI cZ cP 1 (by decide) hm hn h40 v) hP hD hS hA hm.1 rfl rfl ⟨by show _ ≤ d; omega, by show _ ≤ 30 * d; omega⟩ rfl hl.1 rfl (Nat.le_of_ble_eq_true rfl) dX9_daysLeft_2 ⟨Nat.le_refl _, Nat.le_refl _⟩ (kI fun H locs hP hD hS => ?_)
  refine W.eq (g2 := F0 m 5 L [.int (mThe sc ar v)]) rfl ?_
  refine lv_if_ne (tgt := 10) hx hb dX9_daysLeft_5 (by decide) (fun c_5 => ?_) (fun c_5 => ?_)
  · -- c_5 True
    have hv_5 := the_vp hn h40 c_5
    refine lv_iload_n hx hb dX9_daysLeft_10 rfl (lv_at hl 2 rfl) ?_
    refine lv_iconst (v := 0) hx hb dX9_daysLeft_11 (by decide) ?_
    refine lv_sipush (v := 20000) hx hb dX9_daysLeft_12 (by decide) ?_
    refine g_static (As := [.int t, .int 0, .int 20000]) (rest := []) sw_X9_36 X (c_X9_within l D (vTy cI cZ cP) 0 (by decide) ws t 0 20000) hP hD hS hA ⟨by show _ ≤ d; omega, by show _ ≤ 30 * d; omega⟩ rfl hl.1 rfl (Nat.le_of_ble_eq_true rfl) dX9_daysLeft_15 ⟨Nat.le_refl _, Nat.le_refl _⟩ (kI fun H locs hP hD hS => ?_)
    refine W.eq (g2 := F0 m 18 L [.int (mWin t 0 20000)]) rfl ?_
    refine lv_if_ne (tgt := 24) hx hb dX9_daysLeft_18 (by decide) (fun c_18 => ?_) (fun c_18 => ?_)
    · -- c_18 True
      refine lv_aload_n hx hb dX9_daysLeft_24 rfl (lv_at hl 0 rfl) ?_
      refine lv_iload_n hx hb dX9_daysLeft_25 rfl (lv_at hl 1 rfl) ?_
      refine g_priv (ci := 9) (cq := (RX9, TX9, 13)) (As := [.int v]) (rest := []) pw_X9_40 X (c_X9_isDated l D cI cZ cP 0 (by decide) hm hv_5 ) hP hD hS hA hm.1 rfl rfl ⟨by show _ ≤ d; omega, by show _ ≤ 30 * d; omega⟩ rfl hl.1 rfl (Nat.le_of_ble_eq_true rfl) dX9_daysLeft_26 ⟨Nat.le_refl _, Nat.le_refl _⟩ (kI fun H locs hP hD hS => ?_)
      refine W.eq (g2 := F0 m 29 L [.int (mDat ar (mI v))]) rfl ?_
      refine lv_if_ne (tgt := 35) hx hb dX9_daysLeft_29 (by decide) (fun c_29 => ?_) (fun c_29 => ?_)
      · -- c_29 True
        refine lv_aload_n hx hb dX9_daysLeft_35 rfl (lv_at hl 0 rfl) ?_
        refine lv_iload_n hx hb dX9_daysLeft_36 rfl (lv_at hl 1 rfl) ?_
        refine g_priv (ci := 9) (cq := (RX9, TX9, 13)) (As := [.int v]) (rest := []) pw_X9_44 X (c_X9_lastDay l D cI cZ cP 0 (by decide) hm hv_5 ) hP hD hS hA hm.1 rfl rfl ⟨by show _ ≤ d; omega, by show _ ≤ 30 * d; omega⟩ rfl hl.1 rfl (Nat.le_of_ble_eq_true rfl) dX9_daysLeft_37 ⟨Nat.le_refl _, Nat.le_refl _⟩ (kI fun H locs hP hD hS => ?_)
        refine W.eq (g2 := F0 m 40 L [.int (mLast ar (mI v))]) rfl ?_
        refine lv_iload_n hx hb dX9_daysLeft_40 rfl (lv_at hl 2 rfl) ?_
        refine lv_isub hx hb dX9_daysLeft_41 ?_
        refine lv_istore_n (lv' := [(3, .int ((mLast ar (mI v)) - t)), (0, .ref h), (1, .int v), (2, .int t)]) hx hb dX9_daysLeft_42 rfl hl (by decide) rfl (fun L hl => ?_)
        refine lv_iload_n hx hb dX9_daysLeft_43 rfl (lv_at hl 0 rfl) ?_
        refine lv_if_le (tgt := 51) hx hb dX9_daysLeft_44 (by decide) (fun c_44 => ?_) (fun c_44 => ?_)
        · -- c_44 True
          refine lv_iconst (v := 0) hx hb dX9_daysLeft_51 (by decide) ?_
          exact e_int X hP hD hS dX9_daysLeft_52 ⟨by first | rfl | simp only [mDays, if_neg c_5, if_neg c_18, if_neg c_29, if_pos c_44] | (simp only [mDays, if_neg c_5, if_neg c_18, if_neg c_29, if_pos c_44]; rfl), rfl⟩
        · -- c_44 False
          refine lv_iload_n hx hb dX9_daysLeft_47 rfl (lv_at hl 0 rfl) ?_
          refine lv_goto (tgt := 52) hx hb dX9_daysLeft_48 (by decide) ?_
          exact e_int X hP hD hS dX9_daysLeft_52 ⟨by first | rfl | simp only [mDays, if_neg c_5, if_neg c_18, if_neg c_29, if_neg c_44] | (simp only [mDays, if_neg c_5, if_neg c_18, if_neg c_29, if_neg c_44]; rfl), rfl⟩
      · -- c_29 False
        refine lv_bipush (v := (-3)) hx hb dX9_daysLeft_32 (by decide) ?_
        exact e_int X hP hD hS dX9_daysLeft_34 ⟨by first | rfl | simp only [mDays, if_neg c_5, if_neg c_18, if_pos c_29] | (simp only [mDays, if_neg c_5, if_neg c_18, if_pos c_29]; rfl), rfl⟩
    · -- c_18 False
      refine lv_bipush (v := (-2)) hx hb dX9_daysLeft_21 (by decide) ?_
      exact e_int X hP hD hS dX9_daysLeft_23 ⟨by first | rfl | simp only [mDays, if_neg c_5, if_pos c_18] | (simp only [mDays, if_neg c_5, if_pos c_18]; rfl), rfl⟩
  · -- c_5 False
    refine lv_iconst (v := (-1)) hx hb dX9_daysLeft_8 (by decide) ?_
    exact e_int X hP hD hS dX9_daysLeft_9 ⟨by first | rfl | simp only [mDays, if_pos c_5] | (simp only [mDays, if_pos c_5]; rfl), rfl⟩
set_option maxHeartbeats 4000000 in
set_option maxRecDepth 100000 in
theorem c_X9_issue (l : Launch) (D : va_G) (cI cZ cP : ClassId) (d : Nat) (hd : 1 ≤ d) {ws : va_W} {h : Nat} {q ad : Nat → Nat} {sc : Nat → Int32} {ar : Nat → Nat → Int32} (hm : mo_at cI cZ ws h q ad sc ar) {n : Nat} (hn : sc 1 = nI n) (h40 : n ≤ 40) (k am : Int32) : Ct l D (vTy cI cZ cP) yX9_issue cX9_issue 4 (some .int) d 0 0 [.ref h, .int k, .int am] ws (pM cI cZ h q ad (mIssue sc ar k am) ws) := by
  refine ct_intro (by decide) (Nat.le_of_ble_eq_true rfl) ?_
  intro p e s m below meth c A L X hin hP hD hS hA hl
  have hl : lv_has L 4 [(0, .ref h), (1, .int k), (2, .int am)] := hl
  obtain ⟨hx, hb, hr, hml, hown, hts, hK, hlk, hxK⟩ := id X
  have hfr := mo_fr_rf ws
  refine lv_iload_n hx hb dX9_issue_0 rfl (lv_at hl 1 rfl) ?_
  refine lv_iconst (v := 0) hx hb dX9_issue_1 (by decide) ?_
  refine lv_bipush (v := 7) hx hb dX9_issue_2 (by decide) ?_
  refine g_static (As := [.int k, .int 0, .int 7]) (rest := []) sw_X9_36 X (c_X9_within l D (vTy cI cZ cP) 0 (by decide) ws k 0 7) hP hD hS hA ⟨by show _ ≤ d; omega, by show _ ≤ 30 * d; omega⟩ rfl hl.1 rfl (Nat.le_of_ble_eq_true rfl) dX9_issue_4 ⟨Nat.le_refl _, Nat.le_refl _⟩ (kI fun H locs hP hD hS => ?_)
  refine W.eq (g2 := F0 m 7 L [.int (mWin k 0 7)]) rfl ?_
  refine lv_if_eq (tgt := 20) hx hb dX9_issue_7 (by decide) (fun c_7 => ?_) (fun c_7 => ?_)
  · -- c_7 True
    refine lv_bipush (v := (-2)) hx hb dX9_issue_20 (by decide) ?_
    exact e_int X hP hD hS dX9_issue_22 (pM_of hm hfr (by first | (simp only [mIssue, if_pos c_7]; done) | (simp only [mIssue, if_pos c_7]; rfl)))
  · -- c_7 False
    refine lv_iload_n hx hb dX9_issue_10 rfl (lv_at hl 2 rfl) ?_
    refine lv_iconst (v := 1) hx hb dX9_issue_11 (by decide) ?_
    refine lv_ldc (v := 100000) hx hb hown (hts _ mw_498) dX9_issue_12 ?_
    refine g_static (As := [.int am, .int 1, .int 100000]) (rest := []) sw_X9_36 X (c_X9_within l D (vTy cI cZ cP) 0 (by decide) ws am 1 100000) hP hD hS hA ⟨by show _ ≤ d; omega, by show _ ≤ 30 * d; omega⟩ rfl hl.1 rfl (Nat.le_of_ble_eq_true rfl) dX9_issue_14 ⟨Nat.le_refl _, Nat.le_refl _⟩ (kI fun H locs hP hD hS => ?_)
    refine W.eq (g2 := F0 m 17 L [.int (mWin am 1 100000)]) rfl ?_
    refine lv_if_ne (tgt := 23) hx hb dX9_issue_17 (by decide) (fun c_17 => ?_) (fun c_17 => ?_)
    · -- c_17 True
      refine lv_aload_n hx hb dX9_issue_23 rfl (lv_at hl 0 rfl) ?_
      refine mo_g1 X hP hm mw_450 dX9_issue_24 ?_
      refine lv_bipush (v := 40) hx hb dX9_issue_27 (by decide) ?_
      refine lv_icmp_ne (tgt := 35) hx hb dX9_issue_29 (by decide) (fun c_29 => ?_) (fun c_29 => ?_)
      · -- c_29 True
        have hv : vp_in (sc 1) 40 := by
          rw [hn]; rw [hn] at c_29
          rcases Nat.lt_or_ge n 40 with q9 | q9
          · exact vp_in_nI q9 (by decide)
          · exact absurd (by rw [show n = 40 by omega]; rfl) c_29
        refine lv_aload_n hx hb dX9_issue_35 rfl (lv_at hl 0 rfl) ?_
        refine mo_g1 X hP hm mw_450 dX9_issue_36 ?_
        refine lv_istore_n (lv' := [(3, .int (sc 1)), (0, .ref h), (1, .int k), (2, .int am)]) hx hb dX9_issue_39 rfl hl (by decide) rfl (fun L hl => ?_)
        refine lv_aload_n hx hb dX9_issue_40 rfl (lv_at hl 1 rfl) ?_
        refine mo_r0 X hP hm mw_455 dX9_issue_41 ?_
        refine lv_iload_n hx hb dX9_issue_44 rfl (lv_at hl 0 rfl) ?_
        refine lv_iload_n hx hb dX9_issue_45 rfl (lv_at hl 2 rfl) ?_
        refine mo_s0 X hP hD hS hm hfr hv dX9_issue_46 (fun ws H locs hP hD hS hm hfr => ?_)
        refine lv_aload_n hx hb dX9_issue_47 rfl (lv_at hl 1 rfl) ?_
        refine mo_r1 X hP hm mw_456 dX9_issue_48 ?_
        refine lv_iload_n hx hb dX9_issue_51 rfl (lv_at hl 0 rfl) ?_
        refine lv_iload_n hx hb dX9_issue_52 rfl (lv_at hl 3 rfl) ?_
        refine mo_s1 X hP hD hS hm hfr hv dX9_issue_53 (fun ws H locs hP hD hS hm hfr => ?_)
        refine lv_aload_n hx hb dX9_issue_54 rfl (lv_at hl 1 rfl) ?_
        refine mo_r2 X hP hm mw_457 dX9_issue_55 ?_
        refine lv_iload_n hx hb dX9_issue_58 rfl (lv_at hl 0 rfl) ?_
        refine lv_iload_n hx hb dX9_issue_59 rfl (lv_at hl 3 rfl) ?_
        refine mo_s2 X hP hD hS hm hfr hv dX9_issue_60 (fun ws H locs hP hD hS hm hfr => ?_)
        refine lv_aload_n hx hb dX9_issue_61 rfl (lv_at hl 1 rfl) ?_
        refine mo_r3 X hP hm mw_458 dX9_issue_62 ?_
        refine lv_iload_n hx hb dX9_issue_65 rfl (lv_at hl 0 rfl) ?_
        refine lv_aload_n hx hb dX9_issue_66 rfl (lv_at hl 1 rfl) ?_
        refine mo_g0 X hP hm mw_449 dX9_issue_67 ?_
        refine mo_s3 X hP hD hS hm hfr hv dX9_issue_70 (fun ws H locs hP hD hS hm hfr => ?_)
        refine lv_aload_n hx hb dX9_issue_71 rfl (lv_at hl 1 rfl) ?_
        refine lv_dup hx hb dX9_issue_72 rfl ?_
        refine mo_g1 X hP hm mw_450 dX9_issue_73 ?_
        refine lv_iconst (v := 1) hx hb dX9_issue_76 (by decide) ?_
        refine lv_iadd hx hb dX9_issue_77 ?_
        refine mo_p1 X hP hD hS hm hfr mw_450 dX9_issue_78 (fun ws H locs hP hD hS hm hfr => ?_)
        refine lv_aload_n hx hb dX9_issue_81 rfl (lv_at hl 1 rfl) ?_
        refine lv_dup hx hb dX9_issue_82 rfl ?_
        refine mo_g2 X hP hm mw_451 dX9_issue_83 ?_
        refine lv_iload_n hx hb dX9_issue_86 rfl (lv_at hl 3 rfl) ?_
        refine lv_iadd hx hb dX9_issue_87 ?_
        refine mo_p2 X hP hD hS hm hfr mw_451 dX9_issue_88 (fun ws H locs hP hD hS hm hfr => ?_)
        refine lv_iload_n hx hb dX9_issue_91 rfl (lv_at hl 0 rfl) ?_
        exact e_int X hP hD hS dX9_issue_92 (pM_of hm hfr (by first | (simp only [mIssue, if_neg c_7, if_neg c_17, if_neg c_29]; done) | (simp only [mIssue, if_neg c_7, if_neg c_17, if_neg c_29]; rfl)))
      · -- c_29 False
        refine lv_bipush (v := (-4)) hx hb dX9_issue_32 (by decide) ?_
        exact e_int X hP hD hS dX9_issue_34 (pM_of hm hfr (by first | (simp only [mIssue, if_neg c_7, if_neg c_17, if_pos c_29]; done) | (simp only [mIssue, if_neg c_7, if_neg c_17, if_pos c_29]; rfl)))
    · -- c_17 False
      refine lv_bipush (v := (-2)) hx hb dX9_issue_20 (by decide) ?_
      exact e_int X hP hD hS dX9_issue_22 (pM_of hm hfr (by first | (simp only [mIssue, if_neg c_7, if_pos c_17]; done) | (simp only [mIssue, if_neg c_7, if_pos c_17]; rfl)))
set_option maxHeartbeats 4000000 in
set_option maxRecDepth 100000 in
theorem c_X9_spend (l : Launch) (D : va_G) (cI cZ cP : ClassId) (d : Nat) (hd : 2 ≤ d) {ws : va_W} {h : Nat} {q ad : Nat → Nat} {sc : Nat → Int32} {ar : Nat → Nat → Int32} (hm : mo_at cI cZ ws h q ad sc ar) {n : Nat} (hn : sc 1 = nI n) (h40 : n ≤ 40) (v g : Int32) : Ct l D (vTy cI cZ cP) yX9_spend cX9_spend 4 (some .int) d 0 0 [.ref h, .int v, .int g] ws (pM cI cZ h q ad (mSpend sc ar v g) ws) := by
  refine ct_intro (by decide) (Nat.le_of_ble_eq_true rfl) ?_
  intro p e s m below meth c A L X hin hP hD hS hA hl
  have hl : lv_has L 4 [(0, .ref h), (1, .int v), (2, .int g)] := hl
  obtain ⟨hx, hb, hr, hml, hown, hts, hK, hlk, hxK⟩ := id X
  have hfr := mo_fr_rf ws
  refine lv_aload_n hx hb dX9_spend_0 rfl (lv_at hl 0 rfl) ?_
  refine lv_iload_n hx hb dX9_spend_1 rfl (lv_at hl 1 rfl) ?_
  refine g_priv (ci := 9) (cq := (RX9, TX9, 13)) (As := [.int v]) (rest := []) pw_X9_58 X (c_X9_isThere l D cI cZ cP 1 (by decide) hm hn h40 v) hP hD hS hA hm.1 rfl rfl ⟨by show _ ≤ d; omega, by show _ ≤ 30 * d; omega⟩ rfl hl.1 rfl (Nat.le_of_ble_eq_true rfl) dX9_spend_2 ⟨Nat.le_refl _, Nat.le_refl _⟩ (kI fun H locs hP hD hS => ?_)
  refine W.eq (g2 := F0 m 5 L [.int (mThe sc ar v)]) rfl ?_
  refine lv_if_ne (tgt := 10) hx hb dX9_spend_5 (by decide) (fun c_5 => ?_) (fun c_5 => ?_)
  · -- c_5 True
    have hv_5 := the_vp hn h40 c_5
    refine lv_iload_n hx hb dX9_spend_10 rfl (lv_at hl 2 rfl) ?_
    refine lv_iconst (v := 1) hx hb dX9_spend_11 (by decide) ?_
    refine lv_ldc (v := 100000) hx hb hown (hts _ mw_498) dX9_spend_12 ?_
    refine g_static (As := [.int g, .int 1, .int 100000]) (rest := []) sw_X9_36 X (c_X9_within l D (vTy cI cZ cP) 0 (by decide) ws g 1 100000) hP hD hS hA ⟨by show _ ≤ d; omega, by show _ ≤ 30 * d; omega⟩ rfl hl.1 rfl (Nat.le_of_ble_eq_true rfl) dX9_spend_14 ⟨Nat.le_refl _, Nat.le_refl _⟩ (kI fun H locs hP hD hS => ?_)
    refine W.eq (g2 := F0 m 17 L [.int (mWin g 1 100000)]) rfl ?_
    refine lv_if_ne (tgt := 23) hx hb dX9_spend_17 (by decide) (fun c_17 => ?_) (fun c_17 => ?_)
    · -- c_17 True
      refine lv_aload_n hx hb dX9_spend_23 rfl (lv_at hl 0 rfl) ?_
      refine mo_r0 X hP hm mw_455 dX9_spend_24 ?_
      refine lv_iload_n hx hb dX9_spend_27 rfl (lv_at hl 1 rfl) ?_
      refine mo_a0 X hP hm hv_5 dX9_spend_28 ?_
      refine lv_iconst (v := 3) hx hb dX9_spend_29 (by decide) ?_
      refine lv_icmp_ne (tgt := 51) hx hb dX9_spend_30 (by decide) (fun c_30 => ?_) (fun c_30 => ?_)
      · -- c_30 True
        have ca : ¬ (ar 0 (mI v) = 3 ∧ ar 5 (mI v) = sc 0 + 1) := fun z => c_30 z.1
        refine lv_aload_n hx hb dX9_spend_51 rfl (lv_at hl 0 rfl) ?_
        refine lv_iload_n hx hb dX9_spend_52 rfl (lv_at hl 1 rfl) ?_
        refine lv_iload_n hx hb dX9_spend_53 rfl (lv_at hl 2 rfl) ?_
        refine g_priv (ci := 9) (cq := (RX9, TX9, 13)) (As := [.int v, .int g]) (rest := []) pw_X9_65 X (c_X9_feeOf l D cI cZ cP 0 (by decide) hm hv_5 g) hP hD hS hA hm.1 rfl rfl ⟨by show _ ≤ d; omega, by show _ ≤ 30 * d; omega⟩ rfl hl.1 rfl (Nat.le_of_ble_eq_true rfl) dX9_spend_54 ⟨Nat.le_refl _, Nat.le_refl _⟩ (kI fun H locs hP hD hS => ?_)
        refine W.eq (g2 := F0 m 57 L [.int (mFee ar (mI v) g)]) rfl ?_
        refine lv_istore_n (lv' := [(3, .int (mFee ar (mI v) g)), (0, .ref h), (1, .int v), (2, .int g)]) hx hb dX9_spend_57 rfl hl (by decide) rfl (fun L hl => ?_)
        refine lv_iload_n hx hb dX9_spend_58 rfl (lv_at hl 3 rfl) ?_
        refine lv_aload_n hx hb dX9_spend_59 rfl (lv_at hl 1 rfl) ?_
        refine lv_iload_n hx hb dX9_spend_60 rfl (lv_at hl 2 rfl) ?_
        refine lv_aload_n hx hb dX9_spend_61 rfl (lv_at hl 1 rfl) ?_
        refine mo_g0 X hP hm mw_449 dX9_spend_62 ?_
        refine g_priv (ci := 9) (cq := (RX9, TX9, 13)) (As := [.int v, .int (sc 0)]) (rest := [.int g]) pw_X9_61 X (c_X9_valueOf l D cI cZ cP 1 (by decide) hm hv_5 ((sc 0))) hP hD hS hA hm.1 rfl rfl ⟨by show _ ≤ d; omega, by show _ ≤ 30 * d; omega⟩ rfl hl.1 rfl (Nat.le_of_ble_eq_true rfl) dX9_spend_65 ⟨Nat.le_refl _, Nat.le_refl _⟩ (kI fun H locs hP hD hS => ?_)
        refine W.eq (g2 := F0 m 68 L [.int (mVal ar (mI v) (sc 0)), .int g]) rfl ?_
        refine lv_icmp_gt (tgt := 83) hx hb dX9_spend_68 (by decide) (fun c_68 => ?_) (fun c_68 => ?_)
        · -- c_68 True
          refine lv_bipush (v := (-5)) hx hb dX9_spend_83 (by decide) ?_
          exact e_int X hP hD hS dX9_spend_85 (pM_of hm hfr (by first | (simp only [mSpend, if_neg c_5, if_neg c_17, if_neg ca, if_pos c_68]; done) | (simp only [mSpend, if_neg c_5, if_neg c_17, if_neg ca, if_pos c_68]; exact Prod.ext (by simp [mSet, va_up, upd]) rfl)))
        · -- c_68 False
          refine lv_iload_n hx hb dX9_spend_71 rfl (lv_at hl 3 rfl) ?_
          refine lv_iload_n hx hb dX9_spend_72 rfl (lv_at hl 0 rfl) ?_
          refine lv_iadd hx hb dX9_spend_73 ?_
          refine lv_aload_n hx hb dX9_spend_74 rfl (lv_at hl 1 rfl) ?_
          refine mo_r2 X hP hm mw_457 dX9_spend_75 ?_
          refine lv_iload_n hx hb dX9_spend_78 rfl (lv_at hl 2 rfl) ?_
          refine mo_a2 X hP hm hv_5 dX9_spend_79 ?_
          refine lv_icmp_le (tgt := 86) hx hb dX9_spend_80 (by decide) (fun c_80 => ?_) (fun c_80 => ?_)
          · -- c_80 True
            refine lv_aload_n hx hb dX9_spend_86 rfl (lv_at hl 1 rfl) ?_
            refine mo_r2 X hP hm mw_457 dX9_spend_87 ?_
            refine lv_iload_n hx hb dX9_spend_90 rfl (lv_at hl 2 rfl) ?_
            refine lv_dup2_11 hx hb dX9_spend_91 rfl rfl ?_
            refine mo_a2 X hP hm hv_5 dX9_spend_92 ?_
            refine lv_iload_n hx hb dX9_spend_93 rfl (lv_at hl 3 rfl) ?_
            refine lv_iload_n hx hb dX9_spend_94 rfl (lv_at hl 0 rfl) ?_
            refine lv_iadd hx hb dX9_spend_95 ?_
            refine lv_isub hx hb dX9_spend_96 ?_
            refine mo_s2 X hP hD hS hm hfr hv_5 dX9_spend_97 (fun ws H locs hP hD hS hm hfr => ?_)
            refine lv_aload_n hx hb dX9_spend_98 rfl (lv_at hl 1 rfl) ?_
            refine mo_r5 X hP hm mw_460 dX9_spend_99 ?_
            refine lv_iload_n hx hb dX9_spend_102 rfl (lv_at hl 2 rfl) ?_
            refine lv_aload_n hx hb dX9_spend_103 rfl (lv_at hl 1 rfl) ?_
            refine mo_g0 X hP hm mw_449 dX9_spend_104 ?_
            refine lv_iconst (v := 1) hx hb dX9_spend_107 (by decide) ?_
            refine lv_iadd hx hb dX9_spend_108 ?_
            refine mo_s5 X hP hD hS hm hfr hv_5 dX9_spend_109 (fun ws H locs hP hD hS hm hfr => ?_)
            refine lv_aload_n hx hb dX9_spend_110 rfl (lv_at hl 1 rfl) ?_
            refine lv_dup hx hb dX9_spend_111 rfl ?_
            refine mo_g3 X hP hm mw_452 dX9_spend_112 ?_
            refine lv_iload_n hx hb dX9_spend_115 rfl (lv_at hl 3 rfl) ?_
            refine lv_iadd hx hb dX9_spend_116 ?_
            refine mo_p3 X hP hD hS hm hfr mw_452 dX9_spend_117 (fun ws H locs hP hD hS hm hfr => ?_)
            refine lv_aload_n hx hb dX9_spend_120 rfl (lv_at hl 1 rfl) ?_
            refine lv_dup hx hb dX9_spend_121 rfl ?_
            refine mo_g4 X hP hm mw_453 dX9_spend_122 ?_
            refine lv_iload_n hx hb dX9_spend_125 rfl (lv_at hl 0 rfl) ?_
            refine lv_iadd hx hb dX9_spend_126 ?_
            refine mo_p4 X hP hD hS hm hfr mw_453 dX9_spend_127 (fun ws H locs hP hD hS hm hfr => ?_)
            refine lv_aload_n hx hb dX9_spend_130 rfl (lv_at hl 1 rfl) ?_
            refine lv_iload_n hx hb dX9_spend_131 rfl (lv_at hl 2 rfl) ?_
            refine g_priv (ci := 9) (cq := (RX9, TX9, 13)) (As := [.int v]) (rest := []) pw_X9_48 X (c_X9_hasPoints l D cI cZ cP 0 (by decide) hm hv_5 ) hP hD hS hA hm.1 rfl rfl ⟨by show _ ≤ d; omega, by show _ ≤ 30 * d; omega⟩ rfl hl.1 rfl (Nat.le_of_ble_eq_true rfl) dX9_spend_132 ⟨Nat.le_refl _, Nat.le_refl _⟩ (kI fun H locs hP hD hS => ?_)
            refine W.eq (g2 := F0 m 135 L [.int (mHas (mSet (mSet ar 2 (mI v) ((ar 2 (mI v)) - (g + (mFee ar (mI v) g)))) 5 (mI v) ((sc 0) + 1)) (mI v))]) rfl ?_
            refine lv_if_eq (tgt := 151) hx hb dX9_spend_135 (by decide) (fun c_135 => ?_) (fun c_135 => ?_)
            · -- c_135 True
              have c_135 : mHas ar (mI v) = 0 := c_135
              refine lv_aload_n hx hb dX9_spend_151 rfl (lv_at hl 1 rfl) ?_
              refine mo_r2 X hP hm mw_457 dX9_spend_152 ?_
              refine lv_iload_n hx hb dX9_spend_155 rfl (lv_at hl 2 rfl) ?_
              refine mo_a2 X hP hm hv_5 dX9_spend_156 ?_
              exact e_int X hP hD hS dX9_spend_157 (pM_of hm hfr (by first | (simp only [mSpend, if_neg c_5, if_neg c_17, if_neg ca, if_neg c_68, if_pos c_80, if_pos c_135]; done) | (simp only [mSpend, if_neg c_5, if_neg c_17, if_neg ca, if_neg c_68, if_pos c_80, if_pos c_135]; exact Prod.ext (by simp [mSet, va_up, upd]) rfl)))
            · -- c_135 False
              have c_135 : ¬ mHas ar (mI v) = 0 := c_135
              refine lv_aload_n hx hb dX9_spend_138 rfl (lv_at hl 1 rfl) ?_
              refine mo_r4 X hP hm mw_459 dX9_spend_139 ?_
              refine lv_iload_n hx hb dX9_spend_142 rfl (lv_at hl 2 rfl) ?_
              refine lv_dup2_11 hx hb dX9_spend_143 rfl rfl ?_
              refine mo_a4 X hP hm hv_5 dX9_spend_144 ?_
              refine lv_iload_n hx hb dX9_spend_145 rfl (lv_at hl 3 rfl) ?_
              refine lv_bipush (v := 100) hx hb dX9_spend_146 (by decide) ?_
              refine lv_idiv hx hb dX9_spend_148 (by decide) ?_
              refine lv_iadd hx hb dX9_spend_149 ?_
              refine mo_s4 X hP hD hS hm hfr hv_5 dX9_spend_150 (fun ws H locs hP hD hS hm hfr => ?_)
              refine lv_aload_n hx hb dX9_spend_151 rfl (lv_at hl 1 rfl) ?_
              refine mo_r2 X hP hm mw_457 dX9_spend_152 ?_
              refine lv_iload_n hx hb dX9_spend_155 rfl (lv_at hl 2 rfl) ?_
              refine mo_a2 X hP hm hv_5 dX9_spend_156 ?_
              exact e_int X hP hD hS dX9_spend_157 (pM_of hm hfr (by first | (simp only [mSpend, if_neg c_5, if_neg c_17, if_neg ca, if_neg c_68, if_pos c_80, if_neg c_135]; done) | (simp only [mSpend, if_neg c_5, if_neg c_17, if_neg ca, if_neg c_68, if_pos c_80, if_neg c_135]; exact Prod.ext (by simp [mSet, va_up, upd]) rfl)))
          · -- c_80 False
            refine lv_bipush (v := (-5)) hx hb dX9_spend_83 (by decide) ?_
            exact e_int X hP hD hS dX9_spend_85 (pM_of hm hfr (by first | (simp only [mSpend, if_neg c_5, if_neg c_17, if_neg ca, if_neg c_68, if_neg c_80]; done) | (simp only [mSpend, if_neg c_5, if_neg c_17, if_neg ca, if_neg c_68, if_neg c_80]; exact Prod.ext (by simp [mSet, va_up, upd]) rfl)))
      · -- c_30 False
        refine lv_aload_n hx hb dX9_spend_33 rfl (lv_at hl 0 rfl) ?_
        refine mo_r5 X hP hm mw_460 dX9_spend_34 ?_
        refine lv_iload_n hx hb dX9_spend_37 rfl (lv_at hl 1 rfl) ?_
        refine mo_a5 X hP hm hv_5 dX9_spend_38 ?_
        refine lv_aload_n hx hb dX9_spend_39 rfl (lv_at hl 0 rfl) ?_
        refine mo_g0 X hP hm mw_449 dX9_spend_40 ?_
        refine lv_iconst (v := 1) hx hb dX9_spend_43 (by decide) ?_
        refine lv_iadd hx hb dX9_spend_44 ?_
        refine lv_icmp_ne (tgt := 51) hx hb dX9_spend_45 (by decide) (fun c_45 => ?_) (fun c_45 => ?_)
        · -- c_45 True
          have ca : ¬ (ar 0 (mI v) = 3 ∧ ar 5 (mI v) = sc 0 + 1) := fun z => c_45 z.2
          refine lv_aload_n hx hb dX9_spend_51 rfl (lv_at hl 0 rfl) ?_
          refine lv_iload_n hx hb dX9_spend_52 rfl (lv_at hl 1 rfl) ?_
          refine lv_iload_n hx hb dX9_spend_53 rfl (lv_at hl 2 rfl) ?_
          refine g_priv (ci := 9) (cq := (RX9, TX9, 13)) (As := [.int v, .int g]) (rest := []) pw_X9_65 X (c_X9_feeOf l D cI cZ cP 0 (by decide) hm hv_5 g) hP hD hS hA hm.1 rfl rfl ⟨by show _ ≤ d; omega, by show _ ≤ 30 * d; omega⟩ rfl hl.1 rfl (Nat.le_of_ble_eq_true rfl) dX9_spend_54 ⟨Nat.le_refl _, Nat.le_refl _⟩ (kI fun H locs hP hD hS => ?_)
          refine W.eq (g2 := F0 m 57 L [.int (mFee ar (mI v) g)]) rfl ?_
          refine lv_istore_n (lv' := [(3, .int (mFee ar (mI v) g)), (0, .ref h), (1, .int v), (2, .int g)]) hx hb dX9_spend_57 rfl hl (by decide) rfl (fun L hl => ?_)
          refine lv_iload_n hx hb dX9_spend_58 rfl (lv_at hl 3 rfl) ?_
          refine lv_aload_n hx hb dX9_spend_59 rfl (lv_at hl 1 rfl) ?_
          refine lv_iload_n hx hb dX9_spend_60 rfl (lv_at hl 2 rfl) ?_
          refine lv_aload_n hx hb dX9_spend_61 rfl (lv_at hl 1 rfl) ?_
          refine mo_g0 X hP hm mw_449 dX9_spend_62 ?_
          refine g_priv (ci := 9) (cq := (RX9, TX9, 13)) (As := [.int v, .int (sc 0)]) (rest := [.int g]) pw_X9_61 X (c_X9_valueOf l D cI cZ cP 1 (by decide) hm hv_5 ((sc 0))) hP hD hS hA hm.1 rfl rfl ⟨by show _ ≤ d; omega, by show _ ≤ 30 * d; omega⟩ rfl hl.1 rfl (Nat.le_of_ble_eq_true rfl) dX9_spend_65 ⟨Nat.le_refl _, Nat.le_refl _⟩ (kI fun H locs hP hD hS => ?_)
          refine W.eq (g2 := F0 m 68 L [.int (mVal ar (mI v) (sc 0)), .int g]) rfl ?_
          refine lv_icmp_gt (tgt := 83) hx hb dX9_spend_68 (by decide) (fun c_68 => ?_) (fun c_68 => ?_)
          · -- c_68 True
            refine lv_bipush (v := (-5)) hx hb dX9_spend_83 (by decide) ?_
            exact e_int X hP hD hS dX9_spend_85 (pM_of hm hfr (by first | (simp only [mSpend, if_neg c_5, if_neg c_17, if_neg ca, if_pos c_68]; done) | (simp only [mSpend, if_neg c_5, if_neg c_17, if_neg ca, if_pos c_68]; exact Prod.ext (by simp [mSet, va_up, upd]) rfl)))
          · -- c_68 False
            refine lv_iload_n hx hb dX9_spend_71 rfl (lv_at hl 3 rfl) ?_
            refine lv_iload_n hx hb dX9_spend_72 rfl (lv_at hl 0 rfl) ?_
            refine lv_iadd hx hb dX9_spend_73 ?_
            refine lv_aload_n hx hb dX9_spend_74 rfl (lv_at hl 1 rfl) ?_
            refine mo_r2 X hP hm mw_457 dX9_spend_75 ?_
            refine lv_iload_n hx hb dX9_spend_78 rfl (lv_at hl 2 rfl) ?_
            refine mo_a2 X hP hm hv_5 dX9_spend_79 ?_
            refine lv_icmp_le (tgt := 86) hx hb dX9_spend_80 (by decide) (fun c_80 => ?_) (fun c_80 => ?_)
            · -- c_80 True
              refine lv_aload_n hx hb dX9_spend_86 rfl (lv_at hl 1 rfl) ?_
              refine mo_r2 X hP hm mw_457 dX9_spend_87 ?_
              refine lv_iload_n hx hb dX9_spend_90 rfl (lv_at hl 2 rfl) ?_
              refine lv_dup2_11 hx hb dX9_spend_91 rfl rfl ?_
              refine mo_a2 X hP hm hv_5 dX9_spend_92 ?_
              refine lv_iload_n hx hb dX9_spend_93 rfl (lv_at hl 3 rfl) ?_
              refine lv_iload_n hx hb dX9_spend_94 rfl (lv_at hl 0 rfl) ?_
              refine lv_iadd hx hb dX9_spend_95 ?_
              refine lv_isub hx hb dX9_spend_96 ?_
              refine mo_s2 X hP hD hS hm hfr hv_5 dX9_spend_97 (fun ws H locs hP hD hS hm hfr => ?_)
              refine lv_aload_n hx hb dX9_spend_98 rfl (lv_at hl 1 rfl) ?_
              refine mo_r5 X hP hm mw_460 dX9_spend_99 ?_
              refine lv_iload_n hx hb dX9_spend_102 rfl (lv_at hl 2 rfl) ?_
              refine lv_aload_n hx hb dX9_spend_103 rfl (lv_at hl 1 rfl) ?_
              refine mo_g0 X hP hm mw_449 dX9_spend_104 ?_
              refine lv_iconst (v := 1) hx hb dX9_spend_107 (by decide) ?_
              refine lv_iadd hx hb dX9_spend_108 ?_
              refine mo_s5 X hP hD hS hm hfr hv_5 dX9_spend_109 (fun ws H locs hP hD hS hm hfr => ?_)
              refine lv_aload_n hx hb dX9_spend_110 rfl (lv_at hl 1 rfl) ?_
              refine lv_dup hx hb dX9_spend_111 rfl ?_
              refine mo_g3 X hP hm mw_452 dX9_spend_112 ?_
              refine lv_iload_n hx hb dX9_spend_115 rfl (lv_at hl 3 rfl) ?_
              refine lv_iadd hx hb dX9_spend_116 ?_
              refine mo_p3 X hP hD hS hm hfr mw_452 dX9_spend_117 (fun ws H locs hP hD hS hm hfr => ?_)
              refine lv_aload_n hx hb dX9_spend_120 rfl (lv_at hl 1 rfl) ?_
              refine lv_dup hx hb dX9_spend_121 rfl ?_
              refine mo_g4 X hP hm mw_453 dX9_spend_122 ?_
              refine lv_iload_n hx hb dX9_spend_125 rfl (lv_at hl 0 rfl) ?_
              refine lv_iadd hx hb dX9_spend_126 ?_
              refine mo_p4 X hP hD hS hm hfr mw_453 dX9_spend_127 (fun ws H locs hP hD hS hm hfr => ?_)
              refine lv_aload_n hx hb dX9_spend_130 rfl (lv_at hl 1 rfl) ?_
              refine lv_iload_n hx hb dX9_spend_131 rfl (lv_at hl 2 rfl) ?_
              refine g_priv (ci := 9) (cq := (RX9, TX9, 13)) (As := [.int v]) (rest := []) pw_X9_48 X (c_X9_hasPoints l D cI cZ cP 0 (by decide) hm hv_5 ) hP hD hS hA hm.1 rfl rfl ⟨by show _ ≤ d; omega, by show _ ≤ 30 * d; omega⟩ rfl hl.1 rfl (Nat.le_of_ble_eq_true rfl) dX9_spend_132 ⟨Nat.le_refl _, Nat.le_refl _⟩ (kI fun H locs hP hD hS => ?_)
              refine W.eq (g2 := F0 m 135 L [.int (mHas (mSet (mSet ar 2 (mI v) ((ar 2 (mI v)) - (g + (mFee ar (mI v) g)))) 5 (mI v) ((sc 0) + 1)) (mI v))]) rfl ?_
              refine lv_if_eq (tgt := 151) hx hb dX9_spend_135 (by decide) (fun c_135 => ?_) (fun c_135 => ?_)
              · -- c_135 True
                have c_135 : mHas ar (mI v) = 0 := c_135
                refine lv_aload_n hx hb dX9_spend_151 rfl (lv_at hl 1 rfl) ?_
                refine mo_r2 X hP hm mw_457 dX9_spend_152 ?_
                refine lv_iload_n hx hb dX9_spend_155 rfl (lv_at hl 2 rfl) ?_
                refine mo_a2 X hP hm hv_5 dX9_spend_156 ?_
                exact e_int X hP hD hS dX9_spend_157 (pM_of hm hfr (by first | (simp only [mSpend, if_neg c_5, if_neg c_17, if_neg ca, if_neg c_68, if_pos c_80, if_pos c_135]; done) | (simp only [mSpend, if_neg c_5, if_neg c_17, if_neg ca, if_neg c_68, if_pos c_80, if_pos c_135]; exact Prod.ext (by simp [mSet, va_up, upd]) rfl)))
              · -- c_135 False
                have c_135 : ¬ mHas ar (mI v) = 0 := c_135
                refine lv_aload_n hx hb dX9_spend_138 rfl (lv_at hl 1 rfl) ?_
                refine mo_r4 X hP hm mw_459 dX9_spend_139 ?_
                refine lv_iload_n hx hb dX9_spend_142 rfl (lv_at hl 2 rfl) ?_
                refine lv_dup2_11 hx hb dX9_spend_143 rfl rfl ?_
                refine mo_a4 X hP hm hv_5 dX9_spend_144 ?_
                refine lv_iload_n hx hb dX9_spend_145 rfl (lv_at hl 3 rfl) ?_
                refine lv_bipush (v := 100) hx hb dX9_spend_146 (by decide) ?_
                refine lv_idiv hx hb dX9_spend_148 (by decide) ?_
                refine lv_iadd hx hb dX9_spend_149 ?_
                refine mo_s4 X hP hD hS hm hfr hv_5 dX9_spend_150 (fun ws H locs hP hD hS hm hfr => ?_)
                refine lv_aload_n hx hb dX9_spend_151 rfl (lv_at hl 1 rfl) ?_
                refine mo_r2 X hP hm mw_457 dX9_spend_152 ?_
                refine lv_iload_n hx hb dX9_spend_155 rfl (lv_at hl 2 rfl) ?_
                refine mo_a2 X hP hm hv_5 dX9_spend_156 ?_
                exact e_int X hP hD hS dX9_spend_157 (pM_of hm hfr (by first | (simp only [mSpend, if_neg c_5, if_neg c_17, if_neg ca, if_neg c_68, if_pos c_80, if_neg c_135]; done) | (simp only [mSpend, if_neg c_5, if_neg c_17, if_neg ca, if_neg c_68, if_pos c_80, if_neg c_135]; exact Prod.ext (by simp [mSet, va_up, upd]) rfl)))
            · -- c_80 False
              refine lv_bipush (v := (-5)) hx hb dX9_spend_83 (by decide) ?_
              exact e_int X hP hD hS dX9_spend_85 (pM_of hm hfr (by first | (simp only [mSpend, if_neg c_5, if_neg c_17, if_neg ca, if_neg c_68, if_neg c_80]; done) | (simp only [mSpend, if_neg c_5, if_neg c_17, if_neg ca, if_neg c_68, if_neg c_80]; exact Prod.ext (by simp [mSet, va_up, upd]) rfl)))
        · -- c_45 False
          have ca : ar 0 (mI v) = 3 ∧ ar 5 (mI v) = sc 0 + 1 := ⟨c_30, c_45⟩
          refine lv_bipush (v := (-6)) hx hb dX9_spend_48 (by decide) ?_
          exact e_int X hP hD hS dX9_spend_50 (pM_of hm hfr (by first | (simp only [mSpend, if_neg c_5, if_neg c_17, if_pos ca]; done) | (simp only [mSpend, if_neg c_5, if_neg c_17, if_pos ca]; exact Prod.ext (by simp [mSet, va_up, upd]) rfl)))
    · -- c_17 False
      refine lv_bipush (v := (-2)) hx hb dX9_spend_20 (by decide) ?_
      exact e_int X hP hD hS dX9_spend_22 (pM_of hm hfr (by first | (simp only [mSpend, if_neg c_5, if_pos c_17]; done) | (simp only [mSpend, if_neg c_5, if_pos c_17]; exact Prod.ext (by simp [mSet, va_up, upd]) rfl)))
  · -- c_5 False
    refine lv_iconst (v := (-1)) hx hb dX9_spend_8 (by decide) ?_
    exact e_int X hP hD hS dX9_spend_9 (pM_of hm hfr (by first | (simp only [mSpend, if_pos c_5]; done) | (simp only [mSpend, if_pos c_5]; exact Prod.ext (by simp [mSet, va_up, upd]) rfl)))
set_option maxHeartbeats 4000000 in
set_option maxRecDepth 100000 in
theorem c_X9_merge (l : Launch) (D : va_G) (cI cZ cP : ClassId) (d : Nat) (hd : 2 ≤ d) {ws : va_W} {h : Nat} {q ad : Nat → Nat} {sc : Nat → Int32} {ar : Nat → Nat → Int32} (hm : mo_at cI cZ ws h q ad sc ar) {n : Nat} (hn : sc 1 = nI n) (h40 : n ≤ 40) (v v2 : Int32) : Ct l D (vTy cI cZ cP) yX9_merge cX9_merge 3 (some .int) d 0 0 [.ref h, .int v, .int v2] ws (pM cI cZ h q ad (mMerge sc ar v v2) ws) := by
  refine ct_intro (by decide) (Nat.le_of_ble_eq_true rfl) ?_
  intro p e s m below meth c A L X hin hP hD hS hA hl
  have hl : lv_has L 3 [(0, .ref h), (1, .int v), (2, .int v2)] := hl
  obtain ⟨hx, hb, hr, hml, hown, hts, hK, hlk, hxK⟩ := id X
  have hfr := mo_fr_rf ws
  refine lv_aload_n hx hb dX9_merge_0 rfl (lv_at hl 0 rfl) ?_
  refine lv_iload_n hx hb dX9_merge_1 rfl (lv_at hl 1 rfl) ?_
  refine g_priv (ci := 9) (cq := (RX9, TX9, 13)) (As := [.int v]) (rest := []) pw_X9_58 X (c_X9_isThere l D cI cZ cP 1 (by decide) hm hn h40 v) hP hD hS hA hm.1 rfl rfl ⟨by show _ ≤ d; omega, by show _ ≤ 30 * d; omega⟩ rfl hl.1 rfl (Nat.le_of_ble_eq_true rfl) dX9_merge_2 ⟨Nat.le_refl _, Nat.le_refl _⟩ (kI fun H locs hP hD hS => ?_)
  refine W.eq (g2 := F0 m 5 L [.int (mThe sc ar v)]) rfl ?_
  refine lv_if_eq (tgt := 16) hx hb dX9_merge_5 (by decide) (fun c_5 => ?_) (fun c_5 => ?_)
  · -- c_5 True
    refine lv_iconst (v := (-1)) hx hb dX9_merge_16 (by decide) ?_
    exact e_int X hP hD hS dX9_merge_17 (pM_of hm hfr (by first | (simp only [mMerge, if_pos c_5]; done) | (simp only [mMerge, if_pos c_5]; exact Prod.ext (by simp [mSet, va_up, upd]) rfl)))
  · -- c_5 False
    have hv_5 := the_vp hn h40 c_5
    refine lv_aload_n hx hb dX9_merge_8 rfl (lv_at hl 0 rfl) ?_
    refine lv_iload_n hx hb dX9_merge_9 rfl (lv_at hl 2 rfl) ?_
    refine g_priv (ci := 9) (cq := (RX9, TX9, 13)) (As := [.int v2]) (rest := []) pw_X9_58 X (c_X9_isThere l D cI cZ cP 1 (by decide) hm hn h40 v2) hP hD hS hA hm.1 rfl rfl ⟨by show _ ≤ d; omega, by show _ ≤ 30 * d; omega⟩ rfl hl.1 rfl (Nat.le_of_ble_eq_true rfl) dX9_merge_10 ⟨Nat.le_refl _, Nat.le_refl _⟩ (kI fun H locs hP hD hS => ?_)
    refine W.eq (g2 := F0 m 13 L [.int (mThe sc ar v2)]) rfl ?_
    refine lv_if_ne (tgt := 18) hx hb dX9_merge_13 (by decide) (fun c_13 => ?_) (fun c_13 => ?_)
    · -- c_13 True
      have hv_13 := the_vp hn h40 c_13
      refine lv_iload_n hx hb dX9_merge_18 rfl (lv_at hl 1 rfl) ?_
      refine lv_iload_n hx hb dX9_merge_19 rfl (lv_at hl 2 rfl) ?_
      refine lv_icmp_ne (tgt := 26) hx hb dX9_merge_20 (by decide) (fun c_20 => ?_) (fun c_20 => ?_)
      · -- c_20 True
        refine lv_aload_n hx hb dX9_merge_26 rfl (lv_at hl 0 rfl) ?_
        refine mo_r0 X hP hm mw_455 dX9_merge_27 ?_
        refine lv_iload_n hx hb dX9_merge_30 rfl (lv_at hl 1 rfl) ?_
        refine mo_a0 X hP hm hv_5 dX9_merge_31 ?_
        refine lv_aload_n hx hb dX9_merge_32 rfl (lv_at hl 0 rfl) ?_
        refine mo_r0 X hP hm mw_455 dX9_merge_33 ?_
        refine lv_iload_n hx hb dX9_merge_36 rfl (lv_at hl 2 rfl) ?_
        refine mo_a0 X hP hm hv_13 dX9_merge_37 ?_
        refine lv_icmp_eq (tgt := 44) hx hb dX9_merge_38 (by decide) (fun c_38 => ?_) (fun c_38 => ?_)
        · -- c_38 True
          refine lv_aload_n hx hb dX9_merge_44 rfl (lv_at hl 0 rfl) ?_
          refine mo_r1 X hP hm mw_456 dX9_merge_45 ?_
          refine lv_iload_n hx hb dX9_merge_48 rfl (lv_at hl 1 rfl) ?_
          refine mo_a1 X hP hm hv_5 dX9_merge_49 ?_
          refine lv_aload_n hx hb dX9_merge_50 rfl (lv_at hl 0 rfl) ?_
          refine mo_r1 X hP hm mw_456 dX9_merge_51 ?_
          refine lv_iload_n hx hb dX9_merge_54 rfl (lv_at hl 2 rfl) ?_
          refine mo_a1 X hP hm hv_13 dX9_merge_55 ?_
          refine lv_iadd hx hb dX9_merge_56 ?_
          refine lv_ldc (v := 100000) hx hb hown (hts _ mw_498) dX9_merge_57 ?_
          refine lv_icmp_le (tgt := 65) hx hb dX9_merge_59 (by decide) (fun c_59 => ?_) (fun c_59 => ?_)
          · -- c_59 True
            refine lv_aload_n hx hb dX9_merge_65 rfl (lv_at hl 0 rfl) ?_
            refine mo_r1 X hP hm mw_456 dX9_merge_66 ?_
            refine lv_iload_n hx hb dX9_merge_69 rfl (lv_at hl 1 rfl) ?_
            refine lv_dup2_11 hx hb dX9_merge_70 rfl rfl ?_
            refine mo_a1 X hP hm hv_5 dX9_merge_71 ?_
            refine lv_aload_n hx hb dX9_merge_72 rfl (lv_at hl 0 rfl) ?_
            refine mo_r1 X hP hm mw_456 dX9_merge_73 ?_
            refine lv_iload_n hx hb dX9_merge_76 rfl (lv_at hl 2 rfl) ?_
            refine mo_a1 X hP hm hv_13 dX9_merge_77 ?_
            refine lv_iadd hx hb dX9_merge_78 ?_
            refine mo_s1 X hP hD hS hm hfr hv_5 dX9_merge_79 (fun ws H locs hP hD hS hm hfr => ?_)
            refine lv_aload_n hx hb dX9_merge_80 rfl (lv_at hl 0 rfl) ?_
            refine mo_r2 X hP hm mw_457 dX9_merge_81 ?_
            refine lv_iload_n hx hb dX9_merge_84 rfl (lv_at hl 1 rfl) ?_
            refine lv_dup2_11 hx hb dX9_merge_85 rfl rfl ?_
            refine mo_a2 X hP hm hv_5 dX9_merge_86 ?_
            refine lv_aload_n hx hb dX9_merge_87 rfl (lv_at hl 0 rfl) ?_
            refine mo_r2 X hP hm mw_457 dX9_merge_88 ?_
            refine lv_iload_n hx hb dX9_merge_91 rfl (lv_at hl 2 rfl) ?_
            refine mo_a2 X hP hm hv_13 dX9_merge_92 ?_
            refine lv_iadd hx hb dX9_merge_93 ?_
            refine mo_s2 X hP hD hS hm hfr hv_5 dX9_merge_94 (fun ws H locs hP hD hS hm hfr => ?_)
            refine lv_aload_n hx hb dX9_merge_95 rfl (lv_at hl 0 rfl) ?_
            refine mo_r4 X hP hm mw_459 dX9_merge_96 ?_
            refine lv_iload_n hx hb dX9_merge_99 rfl (lv_at hl 1 rfl) ?_
            refine lv_dup2_11 hx hb dX9_merge_100 rfl rfl ?_
            refine mo_a4 X hP hm hv_5 dX9_merge_101 ?_
            refine lv_aload_n hx hb dX9_merge_102 rfl (lv_at hl 0 rfl) ?_
            refine mo_r4 X hP hm mw_459 dX9_merge_103 ?_
            refine lv_iload_n hx hb dX9_merge_106 rfl (lv_at hl 2 rfl) ?_
            refine mo_a4 X hP hm hv_13 dX9_merge_107 ?_
            refine lv_iadd hx hb dX9_merge_108 ?_
            refine mo_s4 X hP hD hS hm hfr hv_5 dX9_merge_109 (fun ws H locs hP hD hS hm hfr => ?_)
            refine lv_aload_n hx hb dX9_merge_110 rfl (lv_at hl 0 rfl) ?_
            refine mo_r5 X hP hm mw_460 dX9_merge_111 ?_
            refine lv_iload_n hx hb dX9_merge_114 rfl (lv_at hl 1 rfl) ?_
            refine lv_aload_n hx hb dX9_merge_115 rfl (lv_at hl 0 rfl) ?_
            refine mo_r5 X hP hm mw_460 dX9_merge_116 ?_
            refine lv_iload_n hx hb dX9_merge_119 rfl (lv_at hl 2 rfl) ?_
            refine mo_a5 X hP hm hv_13 dX9_merge_120 ?_
            refine lv_aload_n hx hb dX9_merge_121 rfl (lv_at hl 0 rfl) ?_
            refine mo_r5 X hP hm mw_460 dX9_merge_122 ?_
            refine lv_iload_n hx hb dX9_merge_125 rfl (lv_at hl 1 rfl) ?_
            refine mo_a5 X hP hm hv_5 dX9_merge_126 ?_
            refine lv_icmp_le (tgt := 139) hx hb dX9_merge_127 (by decide) (fun c_127 => ?_) (fun c_127 => ?_)
            · -- c_127 True
              have c_127 : ar 5 (mI v2) ≤ ar 5 (mI v) := c_127
              refine lv_aload_n hx hb dX9_merge_139 rfl (lv_at hl 0 rfl) ?_
              refine mo_r5 X hP hm mw_460 dX9_merge_140 ?_
              refine lv_iload_n hx hb dX9_merge_143 rfl (lv_at hl 1 rfl) ?_
              refine mo_a5 X hP hm hv_5 dX9_merge_144 ?_
              refine mo_s5 X hP hD hS hm hfr hv_5 dX9_merge_145 (fun ws H locs hP hD hS hm hfr => ?_)
              refine lv_aload_n hx hb dX9_merge_146 rfl (lv_at hl 0 rfl) ?_
              refine mo_r6 X hP hm mw_461 dX9_merge_147 ?_
              refine lv_iload_n hx hb dX9_merge_150 rfl (lv_at hl 2 rfl) ?_
              refine lv_iconst (v := 1) hx hb dX9_merge_151 (by decide) ?_
              refine mo_s6 X hP hD hS hm hfr hv_13 dX9_merge_152 (fun ws H locs hP hD hS hm hfr => ?_)
              refine lv_aload_n hx hb dX9_merge_153 rfl (lv_at hl 0 rfl) ?_
              refine mo_r1 X hP hm mw_456 dX9_merge_154 ?_
              refine lv_iload_n hx hb dX9_merge_157 rfl (lv_at hl 1 rfl) ?_
              refine mo_a1 X hP hm hv_5 dX9_merge_158 ?_
              exact e_int X hP hD hS dX9_merge_159 (pM_of hm hfr (by first | (simp only [mMerge, if_neg c_5, if_neg c_13, if_neg c_20, if_pos c_38, if_pos c_59, if_pos c_127]; done) | (simp only [mMerge, if_neg c_5, if_neg c_13, if_neg c_20, if_pos c_38, if_pos c_59, if_pos c_127]; exact Prod.ext (by simp [mSet, va_up, upd]) rfl)))
            · -- c_127 False
              have c_127 : ¬ ar 5 (mI v2) ≤ ar 5 (mI v) := c_127
              refine lv_aload_n hx hb dX9_merge_130 rfl (lv_at hl 0 rfl) ?_
              refine mo_r5 X hP hm mw_460 dX9_merge_131 ?_
              refine lv_iload_n hx hb dX9_merge_134 rfl (lv_at hl 2 rfl) ?_
              refine mo_a5 X hP hm hv_13 dX9_merge_135 ?_
              refine lv_goto (tgt := 145) hx hb dX9_merge_136 (by decide) ?_
              refine mo_s5 X hP hD hS hm hfr hv_5 dX9_merge_145 (fun ws H locs hP hD hS hm hfr => ?_)
              refine lv_aload_n hx hb dX9_merge_146 rfl (lv_at hl 0 rfl) ?_
              refine mo_r6 X hP hm mw_461 dX9_merge_147 ?_
              refine lv_iload_n hx hb dX9_merge_150 rfl (lv_at hl 2 rfl) ?_
              refine lv_iconst (v := 1) hx hb dX9_merge_151 (by decide) ?_
              refine mo_s6 X hP hD hS hm hfr hv_13 dX9_merge_152 (fun ws H locs hP hD hS hm hfr => ?_)
              refine lv_aload_n hx hb dX9_merge_153 rfl (lv_at hl 0 rfl) ?_
              refine mo_r1 X hP hm mw_456 dX9_merge_154 ?_
              refine lv_iload_n hx hb dX9_merge_157 rfl (lv_at hl 1 rfl) ?_
              refine mo_a1 X hP hm hv_5 dX9_merge_158 ?_
              exact e_int X hP hD hS dX9_merge_159 (pM_of hm hfr (by first | (simp only [mMerge, if_neg c_5, if_neg c_13, if_neg c_20, if_pos c_38, if_pos c_59, if_neg c_127]; done) | (simp only [mMerge, if_neg c_5, if_neg c_13, if_neg c_20, if_pos c_38, if_pos c_59, if_neg c_127]; exact Prod.ext (by simp [mSet, va_up, upd]) rfl)))
          · -- c_59 False
            refine lv_bipush (v := (-4)) hx hb dX9_merge_62 (by decide) ?_
            exact e_int X hP hD hS dX9_merge_64 (pM_of hm hfr (by first | (simp only [mMerge, if_neg c_5, if_neg c_13, if_neg c_20, if_pos c_38, if_neg c_59]; done) | (simp only [mMerge, if_neg c_5, if_neg c_13, if_neg c_20, if_pos c_38, if_neg c_59]; exact Prod.ext (by simp [mSet, va_up, upd]) rfl)))
        · -- c_38 False
          refine lv_bipush (v := (-3)) hx hb dX9_merge_41 (by decide) ?_
          exact e_int X hP hD hS dX9_merge_43 (pM_of hm hfr (by first | (simp only [mMerge, if_neg c_5, if_neg c_13, if_neg c_20, if_neg c_38]; done) | (simp only [mMerge, if_neg c_5, if_neg c_13, if_neg c_20, if_neg c_38]; exact Prod.ext (by simp [mSet, va_up, upd]) rfl)))
      · -- c_20 False
        refine lv_bipush (v := (-2)) hx hb dX9_merge_23 (by decide) ?_
        exact e_int X hP hD hS dX9_merge_25 (pM_of hm hfr (by first | (simp only [mMerge, if_neg c_5, if_neg c_13, if_pos c_20]; done) | (simp only [mMerge, if_neg c_5, if_neg c_13, if_pos c_20]; exact Prod.ext (by simp [mSet, va_up, upd]) rfl)))
    · -- c_13 False
      refine lv_iconst (v := (-1)) hx hb dX9_merge_16 (by decide) ?_
      exact e_int X hP hD hS dX9_merge_17 (pM_of hm hfr (by first | (simp only [mMerge, if_neg c_5, if_pos c_13]; done) | (simp only [mMerge, if_neg c_5, if_pos c_13]; exact Prod.ext (by simp [mSet, va_up, upd]) rfl)))
set_option maxHeartbeats 4000000 in
set_option maxRecDepth 100000 in
theorem c_X9_paper (l : Launch) (D : va_G) (cI cZ cP : ClassId) (d : Nat) (hd : 2 ≤ d) {ws : va_W} {h : Nat} {q ad : Nat → Nat} {sc : Nat → Int32} {ar : Nat → Nat → Int32} (hm : mo_at cI cZ ws h q ad sc ar) {n : Nat} (hn : sc 1 = nI n) (h40 : n ≤ 40) (v w : Int32) : Ct l D (vTy cI cZ cP) yX9_paper cX9_paper 3 (some .int) d 0 0 [.ref h, .int v, .int w] ws (pI ws (mPaper sc ar v w)) := by
  refine ct_intro (by decide) (Nat.le_of_ble_eq_true rfl) ?_
  intro p e s m below meth c A L X hin hP hD hS hA hl
  have hl : lv_has L 3 [(0, .ref h), (1, .int v), (2, .int w)] := hl
  obtain ⟨hx, hb, hr, hml, hown, hts, hK, hlk, hxK⟩ := id X
  have hfr := mo_fr_rf ws
  refine lv_aload_n hx hb dX9_paper_0 rfl (lv_at hl 0 rfl) ?_
  refine lv_iload_n hx hb dX9_paper_1 rfl (lv_at hl 1 rfl) ?_
  refine g_priv (ci := 9) (cq := (RX9, TX9, 13)) (As := [.int v]) (rest := []) pw_X9_58 X (c_X9_isThere l D cI cZ cP 1 (by decide) hm hn h40 v) hP hD hS hA hm.1 rfl rfl ⟨by show _ ≤ d; omega, by show _ ≤ 30 * d; omega⟩ rfl hl.1 rfl (Nat.le_of_ble_eq_true rfl) dX9_paper_2 ⟨Nat.le_refl _, Nat.le_refl _⟩ (kI fun H locs hP hD hS => ?_)
  refine W.eq (g2 := F0 m 5 L [.int (mThe sc ar v)]) rfl ?_
  refine lv_if_ne (tgt := 10) hx hb dX9_paper_5 (by decide) (fun c_5 => ?_) (fun c_5 => ?_)
  · -- c_5 True
    have hv_5 := the_vp hn h40 c_5
    refine lv_iload_n hx hb dX9_paper_10 rfl (lv_at hl 2 rfl) ?_
    refine lv_iconst (v := 0) hx hb dX9_paper_11 (by decide) ?_
    refine lv_iconst (v := 5) hx hb dX9_paper_12 (by decide) ?_
    refine g_static (As := [.int w, .int 0, .int 5]) (rest := []) sw_X9_36 X (c_X9_within l D (vTy cI cZ cP) 0 (by decide) ws w 0 5) hP hD hS hA ⟨by show _ ≤ d; omega, by show _ ≤ 30 * d; omega⟩ rfl hl.1 rfl (Nat.le_of_ble_eq_true rfl) dX9_paper_13 ⟨Nat.le_refl _, Nat.le_refl _⟩ (kI fun H locs hP hD hS => ?_)
    refine W.eq (g2 := F0 m 16 L [.int (mWin w 0 5)]) rfl ?_
    refine lv_if_ne (tgt := 22) hx hb dX9_paper_16 (by decide) (fun c_16 => ?_) (fun c_16 => ?_)
    · -- c_16 True
      refine lv_iload_n hx hb dX9_paper_22 rfl (lv_at hl 2 rfl) ?_
      by_cases s_23 : w.toInt < 0 ∨ 4 < w.toInt
      · refine lv_tableOut (tgt := 91) hx hb dX9_paper_23 s_23 (by decide) ?_
        refine lv_aload_n hx hb dX9_paper_91 rfl (lv_at hl 0 rfl) ?_
        refine lv_iload_n hx hb dX9_paper_92 rfl (lv_at hl 1 rfl) ?_
        refine g_priv (ci := 9) (cq := (RX9, TX9, 13)) (As := [.int v]) (rest := []) pw_X9_40 X (c_X9_isDated l D cI cZ cP 0 (by decide) hm hv_5 ) hP hD hS hA hm.1 rfl rfl ⟨by show _ ≤ d; omega, by show _ ≤ 30 * d; omega⟩ rfl hl.1 rfl (Nat.le_of_ble_eq_true rfl) dX9_paper_93 ⟨Nat.le_refl _, Nat.le_refl _⟩ (kI fun H locs hP hD hS => ?_)
        refine W.eq (g2 := F0 m 96 L [.int (mDat ar (mI v))]) rfl ?_
        refine lv_if_eq (tgt := 107) hx hb dX9_paper_96 (by decide) (fun c_96 => ?_) (fun c_96 => ?_)
        · -- c_96 True
          refine lv_bipush (v := (-3)) hx hb dX9_paper_107 (by decide) ?_
          exact e_int X hP hD hS dX9_paper_109 ⟨by first | rfl | (simp only [mPaper, if_neg c_5, if_neg c_16, if_pos c_96, if_neg (sw_out (y := 0) s_23 (by decide)), if_neg (sw_out (y := 1) s_23 (by decide)), if_neg (sw_out (y := 2) s_23 (by decide)), if_neg (sw_out (y := 3) s_23 (by decide)), if_neg (sw_out (y := 4) s_23 (by decide))]; done) | (simp only [mPaper, if_neg c_5, if_neg c_16, if_pos c_96, if_neg (sw_out (y := 0) s_23 (by decide)), if_neg (sw_out (y := 1) s_23 (by decide)), if_neg (sw_out (y := 2) s_23 (by decide)), if_neg (sw_out (y := 3) s_23 (by decide)), if_neg (sw_out (y := 4) s_23 (by decide))]; rfl), rfl⟩
        · -- c_96 False
          refine lv_aload_n hx hb dX9_paper_99 rfl (lv_at hl 0 rfl) ?_
          refine lv_iload_n hx hb dX9_paper_100 rfl (lv_at hl 1 rfl) ?_
          refine g_priv (ci := 9) (cq := (RX9, TX9, 13)) (As := [.int v]) (rest := []) pw_X9_44 X (c_X9_lastDay l D cI cZ cP 0 (by decide) hm hv_5 ) hP hD hS hA hm.1 rfl rfl ⟨by show _ ≤ d; omega, by show _ ≤ 30 * d; omega⟩ rfl hl.1 rfl (Nat.le_of_ble_eq_true rfl) dX9_paper_101 ⟨Nat.le_refl _, Nat.le_refl _⟩ (kI fun H locs hP hD hS => ?_)
          refine W.eq (g2 := F0 m 104 L [.int (mLast ar (mI v))]) rfl ?_
          refine lv_goto (tgt := 109) hx hb dX9_paper_104 (by decide) ?_
          exact e_int X hP hD hS dX9_paper_109 ⟨by first | rfl | (simp only [mPaper, if_neg c_5, if_neg c_16, if_neg c_96, if_neg (sw_out (y := 0) s_23 (by decide)), if_neg (sw_out (y := 1) s_23 (by decide)), if_neg (sw_out (y := 2) s_23 (by decide)), if_neg (sw_out (y := 3) s_23 (by decide)), if_neg (sw_out (y := 4) s_23 (by decide))]; done) | (simp only [mPaper, if_neg c_5, if_neg c_16, if_neg c_96, if_neg (sw_out (y := 0) s_23 (by decide)), if_neg (sw_out (y := 1) s_23 (by decide)), if_neg (sw_out (y := 2) s_23 (by decide)), if_neg (sw_out (y := 3) s_23 (by decide)), if_neg (sw_out (y := 4) s_23 (by decide))]; rfl), rfl⟩
      · have e_23 : w = 0 ∨ w = 1 ∨ w = 2 ∨ w = 3 ∨ w = 4 := sw_5 s_23
        rcases e_23 with f_0 | f_1 | f_2 | f_3 | f_4
        · refine lv_tableIn (tgt := 56) (off := 33) hx hb dX9_paper_23 (by rw [f_0]; decide) (by rw [f_0]; decide) (by rw [f_0]; rfl) (by decide) ?_
          refine lv_aload_n hx hb dX9_paper_56 rfl (lv_at hl 0 rfl) ?_
          refine mo_r0 X hP hm mw_455 dX9_paper_57 ?_
          refine lv_iload_n hx hb dX9_paper_60 rfl (lv_at hl 1 rfl) ?_
          refine mo_a0 X hP hm hv_5 dX9_paper_61 ?_
          exact e_int X hP hD hS dX9_paper_62 ⟨by subst f_0; first | (simp only [mPaper, if_neg c_5, if_neg c_16]; done) | (simp only [mPaper, if_neg c_5, if_neg c_16]; rfl) | (simp [mPaper, if_neg c_5, if_neg c_16]; done), rfl⟩
        · refine lv_tableIn (tgt := 63) (off := 40) hx hb dX9_paper_23 (by rw [f_1]; decide) (by rw [f_1]; decide) (by rw [f_1]; rfl) (by decide) ?_
          refine lv_aload_n hx hb dX9_paper_63 rfl (lv_at hl 0 rfl) ?_
          refine mo_r1 X hP hm mw_456 dX9_paper_64 ?_
          refine lv_iload_n hx hb dX9_paper_67 rfl (lv_at hl 1 rfl) ?_
          refine mo_a1 X hP hm hv_5 dX9_paper_68 ?_
          exact e_int X hP hD hS dX9_paper_69 ⟨by subst f_1; first | (simp only [mPaper, if_neg c_5, if_neg c_16]; done) | (simp only [mPaper, if_neg c_5, if_neg c_16]; rfl) | (simp [mPaper, if_neg c_5, if_neg c_16]; done), rfl⟩
        · refine lv_tableIn (tgt := 70) (off := 47) hx hb dX9_paper_23 (by rw [f_2]; decide) (by rw [f_2]; decide) (by rw [f_2]; rfl) (by decide) ?_
          refine lv_aload_n hx hb dX9_paper_70 rfl (lv_at hl 0 rfl) ?_
          refine mo_r2 X hP hm mw_457 dX9_paper_71 ?_
          refine lv_iload_n hx hb dX9_paper_74 rfl (lv_at hl 1 rfl) ?_
          refine mo_a2 X hP hm hv_5 dX9_paper_75 ?_
          exact e_int X hP hD hS dX9_paper_76 ⟨by subst f_2; first | (simp only [mPaper, if_neg c_5, if_neg c_16]; done) | (simp only [mPaper, if_neg c_5, if_neg c_16]; rfl) | (simp [mPaper, if_neg c_5, if_neg c_16]; done), rfl⟩
        · refine lv_tableIn (tgt := 77) (off := 54) hx hb dX9_paper_23 (by rw [f_3]; decide) (by rw [f_3]; decide) (by rw [f_3]; rfl) (by decide) ?_
          refine lv_aload_n hx hb dX9_paper_77 rfl (lv_at hl 0 rfl) ?_
          refine mo_r3 X hP hm mw_458 dX9_paper_78 ?_
          refine lv_iload_n hx hb dX9_paper_81 rfl (lv_at hl 1 rfl) ?_
          refine mo_a3 X hP hm hv_5 dX9_paper_82 ?_
          exact e_int X hP hD hS dX9_paper_83 ⟨by subst f_3; first | (simp only [mPaper, if_neg c_5, if_neg c_16]; done) | (simp only [mPaper, if_neg c_5, if_neg c_16]; rfl) | (simp [mPaper, if_neg c_5, if_neg c_16]; done), rfl⟩
        · refine lv_tableIn (tgt := 84) (off := 61) hx hb dX9_paper_23 (by rw [f_4]; decide) (by rw [f_4]; decide) (by rw [f_4]; rfl) (by decide) ?_
          refine lv_aload_n hx hb dX9_paper_84 rfl (lv_at hl 0 rfl) ?_
          refine mo_r4 X hP hm mw_459 dX9_paper_85 ?_
          refine lv_iload_n hx hb dX9_paper_88 rfl (lv_at hl 1 rfl) ?_
          refine mo_a4 X hP hm hv_5 dX9_paper_89 ?_
          exact e_int X hP hD hS dX9_paper_90 ⟨by subst f_4; first | (simp only [mPaper, if_neg c_5, if_neg c_16]; done) | (simp only [mPaper, if_neg c_5, if_neg c_16]; rfl) | (simp [mPaper, if_neg c_5, if_neg c_16]; done), rfl⟩
    · -- c_16 False
      refine lv_bipush (v := (-2)) hx hb dX9_paper_19 (by decide) ?_
      exact e_int X hP hD hS dX9_paper_21 ⟨by first | rfl | (simp only [mPaper, if_neg c_5, if_pos c_16]; done) | (simp only [mPaper, if_neg c_5, if_pos c_16]; rfl), rfl⟩
  · -- c_5 False
    refine lv_iconst (v := (-1)) hx hb dX9_paper_8 (by decide) ?_
    exact e_int X hP hD hS dX9_paper_9 ⟨by first | rfl | (simp only [mPaper, if_pos c_5]; done) | (simp only [mPaper, if_pos c_5]; rfl), rfl⟩
end
section
set_option maxHeartbeats 4000000 in
set_option maxRecDepth 100000 in
theorem lp_X9_total {p : Program} {l : Launch} {e : Env} {s : State} {m : MethodId} {args : Array Value} {below : List Frame} {meth : Method} {c : Code} {Q : State → Prop} {A : Nat → Prop} {D : va_G} {cI cZ cP : ClassId} {h : Nat} {q ad : Nat → Nat} {sc : Nat → Int32} {ar : Nat → Nat → Int32} {d : Nat} {ws : va_W} (hd : 2 ≤ d) (X : Cx p m c meth s args "VoucherOfficeModel" cX9_total 4 (some .int) D (vTy cI cZ cP)) (hA : ∀ q, s.heap.size ≤ q → A q) (hm : mo_at cI cZ ws h q ad sc ar) {n : Nat} (hn : sc 1 = nI n) (h40 : n ≤ 40) {t : Int32} (kend : ∀ (H : Heap) (locs : List Loc) (L : Array Slot), va_P D vwCl ws H → va_D A ws → va_S A s.heap H locs → lv_has L 4 [(3, .int (nI n)), (2, .int (mSum ar (fun i => mVal ar i t) n)), (0, .ref h), (1, .int t)] → W p l e (rm_d d 0 0) s m args below meth c H locs 0 0 Q (F0 m 54 L [])) : ∀ (j i : Nat), i + j = n → ∀ (H : Heap) (locs : List Loc) (L : Array Slot), va_P D vwCl ws H → va_D A ws → va_S A s.heap H locs → lv_has L 4 [(3, .int (nI i)), (2, .int (mSum ar (fun i => mVal ar i t) i)), (0, .ref h), (1, .int t)] → W p l e (rm_d d 0 0) s m args below meth c H locs 0 0 Q (F0 m 18 L []) := by
  obtain ⟨hx, hb, hr, hml, hown, hts, hK, hlk, hxK⟩ := id X
  intro j
  induction j with
  | zero =>
    intro i hij H locs L hP hD hS hl
    have hi : i = n := by omega
    subst hi
    refine lv_iload_n hx hb dX9_total_18 rfl (lv_at hl 0 rfl) ?_
    refine lv_aload_n hx hb dX9_total_19 rfl (lv_at hl 2 rfl) ?_
    refine mo_g1 X hP hm mw_450 dX9_total_20 ?_
    refine lv_icmp_ge (tgt := 54) hx hb dX9_total_23 (by decide) (fun c_9 => ?_) (fun c_9 => ?_)
    · exact kend H locs L hP hD hS (lv_sub hl [0, 1, 2, 3] rfl)
    · exact absurd (by rw [hn]; exact nI_le (Nat.le_refl _) (by omega)) c_9
  | succ j ih =>
    intro i hij H locs L hP hD hS hl
    have hi : i < n := by omega
    have hv : vp_in (nI i) 40 := vp_in_nI (by omega) (by decide)
    have hmi : (nI i).toNatClampNeg = i := nI_clamp (by omega)
    refine lv_iload_n hx hb dX9_total_18 rfl (lv_at hl 0 rfl) ?_
    refine lv_aload_n hx hb dX9_total_19 rfl (lv_at hl 2 rfl) ?_
    refine mo_g1 X hP hm mw_450 dX9_total_20 ?_
    refine lv_icmp_ge (tgt := 54) hx hb dX9_total_23 (by decide) (fun c_9 => ?_) (fun c_9 => ?_)
    · exact absurd (by rw [hn] at c_9; exact c_9) (nI_ge hi (by omega))
    · skip
      refine lv_iload_n hx hb dX9_total_26 rfl (lv_at hl 1 rfl) ?_
      refine lv_aload_n hx hb dX9_total_27 rfl (lv_at hl 2 rfl) ?_
      refine mo_r6 X hP hm mw_461 dX9_total_28 ?_
      refine lv_iload_n hx hb dX9_total_31 rfl (lv_at hl 0 rfl) ?_
      refine mo_a6 X hP hm hv dX9_total_32 ?_
      refine lv_if_eq (tgt := 40) hx hb dX9_total_33 (by decide) (fun c_33 => ?_) (fun c_33 => ?_)
      · -- c_33 True
        refine lv_aload_n hx hb dX9_total_40 rfl (lv_at hl 2 rfl) ?_
        refine lv_iload_n hx hb dX9_total_41 rfl (lv_at hl 0 rfl) ?_
        refine lv_iload_n hx hb dX9_total_42 rfl (lv_at hl 3 rfl) ?_
        refine g_priv (ci := 9) (cq := (RX9, TX9, 13)) (As := [.int (nI i), .int t]) (rest := [.int (mSum ar (fun i => mVal ar i t) i)]) pw_X9_61 X (c_X9_valueOf l D cI cZ cP 1 (by decide) hm hv t) hP hD hS hA hm.1 rfl rfl ⟨by show _ ≤ d; omega, by show _ ≤ 30 * d; omega⟩ rfl hl.1 rfl (Nat.le_of_ble_eq_true rfl) dX9_total_43 ⟨Nat.le_refl _, Nat.le_refl _⟩ (kI fun H locs hP hD hS => ?_)
        refine W.eq (g2 := F0 m 46 L [.int (mVal ar (mI (nI i)) t), .int (mSum ar (fun i => mVal ar i t) i)]) rfl ?_
        refine lv_iadd hx hb dX9_total_46 ?_
        refine lv_istore_n (lv' := [(2, .int ((mSum ar (fun i => mVal ar i t) i) + (mVal ar (mI (nI i)) t))), (3, .int (nI i)), (0, .ref h), (1, .int t)]) hx hb dX9_total_47 rfl hl (by decide) rfl (fun L hl => ?_)
        refine lv_iinc (v := ((nI i) + 1)) (lv' := [(3, .int ((nI i) + 1)), (2, .int ((mSum ar (fun i => mVal ar i t) i) + (mVal ar (mI (nI i)) t))), (0, .ref h), (1, .int t)]) hx hb dX9_total_48 hl (k := 1) rfl rfl (by decide) rfl (fun L hl => ?_)
        refine lv_goto (tgt := 18) hx hb dX9_total_51 (by decide) ?_
        have e1 : ((nI i) + 1) = nI (i + 1) := nI_1 i
        have e2 : ((mSum ar (fun i => mVal ar i t) i) + (mVal ar (mI (nI i)) t)) = mSum ar (fun i => mVal ar i t) (i + 1) := by rw [hmi] at c_33; simp only [mSum, if_pos c_33, mI, hmi]
        have hl := lv_sub hl [0, 1, 2, 3] rfl
        have hl : lv_has L 4 [(3, .int ((nI i) + 1)), (2, .int ((mSum ar (fun i => mVal ar i t) i) + (mVal ar (mI (nI i)) t))), (0, .ref h), (1, .int t)] := hl
        rw [e1, e2] at hl
        exact ih (i + 1) (by omega) H locs L hP hD hS hl
      · -- c_33 False
        refine lv_iconst (v := 0) hx hb dX9_total_36 (by decide) ?_
        refine lv_goto (tgt := 46) hx hb dX9_total_37 (by decide) ?_
        refine lv_iadd hx hb dX9_total_46 ?_
        refine lv_istore_n (lv' := [(2, .int ((mSum ar (fun i => mVal ar i t) i) + 0)), (3, .int (nI i)), (0, .ref h), (1, .int t)]) hx hb dX9_total_47 rfl hl (by decide) rfl (fun L hl => ?_)
        refine lv_iinc (v := ((nI i) + 1)) (lv' := [(3, .int ((nI i) + 1)), (2, .int ((mSum ar (fun i => mVal ar i t) i) + 0)), (0, .ref h), (1, .int t)]) hx hb dX9_total_48 hl (k := 1) rfl rfl (by decide) rfl (fun L hl => ?_)
        refine lv_goto (tgt := 18) hx hb dX9_total_51 (by decide) ?_
        have e1 : ((nI i) + 1) = nI (i + 1) := nI_1 i
        have e2 : ((mSum ar (fun i => mVal ar i t) i) + 0) = mSum ar (fun i => mVal ar i t) (i + 1) := by rw [hmi] at c_33; simp only [mSum, if_neg c_33, mI, hmi]
        have hl := lv_sub hl [0, 1, 2, 3] rfl
        have hl : lv_has L 4 [(3, .int ((nI i) + 1)), (2, .int ((mSum ar (fun i => mVal ar i t) i) + 0)), (0, .ref h), (1, .int t)] := hl
        rw [e1, e2] at hl
        exact ih (i + 1) (by omega) H locs L hP hD hS hl
set_option maxHeartbeats 4000000 in
set_option maxRecDepth 100000 in
theorem lp_X9_leftOfAll {p : Program} {l : Launch} {e : Env} {s : State} {m : MethodId} {args : Array Value} {below : List Frame} {meth : Method} {c : Code} {Q : State → Prop} {A : Nat → Prop} {D : va_G} {cI cZ cP : ClassId} {h : Nat} {q ad : Nat → Nat} {sc : Nat → Int32} {ar : Nat → Nat → Int32} {d : Nat} {ws : va_W} (hd : 0 ≤ d) (X : Cx p m c meth s args "VoucherOfficeModel" cX9_leftOfAll 3 (some .int) D (vTy cI cZ cP)) (hA : ∀ q, s.heap.size ≤ q → A q) (hm : mo_at cI cZ ws h q ad sc ar) {n : Nat} (hn : sc 1 = nI n) (h40 : n ≤ 40) (kend : ∀ (H : Heap) (locs : List Loc) (L : Array Slot), va_P D vwCl ws H → va_D A ws → va_S A s.heap H locs → lv_has L 3 [(2, .int (nI n)), (1, .int (mSum ar (fun i => ar 2 i) n)), (0, .ref h)] → W p l e (rm_d d 0 0) s m args below meth c H locs 0 0 Q (F0 m 40 L [])) : ∀ (j i : Nat), i + j = n → ∀ (H : Heap) (locs : List Loc) (L : Array Slot), va_P D vwCl ws H → va_D A ws → va_S A s.heap H locs → lv_has L 3 [(2, .int (nI i)), (1, .int (mSum ar (fun i => ar 2 i) i)), (0, .ref h)] → W p l e (rm_d d 0 0) s m args below meth c H locs 0 0 Q (F0 m 4 L []) := by
  obtain ⟨hx, hb, hr, hml, hown, hts, hK, hlk, hxK⟩ := id X
  intro j
  induction j with
  | zero =>
    intro i hij H locs L hP hD hS hl
    have hi : i = n := by omega
    subst hi
    refine lv_iload_n hx hb dX9_leftOfAll_4 rfl (lv_at hl 0 rfl) ?_
    refine lv_aload_n hx hb dX9_leftOfAll_5 rfl (lv_at hl 2 rfl) ?_
    refine mo_g1 X hP hm mw_450 dX9_leftOfAll_6 ?_
    refine lv_icmp_ge (tgt := 40) hx hb dX9_leftOfAll_9 (by decide) (fun c_9 => ?_) (fun c_9 => ?_)
    · exact kend H locs L hP hD hS (lv_sub hl [0, 1, 2] rfl)
    · exact absurd (by rw [hn]; exact nI_le (Nat.le_refl _) (by omega)) c_9
  | succ j ih =>
    intro i hij H locs L hP hD hS hl
    have hi : i < n := by omega
    have hv : vp_in (nI i) 40 := vp_in_nI (by omega) (by decide)
    have hmi : (nI i).toNatClampNeg = i := nI_clamp (by omega)
    refine lv_iload_n hx hb dX9_leftOfAll_4 rfl (lv_at hl 0 rfl) ?_
    refine lv_aload_n hx hb dX9_leftOfAll_5 rfl (lv_at hl 2 rfl) ?_
    refine mo_g1 X hP hm mw_450 dX9_leftOfAll_6 ?_
    refine lv_icmp_ge (tgt := 40) hx hb dX9_leftOfAll_9 (by decide) (fun c_9 => ?_) (fun c_9 => ?_)
    · exact absurd (by rw [hn] at c_9; exact c_9) (nI_ge hi (by omega))
    · skip
      refine lv_iload_n hx hb dX9_leftOfAll_12 rfl (lv_at hl 1 rfl) ?_
      refine lv_aload_n hx hb dX9_leftOfAll_13 rfl (lv_at hl 2 rfl) ?_
      refine mo_r6 X hP hm mw_461 dX9_leftOfAll_14 ?_
      refine lv_iload_n hx hb dX9_leftOfAll_17 rfl (lv_at hl 0 rfl) ?_
      refine mo_a6 X hP hm hv dX9_leftOfAll_18 ?_
      refine lv_if_eq (tgt := 26) hx hb dX9_leftOfAll_19 (by decide) (fun c_19 => ?_) (fun c_19 => ?_)
      · -- c_19 True
        refine lv_aload_n hx hb dX9_leftOfAll_26 rfl (lv_at hl 2 rfl) ?_
        refine mo_r2 X hP hm mw_457 dX9_leftOfAll_27 ?_
        refine lv_iload_n hx hb dX9_leftOfAll_30 rfl (lv_at hl 0 rfl) ?_
        refine mo_a2 X hP hm hv dX9_leftOfAll_31 ?_
        refine lv_iadd hx hb dX9_leftOfAll_32 ?_
        refine lv_istore_n (lv' := [(1, .int ((mSum ar (fun i => ar 2 i) i) + (ar 2 (mI (nI i))))), (2, .int (nI i)), (0, .ref h)]) hx hb dX9_leftOfAll_33 rfl hl (by decide) rfl (fun L hl => ?_)
        refine lv_iinc (v := ((nI i) + 1)) (lv' := [(2, .int ((nI i) + 1)), (1, .int ((mSum ar (fun i => ar 2 i) i) + (ar 2 (mI (nI i))))), (0, .ref h)]) hx hb dX9_leftOfAll_34 hl (k := 1) rfl rfl (by decide) rfl (fun L hl => ?_)
        refine lv_goto (tgt := 4) hx hb dX9_leftOfAll_37 (by decide) ?_
        have e1 : ((nI i) + 1) = nI (i + 1) := nI_1 i
        have e2 : ((mSum ar (fun i => ar 2 i) i) + (ar 2 (mI (nI i)))) = mSum ar (fun i => ar 2 i) (i + 1) := by rw [hmi] at c_19; simp only [mSum, if_pos c_19, mI, hmi]
        have hl := lv_sub hl [0, 1, 2] rfl
        have hl : lv_has L 3 [(2, .int ((nI i) + 1)), (1, .int ((mSum ar (fun i => ar 2 i) i) + (ar 2 (mI (nI i))))), (0, .ref h)] := hl
        rw [e1, e2] at hl
        exact ih (i + 1) (by omega) H locs L hP hD hS hl
      · -- c_19 False
        refine lv_iconst (v := 0) hx hb dX9_leftOfAll_22 (by decide) ?_
        refine lv_goto (tgt := 32) hx hb dX9_leftOfAll_23 (by decide) ?_
        refine lv_iadd hx hb dX9_leftOfAll_32 ?_
        refine lv_istore_n (lv' := [(1, .int ((mSum ar (fun i => ar 2 i) i) + 0)), (2, .int (nI i)), (0, .ref h)]) hx hb dX9_leftOfAll_33 rfl hl (by decide) rfl (fun L hl => ?_)
        refine lv_iinc (v := ((nI i) + 1)) (lv' := [(2, .int ((nI i) + 1)), (1, .int ((mSum ar (fun i => ar 2 i) i) + 0)), (0, .ref h)]) hx hb dX9_leftOfAll_34 hl (k := 1) rfl rfl (by decide) rfl (fun L hl => ?_)
        refine lv_goto (tgt := 4) hx hb dX9_leftOfAll_37 (by decide) ?_
        have e1 : ((nI i) + 1) = nI (i + 1) := nI_1 i
        have e2 : ((mSum ar (fun i => ar 2 i) i) + 0) = mSum ar (fun i => ar 2 i) (i + 1) := by rw [hmi] at c_19; simp only [mSum, if_neg c_19, mI, hmi]
        have hl := lv_sub hl [0, 1, 2] rfl
        have hl : lv_has L 3 [(2, .int ((nI i) + 1)), (1, .int ((mSum ar (fun i => ar 2 i) i) + 0)), (0, .ref h)] := hl
        rw [e1, e2] at hl
        exact ih (i + 1) (by omega) H locs L hP hD hS hl
theorem mLap_rest (ar : Nat → Nat → Int32) (day : Int32) : ∀ i : Nat, (mLap ar day i).2 6 = ar 6 ∧ (mLap ar day i).2 2 i = ar 2 i ∧ (mLap ar day i).2 0 = ar 0 ∧ (mLap ar day i).2 3 = ar 3 := by
  have key : ∀ i : Nat, (∀ j, j ≠ 2 → (mLap ar day i).2 j = ar j) ∧ ∀ k, i ≤ k → (mLap ar day i).2 2 k = ar 2 k := by
    intro i
    induction i with
    | zero => exact ⟨fun j _ => rfl, fun k _ => rfl⟩
    | succ i ih =>
      have same : (∀ j, j ≠ 2 → (mLap ar day i).2 j = ar j) ∧ ∀ k, i + 1 ≤ k → (mLap ar day i).2 2 k = ar 2 k := ⟨ih.1, fun k hk => ih.2 k (by omega)⟩
      simp only [mLap]
      by_cases h1 : ar 6 i = 0
      · by_cases h2 : mDat ar i = 0
        · simp only [if_pos h1, if_pos h2]; exact same
        · by_cases h3 : mLast ar i < day
          · simp only [if_pos h1, if_neg h2, if_pos h3]
            refine ⟨fun j hj => ?_, fun k hk => ?_⟩
            · rw [← ih.1 j hj]
              simp only [mSet, va_up, if_neg hj]
            · rw [← ih.2 k (by omega)]
              have hk' : ¬ k = i := by omega
              simp [mSet, va_up, upd, hk']
          · simp only [if_pos h1, if_neg h2, if_neg h3]; exact same
      · simp only [if_neg h1]; exact same
  intro i
  exact ⟨(key i).1 6 (by decide), (key i).2 i (Nat.le_refl i), (key i).1 0 (by decide), (key i).1 3 (by decide)⟩
theorem mLap_dat (ar : Nat → Nat → Int32) (day : Int32) (i k : Nat) : mDat (mLap ar day i).2 k = mDat ar k := by
  obtain ⟨-, -, h, -⟩ := mLap_rest ar day i
  simp only [mDat, h]
theorem mLap_last (ar : Nat → Nat → Int32) (day : Int32) (i k : Nat) : mLast (mLap ar day i).2 k = mLast ar k := by
  obtain ⟨-, -, h, h3⟩ := mLap_rest ar day i
  simp only [mLast, h, h3]
set_option maxHeartbeats 4000000 in
set_option maxRecDepth 100000 in
theorem lp_X9_lapse {p : Program} {l : Launch} {e : Env} {s : State} {m : MethodId} {args : Array Value} {below : List Frame} {meth : Method} {c : Code} {Q : State → Prop} {A : Nat → Prop} {D : va_G} {cI cZ cP : ClassId} {h : Nat} {q ad : Nat → Nat} {sc : Nat → Int32} {ar : Nat → Nat → Int32} {d : Nat} {ws0 : va_W} (hd : 1 ≤ d) (X : Cx p m c meth s args "VoucherOfficeModel" cX9_lapse 3 (some .int) D (vTy cI cZ cP)) (hA : ∀ q, s.heap.size ≤ q → A q) {n : Nat} (hn : sc 1 = nI n) (h40 : n ≤ 40) (kend : ∀ (ws : va_W) (H : Heap) (locs : List Loc) (L : Array Slot), va_P D vwCl ws H → va_D A ws → va_S A s.heap H locs → mo_at cI cZ ws h q ad sc (mLap ar (sc 0) n).2 → mo_fr ws0 ws → lv_has L 3 [(2, .int (nI n)), (1, .int (mLap ar (sc 0) n).1), (0, .ref h)] → W p l e (rm_d d 0 0) s m args below meth c H locs 0 0 Q (F0 m 66 L [])) : ∀ (j i : Nat), i + j = n → ∀ (ws : va_W) (H : Heap) (locs : List Loc) (L : Array Slot), va_P D vwCl ws H → va_D A ws → va_S A s.heap H locs → mo_at cI cZ ws h q ad sc (mLap ar (sc 0) i).2 → mo_fr ws0 ws → lv_has L 3 [(2, .int (nI i)), (1, .int (mLap ar (sc 0) i).1), (0, .ref h)] → W p l e (rm_d d 0 0) s m args below meth c H locs 0 0 Q (F0 m 4 L []) := by
  obtain ⟨hx, hb, hr, hml, hown, hts, hK, hlk, hxK⟩ := id X
  intro j
  induction j with
  | zero =>
    intro i hij ws H locs L hP hD hS hm hfr hl
    have hi : i = n := by omega
    subst hi
    refine lv_iload_n hx hb dX9_lapse_4 rfl (lv_at hl 0 rfl) ?_
    refine lv_aload_n hx hb dX9_lapse_5 rfl (lv_at hl 2 rfl) ?_
    refine mo_g1 X hP hm mw_450 dX9_lapse_6 ?_
    refine lv_icmp_ge (tgt := 66) hx hb dX9_lapse_9 (by decide) (fun c_9 => ?_) (fun c_9 => ?_)
    · exact kend ws H locs L hP hD hS hm hfr hl
    · exact absurd (by rw [hn]; exact nI_le (Nat.le_refl _) (by omega)) c_9
  | succ j ih =>
    intro i hij ws H locs L hP hD hS hm hfr hl
    have hi : i < n := by omega
    have hv : vp_in (nI i) 40 := vp_in_nI (by omega) (by decide)
    have hmi : (nI i).toNatClampNeg = i := nI_clamp (by omega)
    obtain ⟨g0, g1, g2, g3⟩ := mLap_rest ar (sc 0) i
    refine lv_iload_n hx hb dX9_lapse_4 rfl (lv_at hl 0 rfl) ?_
    refine lv_aload_n hx hb dX9_lapse_5 rfl (lv_at hl 2 rfl) ?_
    refine mo_g1 X hP hm mw_450 dX9_lapse_6 ?_
    refine lv_icmp_ge (tgt := 66) hx hb dX9_lapse_9 (by decide) (fun c_9 => ?_) (fun c_9 => ?_)
    · exact absurd (by rw [hn] at c_9; exact c_9) (nI_ge hi (by omega))
    · skip
      refine lv_aload_n hx hb dX9_lapse_12 rfl (lv_at hl 2 rfl) ?_
      refine mo_r6 X hP hm mw_461 dX9_lapse_13 ?_
      refine lv_iload_n hx hb dX9_lapse_16 rfl (lv_at hl 0 rfl) ?_
      refine mo_a6 X hP hm hv dX9_lapse_17 ?_
      refine lv_if_ne (tgt := 60) hx hb dX9_lapse_18 (by decide) (fun c_18 => ?_) (fun c_18 => ?_)
      · -- c_18 True
        have c_18 : ¬ ar 6 i = 0 := by rw [hmi, g0] at c_18; exact c_18
        refine lv_iinc (v := ((nI i) + 1)) (lv' := [(2, .int ((nI i) + 1)), (1, .int (mLap ar (sc 0) i).1), (0, .ref h)]) hx hb dX9_lapse_60 hl (k := 0) rfl rfl (by decide) rfl (fun L hl => ?_)
        refine lv_goto (tgt := 4) hx hb dX9_lapse_63 (by decide) ?_
        have e1 : ((nI i) + 1) = nI (i + 1) := nI_1 i
        have e2 : mLap ar (sc 0) (i + 1) = ((mLap ar (sc 0) i).1, (mLap ar (sc 0) i).2) := by simp only [mLap, if_neg c_18, mI, hmi, g1]
        refine ih (i + 1) (by omega) ws H locs L hP hD hS (by rw [e2]; exact hm) hfr ?_
        have hl := lv_sub hl [0, 1, 2] rfl
        have hl : lv_has L 3 [(2, .int ((nI i) + 1)), (1, .int (mLap ar (sc 0) i).1), (0, .ref h)] := hl
        rw [e2, ← e1]
        exact hl
      · -- c_18 False
        have c_18 : ar 6 i = 0 := by rw [hmi, g0] at c_18; exact c_18
        refine lv_aload_n hx hb dX9_lapse_21 rfl (lv_at hl 2 rfl) ?_
        refine lv_iload_n hx hb dX9_lapse_22 rfl (lv_at hl 0 rfl) ?_
        refine g_priv (ci := 9) (cq := (RX9, TX9, 13)) (As := [.int (nI i)]) (rest := []) pw_X9_40 X (c_X9_isDated l D cI cZ cP 0 (by decide) hm hv ) hP hD hS hA hm.1 rfl rfl ⟨by show _ ≤ d; omega, by show _ ≤ 30 * d; omega⟩ rfl hl.1 rfl (Nat.le_of_ble_eq_true rfl) dX9_lapse_23 ⟨Nat.le_refl _, Nat.le_refl _⟩ (kI fun H locs hP hD hS => ?_)
        refine W.eq (g2 := F0 m 26 L [.int (mDat (mLap ar (sc 0) i).2 (mI (nI i)))]) rfl ?_
        refine lv_if_eq (tgt := 60) hx hb dX9_lapse_26 (by decide) (fun c_26 => ?_) (fun c_26 => ?_)
        · -- c_26 True
          have c_26 : mDat ar i = 0 := by simp only [mI, hmi, mLap_dat] at c_26; exact c_26
          refine lv_iinc (v := ((nI i) + 1)) (lv' := [(2, .int ((nI i) + 1)), (1, .int (mLap ar (sc 0) i).1), (0, .ref h)]) hx hb dX9_lapse_60 hl (k := 0) rfl rfl (by decide) rfl (fun L hl => ?_)
          refine lv_goto (tgt := 4) hx hb dX9_lapse_63 (by decide) ?_
          have e1 : ((nI i) + 1) = nI (i + 1) := nI_1 i
          have e2 : mLap ar (sc 0) (i + 1) = ((mLap ar (sc 0) i).1, (mLap ar (sc 0) i).2) := by simp only [mLap, if_pos c_18, if_pos c_26, mI, hmi, g1]
          refine ih (i + 1) (by omega) ws H locs L hP hD hS (by rw [e2]; exact hm) hfr ?_
          have hl := lv_sub hl [0, 1, 2] rfl
          have hl : lv_has L 3 [(2, .int ((nI i) + 1)), (1, .int (mLap ar (sc 0) i).1), (0, .ref h)] := hl
          rw [e2, ← e1]
          exact hl
        · -- c_26 False
          have c_26 : ¬ mDat ar i = 0 := by simp only [mI, hmi, mLap_dat] at c_26; exact c_26
          refine lv_aload_n hx hb dX9_lapse_29 rfl (lv_at hl 2 rfl) ?_
          refine lv_iload_n hx hb dX9_lapse_30 rfl (lv_at hl 0 rfl) ?_
          refine g_priv (ci := 9) (cq := (RX9, TX9, 13)) (As := [.int (nI i)]) (rest := []) pw_X9_44 X (c_X9_lastDay l D cI cZ cP 0 (by decide) hm hv ) hP hD hS hA hm.1 rfl rfl ⟨by show _ ≤ d; omega, by show _ ≤ 30 * d; omega⟩ rfl hl.1 rfl (Nat.le_of_ble_eq_true rfl) dX9_lapse_31 ⟨Nat.le_refl _, Nat.le_refl _⟩ (kI fun H locs hP hD hS => ?_)
          refine W.eq (g2 := F0 m 34 L [.int (mLast (mLap ar (sc 0) i).2 (mI (nI i)))]) rfl ?_
          refine lv_aload_n hx hb dX9_lapse_34 rfl (lv_at hl 2 rfl) ?_
          refine mo_g0 X hP hm mw_449 dX9_lapse_35 ?_
          refine lv_icmp_lt (tgt := 44) hx hb dX9_lapse_38 (by decide) (fun c_38 => ?_) (fun c_38 => ?_)
          · -- c_38 True
            have c_38 : mLast ar i < sc 0 := by simp only [mI, hmi, mLap_last] at c_38; exact c_38
            refine lv_iload_n hx hb dX9_lapse_44 rfl (lv_at hl 1 rfl) ?_
            refine lv_aload_n hx hb dX9_lapse_45 rfl (lv_at hl 2 rfl) ?_
            refine mo_r2 X hP hm mw_457 dX9_lapse_46 ?_
            refine lv_iload_n hx hb dX9_lapse_49 rfl (lv_at hl 0 rfl) ?_
            refine mo_a2 X hP hm hv dX9_lapse_50 ?_
            refine lv_iadd hx hb dX9_lapse_51 ?_
            refine lv_istore_n (lv' := [(1, .int ((mLap ar (sc 0) i).1 + ((mLap ar (sc 0) i).2 2 (mI (nI i))))), (2, .int (nI i)), (0, .ref h)]) hx hb dX9_lapse_52 rfl hl (by decide) rfl (fun L hl => ?_)
            refine lv_aload_n hx hb dX9_lapse_53 rfl (lv_at hl 2 rfl) ?_
            refine mo_r2 X hP hm mw_457 dX9_lapse_54 ?_
            refine lv_iload_n hx hb dX9_lapse_57 rfl (lv_at hl 1 rfl) ?_
            refine lv_iconst (v := 0) hx hb dX9_lapse_58 (by decide) ?_
            refine mo_s2 X hP hD hS hm hfr hv dX9_lapse_59 (fun ws H locs hP hD hS hm hfr => ?_)
            refine lv_iinc (v := ((nI i) + 1)) (lv' := [(2, .int ((nI i) + 1)), (1, .int ((mLap ar (sc 0) i).1 + ((mLap ar (sc 0) i).2 2 (mI (nI i))))), (0, .ref h)]) hx hb dX9_lapse_60 hl (k := 1) rfl rfl (by decide) rfl (fun L hl => ?_)
            refine lv_goto (tgt := 4) hx hb dX9_lapse_63 (by decide) ?_
            have e1 : ((nI i) + 1) = nI (i + 1) := nI_1 i
            have e2 : mLap ar (sc 0) (i + 1) = (((mLap ar (sc 0) i).1 + ((mLap ar (sc 0) i).2 2 (mI (nI i)))), (mSet (mLap ar (sc 0) i).2 2 (mI (nI i)) 0)) := by simp only [mLap, if_pos c_18, if_neg c_26, if_pos c_38, mI, hmi, g1]
            refine ih (i + 1) (by omega) ws H locs L hP hD hS (by rw [e2]; exact hm) hfr ?_
            have hl := lv_sub hl [0, 1, 2] rfl
            have hl : lv_has L 3 [(2, .int ((nI i) + 1)), (1, .int ((mLap ar (sc 0) i).1 + ((mLap ar (sc 0) i).2 2 (mI (nI i))))), (0, .ref h)] := hl
            rw [e2, ← e1]
            exact hl
          · -- c_38 False
            have c_38 : ¬ mLast ar i < sc 0 := by simp only [mI, hmi, mLap_last] at c_38; exact c_38
            refine lv_goto (tgt := 60) hx hb dX9_lapse_41 (by decide) ?_
            refine lv_iinc (v := ((nI i) + 1)) (lv' := [(2, .int ((nI i) + 1)), (1, .int (mLap ar (sc 0) i).1), (0, .ref h)]) hx hb dX9_lapse_60 hl (k := 0) rfl rfl (by decide) rfl (fun L hl => ?_)
            refine lv_goto (tgt := 4) hx hb dX9_lapse_63 (by decide) ?_
            have e1 : ((nI i) + 1) = nI (i + 1) := nI_1 i
            have e2 : mLap ar (sc 0) (i + 1) = ((mLap ar (sc 0) i).1, (mLap ar (sc 0) i).2) := by simp only [mLap, if_pos c_18, if_neg c_26, if_neg c_38, mI, hmi, g1]
            refine ih (i + 1) (by omega) ws H locs L hP hD hS (by rw [e2]; exact hm) hfr ?_
            have hl := lv_sub hl [0, 1, 2] rfl
            have hl : lv_has L 3 [(2, .int ((nI i) + 1)), (1, .int (mLap ar (sc 0) i).1), (0, .ref h)] := hl
            rw [e2, ← e1]
            exact hl
set_option maxHeartbeats 4000000 in
set_option maxRecDepth 100000 in
theorem c_X9_total (l : Launch) (D : va_G) (cI cZ cP : ClassId) (d : Nat) (hd : 2 ≤ d) {ws : va_W} {h : Nat} {q ad : Nat → Nat} {sc : Nat → Int32} {ar : Nat → Nat → Int32} (hm : mo_at cI cZ ws h q ad sc ar) {n : Nat} (hn : sc 1 = nI n) (h40 : n ≤ 40) (t : Int32) : Ct l D (vTy cI cZ cP) yX9_total cX9_total 4 (some .int) d 0 0 [.ref h, .int t] ws (pI ws (mTotal sc ar t)) := by
  refine ct_intro (by decide) (Nat.le_of_ble_eq_true rfl) ?_
  intro p e s m below meth c A L X hin hP hD hS hA hl
  have hl : lv_has L 4 [(0, .ref h), (1, .int t)] := hl
  obtain ⟨hx, hb, hr, hml, hown, hts, hK, hlk, hxK⟩ := id X
  have hfr := mo_fr_rf ws
  refine lv_iload_n hx hb dX9_total_0 rfl (lv_at hl 1 rfl) ?_
  refine lv_iconst (v := 0) hx hb dX9_total_1 (by decide) ?_
  refine lv_sipush (v := 20000) hx hb dX9_total_2 (by decide) ?_
  refine g_static (As := [.int t, .int 0, .int 20000]) (rest := []) sw_X9_36 X (c_X9_within l D (vTy cI cZ cP) 0 (by decide) ws t 0 20000) hP hD hS hA ⟨by show _ ≤ d; omega, by show _ ≤ 30 * d; omega⟩ rfl hl.1 rfl (Nat.le_of_ble_eq_true rfl) dX9_total_5 ⟨Nat.le_refl _, Nat.le_refl _⟩ (kI fun H locs hP hD hS => ?_)
  refine W.eq (g2 := F0 m 8 L [.int (mWin t 0 20000)]) rfl ?_
  refine lv_if_ne (tgt := 14) hx hb dX9_total_8 (by decide) (fun c_8 => ?_) (fun c_8 => ?_)
  · -- c_8 True
    refine lv_iconst (v := 0) hx hb dX9_total_14 (by decide) ?_
    refine lv_istore_n (lv' := [(2, .int 0), (0, .ref h), (1, .int t)]) hx hb dX9_total_15 rfl hl (by decide) rfl (fun L hl => ?_)
    refine lv_iconst (v := 0) hx hb dX9_total_16 (by decide) ?_
    refine lv_istore_n (lv' := [(3, .int 0), (2, .int 0), (0, .ref h), (1, .int t)]) hx hb dX9_total_17 rfl hl (by decide) rfl (fun L hl => ?_)
    have e0 : n = mI (sc 1) := by rw [hn]; exact (nI_clamp (by omega)).symm
    refine lp_X9_total (ws := ws) (by omega) X hA hm hn h40 (t := t) (fun H locs L hP hD hS hl => ?_) n 0 (by omega) _ _ _ hP hD hS (lv_sub hl [0, 1, 2, 3] rfl)
    refine lv_iload_n hx hb dX9_total_54 rfl (lv_at hl 1 rfl) ?_
    exact e_int X hP hD hS dX9_total_55 ⟨by simp only [mTotal, if_neg c_8, ← e0], rfl⟩
  · -- c_8 False
    refine lv_bipush (v := (-2)) hx hb dX9_total_11 (by decide) ?_
    exact e_int X hP hD hS dX9_total_13 ⟨by first | rfl | simp only [mTotal, if_pos c_8] | (simp only [mTotal, if_pos c_8]; rfl), rfl⟩
set_option maxHeartbeats 4000000 in
set_option maxRecDepth 100000 in
theorem c_X9_leftOfAll (l : Launch) (D : va_G) (cI cZ cP : ClassId) (d : Nat) (hd : 1 ≤ d) {ws : va_W} {h : Nat} {q ad : Nat → Nat} {sc : Nat → Int32} {ar : Nat → Nat → Int32} (hm : mo_at cI cZ ws h q ad sc ar) {n : Nat} (hn : sc 1 = nI n) (h40 : n ≤ 40) : Ct l D (vTy cI cZ cP) yX9_leftOfAll cX9_leftOfAll 3 (some .int) d 0 0 [.ref h] ws (pI ws (mLeft sc ar)) := by
  refine ct_intro (by decide) (Nat.le_of_ble_eq_true rfl) ?_
  intro p e s m below meth c A L X hin hP hD hS hA hl
  have hl : lv_has L 3 [(0, .ref h)] := hl
  obtain ⟨hx, hb, hr, hml, hown, hts, hK, hlk, hxK⟩ := id X
  have hfr := mo_fr_rf ws
  refine lv_iconst (v := 0) hx hb dX9_leftOfAll_0 (by decide) ?_
  refine lv_istore_n (lv' := [(1, .int 0), (0, .ref h)]) hx hb dX9_leftOfAll_1 rfl hl (by decide) rfl (fun L hl => ?_)
  refine lv_iconst (v := 0) hx hb dX9_leftOfAll_2 (by decide) ?_
  refine lv_istore_n (lv' := [(2, .int 0), (1, .int 0), (0, .ref h)]) hx hb dX9_leftOfAll_3 rfl hl (by decide) rfl (fun L hl => ?_)
  have e0 : n = mI (sc 1) := by rw [hn]; exact (nI_clamp (by omega)).symm
  refine lp_X9_leftOfAll (ws := ws) (by omega) X hA hm hn h40 (fun H locs L hP hD hS hl => ?_) n 0 (by omega) _ _ _ hP hD hS (lv_sub hl [0, 1, 2] rfl)
  refine lv_iload_n hx hb dX9_leftOfAll_40 rfl (lv_at hl 1 rfl) ?_
  exact e_int X hP hD hS dX9_leftOfAll_41 ⟨by simp only [mLeft, ← e0], rfl⟩
set_option maxHeartbeats 4000000 in
set_option maxRecDepth 100000 in
theorem c_X9_count (l : Launch) (D : va_G) (cI cZ cP : ClassId) (d : Nat) (hd : 2 ≤ d) {ws : va_W} {h : Nat} {q ad : Nat → Nat} {sc : Nat → Int32} {ar : Nat → Nat → Int32} (hm : mo_at cI cZ ws h q ad sc ar) {n : Nat} (hn : sc 1 = nI n) (h40 : n ≤ 40) (w : Int32) : Ct l D (vTy cI cZ cP) yX9_count cX9_count 2 (some .int) d 0 0 [.ref h, .int w] ws (pI ws (mCount sc ar w)) := by
  refine ct_intro (by decide) (Nat.le_of_ble_eq_true rfl) ?_
  intro p e s m below meth c A L X hin hP hD hS hA hl
  have hl : lv_has L 2 [(0, .ref h), (1, .int w)] := hl
  obtain ⟨hx, hb, hr, hml, hown, hts, hK, hlk, hxK⟩ := id X
  have hfr := mo_fr_rf ws
  refine lv_iload_n hx hb dX9_count_0 rfl (lv_at hl 1 rfl) ?_
  by_cases s_1 : w.toInt < 0 ∨ 6 < w.toInt
  · refine lv_tableOut (tgt := 79) hx hb dX9_count_1 s_1 (by decide) ?_
    refine lv_bipush (v := (-2)) hx hb dX9_count_79 (by decide) ?_
    exact e_int X hP hD hS dX9_count_81 ⟨by first | rfl | (simp only [mCount, if_neg (sw_out (y := 0) s_1 (by decide)), if_neg (sw_out (y := 1) s_1 (by decide)), if_neg (sw_out (y := 2) s_1 (by decide)), if_neg (sw_out (y := 3) s_1 (by decide)), if_neg (sw_out (y := 4) s_1 (by decide)), if_neg (sw_out (y := 5) s_1 (by decide)), if_neg (sw_out (y := 6) s_1 (by decide))]; done) | (simp only [mCount, if_neg (sw_out (y := 0) s_1 (by decide)), if_neg (sw_out (y := 1) s_1 (by decide)), if_neg (sw_out (y := 2) s_1 (by decide)), if_neg (sw_out (y := 3) s_1 (by decide)), if_neg (sw_out (y := 4) s_1 (by decide)), if_neg (sw_out (y := 5) s_1 (by decide)), if_neg (sw_out (y := 6) s_1 (by decide))]; rfl), rfl⟩
  · have e_1 : w = 0 ∨ w = 1 ∨ w = 2 ∨ w = 3 ∨ w = 4 ∨ w = 5 ∨ w = 6 := sw_7 s_1
    rcases e_1 with f_0 | f_1 | f_2 | f_3 | f_4 | f_5 | f_6
    · refine lv_tableIn (tgt := 44) (off := 43) hx hb dX9_count_1 (by rw [f_0]; decide) (by rw [f_0]; decide) (by rw [f_0]; rfl) (by decide) ?_
      refine lv_aload_n hx hb dX9_count_44 rfl (lv_at hl 0 rfl) ?_
      refine mo_g0 X hP hm mw_449 dX9_count_45 ?_
      exact e_int X hP hD hS dX9_count_48 ⟨by subst f_0; first | (simp only [mCount]; done) | (simp only [mCount]; rfl) | (simp [mCount]; done), rfl⟩
    · refine lv_tableIn (tgt := 49) (off := 48) hx hb dX9_count_1 (by rw [f_1]; decide) (by rw [f_1]; decide) (by rw [f_1]; rfl) (by decide) ?_
      refine lv_aload_n hx hb dX9_count_49 rfl (lv_at hl 0 rfl) ?_
      refine mo_g1 X hP hm mw_450 dX9_count_50 ?_
      exact e_int X hP hD hS dX9_count_53 ⟨by subst f_1; first | (simp only [mCount]; done) | (simp only [mCount]; rfl) | (simp [mCount]; done), rfl⟩
    · refine lv_tableIn (tgt := 54) (off := 53) hx hb dX9_count_1 (by rw [f_2]; decide) (by rw [f_2]; decide) (by rw [f_2]; rfl) (by decide) ?_
      refine lv_aload_n hx hb dX9_count_54 rfl (lv_at hl 0 rfl) ?_
      refine mo_g2 X hP hm mw_451 dX9_count_55 ?_
      exact e_int X hP hD hS dX9_count_58 ⟨by subst f_2; first | (simp only [mCount]; done) | (simp only [mCount]; rfl) | (simp [mCount]; done), rfl⟩
    · refine lv_tableIn (tgt := 59) (off := 58) hx hb dX9_count_1 (by rw [f_3]; decide) (by rw [f_3]; decide) (by rw [f_3]; rfl) (by decide) ?_
      refine lv_aload_n hx hb dX9_count_59 rfl (lv_at hl 0 rfl) ?_
      refine mo_g3 X hP hm mw_452 dX9_count_60 ?_
      exact e_int X hP hD hS dX9_count_63 ⟨by subst f_3; first | (simp only [mCount]; done) | (simp only [mCount]; rfl) | (simp [mCount]; done), rfl⟩
    · refine lv_tableIn (tgt := 64) (off := 63) hx hb dX9_count_1 (by rw [f_4]; decide) (by rw [f_4]; decide) (by rw [f_4]; rfl) (by decide) ?_
      refine lv_aload_n hx hb dX9_count_64 rfl (lv_at hl 0 rfl) ?_
      refine mo_g4 X hP hm mw_453 dX9_count_65 ?_
      exact e_int X hP hD hS dX9_count_68 ⟨by subst f_4; first | (simp only [mCount]; done) | (simp only [mCount]; rfl) | (simp [mCount]; done), rfl⟩
    · refine lv_tableIn (tgt := 69) (off := 68) hx hb dX9_count_1 (by rw [f_5]; decide) (by rw [f_5]; decide) (by rw [f_5]; rfl) (by decide) ?_
      refine lv_aload_n hx hb dX9_count_69 rfl (lv_at hl 0 rfl) ?_
      refine mo_g5 X hP hm mw_454 dX9_count_70 ?_
      exact e_int X hP hD hS dX9_count_73 ⟨by subst f_5; first | (simp only [mCount]; done) | (simp only [mCount]; rfl) | (simp [mCount]; done), rfl⟩
    · refine lv_tableIn (tgt := 74) (off := 73) hx hb dX9_count_1 (by rw [f_6]; decide) (by rw [f_6]; decide) (by rw [f_6]; rfl) (by decide) ?_
      refine lv_aload_n hx hb dX9_count_74 rfl (lv_at hl 0 rfl) ?_
      refine g_priv (ci := 9) (cq := (RX9, TX9, 13)) (As := []) (rest := []) pw_X9_80 X (c_X9_leftOfAll l D cI cZ cP 1 (by decide) hm hn h40) hP hD hS hA hm.1 rfl rfl ⟨by show _ ≤ d; omega, by show _ ≤ 30 * d; omega⟩ rfl hl.1 rfl (Nat.le_of_ble_eq_true rfl) dX9_count_75 ⟨Nat.le_refl _, Nat.le_refl _⟩ (kI fun H locs hP hD hS => ?_)
      refine W.eq (g2 := F0 m 78 L [.int (mLeft sc ar)]) rfl ?_
      exact e_int X hP hD hS dX9_count_78 ⟨by subst f_6; first | (simp only [mCount]; done) | (simp only [mCount]; rfl) | (simp [mCount]; done), rfl⟩
set_option maxHeartbeats 4000000 in
set_option maxRecDepth 100000 in
theorem c_X9_lapse (l : Launch) (D : va_G) (cI cZ cP : ClassId) (d : Nat) (hd : 1 ≤ d) {ws : va_W} {h : Nat} {q ad : Nat → Nat} {sc : Nat → Int32} {ar : Nat → Nat → Int32} (hm : mo_at cI cZ ws h q ad sc ar) {n : Nat} (hn : sc 1 = nI n) (h40 : n ≤ 40) : Ct l D (vTy cI cZ cP) yX9_lapse cX9_lapse 3 (some .int) d 0 0 [.ref h] ws (pM cI cZ h q ad (mLapse sc ar) ws) := by
  refine ct_intro (by decide) (Nat.le_of_ble_eq_true rfl) ?_
  intro p e s m below meth c A L X hin hP hD hS hA hl
  have hl : lv_has L 3 [(0, .ref h)] := hl
  obtain ⟨hx, hb, hr, hml, hown, hts, hK, hlk, hxK⟩ := id X
  have hfr := mo_fr_rf ws
  refine lv_iconst (v := 0) hx hb dX9_lapse_0 (by decide) ?_
  refine lv_istore_n (lv' := [(1, .int 0), (0, .ref h)]) hx hb dX9_lapse_1 rfl hl (by decide) rfl (fun L hl => ?_)
  refine lv_iconst (v := 0) hx hb dX9_lapse_2 (by decide) ?_
  refine lv_istore_n (lv' := [(2, .int 0), (1, .int 0), (0, .ref h)]) hx hb dX9_lapse_3 rfl hl (by decide) rfl (fun L hl => ?_)
  have e0 : n = mI (sc 1) := by rw [hn]; exact (nI_clamp (by omega)).symm
  refine lp_X9_lapse (by omega) X hA hn h40 (fun ws H locs L hP hD hS hm hfr hl => ?_) n 0 (by omega) _ _ _ _ hP hD hS hm hfr (lv_sub hl [0, 1, 2] rfl)
  refine lv_aload_n hx hb dX9_lapse_66 rfl (lv_at hl 2 rfl) ?_
  refine lv_dup hx hb dX9_lapse_67 rfl ?_
  refine mo_g5 X hP hm mw_454 dX9_lapse_68 ?_
  refine lv_iload_n hx hb dX9_lapse_71 rfl (lv_at hl 1 rfl) ?_
  refine lv_iadd hx hb dX9_lapse_72 ?_
  refine mo_p5 X hP hD hS hm hfr mw_454 dX9_lapse_73 (fun ws H locs hP hD hS hm hfr => ?_)
  refine lv_iload_n hx hb dX9_lapse_76 rfl (lv_at hl 1 rfl) ?_
  exact e_int X hP hD hS dX9_lapse_77 (pM_of hm hfr (by simp only [mLapse, ← e0] <;> rfl))
end
section
/-- a voucher's numbers, of the kind k -/
def vInv (ar : Nat → Nat → Int32) (v k : Nat) : Prop := k ≤ 7 ∧ ar 0 v = nI k ∧ ∃ L P M S : Nat, ar 2 v = nI L ∧ ar 4 v = nI P ∧ ar 1 v = nI M ∧ ar 5 v = nI S ∧ 100 * P + L ≤ M ∧ M ≤ 100000 ∧ S ≤ 20001 ∧ (k < 6 → P = 0)
/-- what holds of the office's numbers at every time -/
def mInv (sc : Nat → Int32) (ar : Nat → Nat → Int32) (n : Nat) : Prop := sc 1 = nI n ∧ n ≤ 40 ∧ (∃ dd : Nat, sc 0 = nI dd ∧ dd ≤ 20000) ∧ (∀ v, v < n → ∃ k, vInv ar v k) ∧ (∀ v, n ≤ v → ar 4 v = 0 ∧ ar 5 v = 0 ∧ ar 6 v = 0)
theorem i_ss (a b : Int32) : a - (a - b) = b := by
  rw [Int32.sub_eq_iff_eq_add, Int32.add_comm, Int32.sub_add_cancel]
theorem k_cases {k : Nat} (h : k ≤ 7) : k = 0 ∨ k = 1 ∨ k = 2 ∨ k = 3 ∨ k = 4 ∨ k = 5 ∨ k = 6 ∨ k = 7 := by omega
theorem val_eq {ar : Nat → Nat → Int32} {j k : Nat} (hk : k ≤ 7) (h : ar 0 j = nI k) (t : Int32) : mVal ar j t = vVal k (ar 3 j) (ar 2 j) (ar 4 j) t := by
  rcases k_cases hk with rfl | rfl | rfl | rfl | rfl | rfl | rfl | rfl
  · have h0 : ar 0 j = 0 := h
    simp only [mVal, mDat, mV2, h0, vVal, if_neg (by decide : ¬ (0 : Int32) = 2), if_neg (by decide : ¬ (0 : Int32) = 3), if_neg (by decide : ¬ (4 : Int32) ≤ 0), if_pos]
  · have h0 : ar 0 j = 1 := h
    simp only [mVal, mDat, mV2, h0, vVal, if_neg (by decide : ¬ (1 : Int32) = 2), if_neg (by decide : ¬ (1 : Int32) = 3), if_neg (by decide : ¬ (4 : Int32) ≤ 1), if_pos]
  · have h0 : ar 0 j = 2 := h
    simp only [mVal, mDat, mV2, mLast, h0, vVal, vSea, vLast, if_pos, if_neg (by decide : ¬ (1 : Int32) = 0), if_neg (by decide : ¬ (2 : Int32) = 3), if_neg (by decide : ¬ (4 : Int32) ≤ 2)]
  · have h0 : ar 0 j = 3 := h
    simp only [mVal, mDat, mV2, mLast, h0, vVal, vSea, vLast, if_pos, if_neg (by decide : ¬ (1 : Int32) = 0), if_neg (by decide : ¬ (3 : Int32) = 2)]
    by_cases c : t ≤ ar 3 j + 30
    · simp only [if_pos c]
    · simp only [if_neg c]
      decide
  · have h0 : ar 0 j = 4 := h
    simp only [mVal, mDat, mV2, mV3, mN, mHas, h0, vVal, vRnd, i_ss, if_pos, if_neg (by decide : ¬ (4 : Int32) = 2), if_neg (by decide : ¬ (4 : Int32) = 3), if_neg (by decide : ¬ (4 : Int32) = 7), if_pos (by decide : (4 : Int32) ≤ 4), if_pos (by decide : (4 : Int32) < 6)]
  · have h0 : ar 0 j = 5 := h
    simp only [mVal, mDat, mV2, mV3, mN, mHas, h0, vVal, vRnd, i_ss, if_pos, if_neg (by decide : ¬ (5 : Int32) = 2), if_neg (by decide : ¬ (5 : Int32) = 3), if_neg (by decide : ¬ (5 : Int32) = 7), if_pos (by decide : (4 : Int32) ≤ 5), if_pos (by decide : (5 : Int32) < 6)]
  · have h0 : ar 0 j = 6 := h
    simp only [mVal, mDat, mV2, mV3, mN, mHas, h0, vVal, vRnd, i_ss, if_pos, if_neg (by decide : ¬ (6 : Int32) = 2), if_neg (by decide : ¬ (6 : Int32) = 3), if_neg (by decide : ¬ (6 : Int32) = 7), if_pos (by decide : (4 : Int32) ≤ 6), if_neg (by decide : ¬ (6 : Int32) < 6), if_neg (by decide : ¬ (1 : Int32) = 0)]
  · have h0 : ar 0 j = 7 := h
    simp only [mVal, mDat, mV2, mV3, mN, mHas, h0, vVal, vRnd, i_ss, if_pos, if_neg (by decide : ¬ (7 : Int32) = 2), if_neg (by decide : ¬ (7 : Int32) = 3), if_pos (by decide : (4 : Int32) ≤ 7), if_neg (by decide : ¬ (7 : Int32) < 6), if_neg (by decide : ¬ (1 : Int32) = 0), Int32.mul_comm 2]
theorem seal_eq {ar : Nat → Nat → Int32} {j k : Nat} (hk : k ≤ 7) (h : ar 0 j = nI k) : mSeal ar j = vSeal k (ar 3 j) (ar 1 j) (ar 2 j) (ar 4 j) := by
  have hb : ar 2 j * 961 + ar 3 j * 31 + ar 1 j = vBase (ar 3 j) (ar 1 j) (ar 2 j) := by
    unfold vBase
    rw [Int32.add_mul, Int32.mul_assoc, show (31 : Int32) * 31 = 961 from by decide]
  rcases k_cases hk with rfl | rfl | rfl | rfl | rfl | rfl | rfl | rfl
  · have h0 : ar 0 j = 0 := h
    simp only [mSeal, mS0, mDat, h0, vSeal, hb, if_neg (by decide : ¬ (0 : Int32) = 2), if_neg (by decide : ¬ (0 : Int32) = 3), if_neg (by decide : ¬ (0 : Int32) = 7), if_pos]
  · have h0 : ar 0 j = 1 := h
    simp only [mSeal, mS0, mDat, h0, vSeal, hb, if_neg (by decide : ¬ (1 : Int32) = 2), if_neg (by decide : ¬ (1 : Int32) = 3), if_neg (by decide : ¬ (1 : Int32) = 7), if_pos]
  · have h0 : ar 0 j = 2 := h
    simp only [mSeal, mS0, mDat, mLast, h0, vSeal, vLast, hb, if_neg (by decide : ¬ (1 : Int32) = 0), if_neg (by decide : ¬ (2 : Int32) = 3), if_neg (by decide : ¬ (2 : Int32) = 7), if_pos]
  · have h0 : ar 0 j = 3 := h
    simp only [mSeal, mS0, mDat, mLast, h0, vSeal, vLast, hb, if_neg (by decide : ¬ (1 : Int32) = 0), if_neg (by decide : ¬ (3 : Int32) = 2), if_neg (by decide : ¬ (3 : Int32) = 7), if_pos]
  · have h0 : ar 0 j = 4 := h
    simp only [mSeal, mS0, mDat, h0, vSeal, hb, if_neg (by decide : ¬ (4 : Int32) = 2), if_neg (by decide : ¬ (4 : Int32) = 3), if_neg (by decide : ¬ (4 : Int32) = 7), if_pos]
  · have h0 : ar 0 j = 5 := h
    simp only [mSeal, mS0, mDat, h0, vSeal, hb, if_neg (by decide : ¬ (5 : Int32) = 2), if_neg (by decide : ¬ (5 : Int32) = 3), if_neg (by decide : ¬ (5 : Int32) = 7), if_pos]
  · have h0 : ar 0 j = 6 := h
    simp only [mSeal, mS0, mDat, h0, vSeal, hb, if_neg (by decide : ¬ (6 : Int32) = 2), if_neg (by decide : ¬ (6 : Int32) = 3), if_neg (by decide : ¬ (6 : Int32) = 7), if_pos]
  · have h0 : ar 0 j = 7 := h
    simp only [mSeal, mS0, mDat, h0, vSeal, hb, if_neg (by decide : ¬ (7 : Int32) = 2), if_neg (by decide : ¬ (7 : Int32) = 3), if_pos]
theorem dat_eq {ar : Nat → Nat → Int32} {j k : Nat} (hk : k ≤ 7) (h : ar 0 j = nI k) : ((k = 2 ∨ k = 3) ∧ ¬ mDat ar j = 0 ∧ mLast ar j = vLast k (ar 3 j)) ∨ (¬ (k = 2 ∨ k = 3) ∧ mDat ar j = 0) := by
  rcases k_cases hk with rfl | rfl | rfl | rfl | rfl | rfl | rfl | rfl
  · have h0 : ar 0 j = 0 := h
    exact Or.inr ⟨by omega, by simp only [mDat, h0]; decide⟩
  · have h0 : ar 0 j = 1 := h
    exact Or.inr ⟨by omega, by simp only [mDat, h0]; decide⟩
  · have h0 : ar 0 j = 2 := h
    exact Or.inl ⟨by omega, by simp only [mDat, h0]; decide, by simp only [mLast, h0, vLast, if_neg (by decide : ¬ (2 : Int32) = 3)]⟩
  · have h0 : ar 0 j = 3 := h
    exact Or.inl ⟨by omega, by simp only [mDat, h0]; decide, by simp only [mLast, h0, vLast, if_pos]⟩
  · have h0 : ar 0 j = 4 := h
    exact Or.inr ⟨by omega, by simp only [mDat, h0]; decide⟩
  · have h0 : ar 0 j = 5 := h
    exact Or.inr ⟨by omega, by simp only [mDat, h0]; decide⟩
  · have h0 : ar 0 j = 6 := h
    exact Or.inr ⟨by omega, by simp only [mDat, h0]; decide⟩
  · have h0 : ar 0 j = 7 := h
    exact Or.inr ⟨by omega, by simp only [mDat, h0]; decide⟩
theorem has_eq {ar : Nat → Nat → Int32} {j k : Nat} (hk : k ≤ 7) (h : ar 0 j = nI k) : (k < 6 ∧ mHas ar j = 0) ∨ (6 ≤ k ∧ ¬ mHas ar j = 0) := by
  rcases Nat.lt_or_ge k 6 with q | q
  · exact Or.inl ⟨q, by rw [mHas, h, if_pos]; exact nI_lt (b := 6) q (by decide)⟩
  · exact Or.inr ⟨q, by rw [mHas, h, if_neg]; decide; exact nI_nlt (b := 6) q (by omega)⟩
theorem vLast_no {k : Nat} {fr : Int32} (h : ¬ (k = 2 ∨ k = 3)) : vLast k fr = -3 := by
  unfold vLast
  split <;> simp_all
theorem vDays_no {k : Nat} {fr t : Int32} (h : ¬ (k = 2 ∨ k = 3)) : vDays k fr t = -3 := by
  unfold vDays
  split <;> simp_all
theorem vDays_is {k : Nat} {fr t : Int32} (h : k = 2 ∨ k = 3) : vDays k fr t = if 0 < vLast k fr - t then vLast k fr - t else 0 := by
  rcases h with rfl | rfl <;> rfl
theorem days_eq {ar : Nat → Nat → Int32} {j k : Nat} (hk : k ≤ 7) (h : ar 0 j = nI k) (t : Int32) : (if mDat ar j = 0 then (-3 : Int32) else if mLast ar j - t ≤ 0 then 0 else mLast ar j - t) = vDays k (ar 3 j) t := by
  rcases dat_eq hk h with ⟨h1, h2, h3⟩ | ⟨h1, h2⟩
  · rw [if_neg h2, h3, vDays_is h1]
    by_cases c : 0 < vLast k (ar 3 j) - t
    · rw [if_pos c, if_neg (Int32.not_le.mpr c)]
    · rw [if_neg c, if_pos (Int32.not_lt.mp c)]
  · rw [if_pos h2, vDays_no h1]
theorem last_eq {ar : Nat → Nat → Int32} {j k : Nat} (hk : k ≤ 7) (h : ar 0 j = nI k) : (if mDat ar j = 0 then (-3 : Int32) else mLast ar j) = vLast k (ar 3 j) := by
  rcases dat_eq hk h with ⟨h1, h2, h3⟩ | ⟨h1, h2⟩
  · rw [if_neg h2, h3]
  · rw [if_pos h2, vLast_no h1]
theorem vMark_no {k : Nat} {fr am le po n : Int32} (h : k < 5) : vMark k fr am le po n = -3 := by
  rcases (by omega : k = 0 ∨ k = 1 ∨ k = 2 ∨ k = 3 ∨ k = 4) with rfl | rfl | rfl | rfl | rfl <;> rfl
theorem vMark_is {k : Nat} {fr am le po n : Int32} (hk : k ≤ 7) (h : 5 ≤ k) : vMark k fr am le po n = vSeal k fr am le po * 7 + n := by
  rcases (by omega : k = 5 ∨ k = 6 ∨ k = 7) with rfl | rfl | rfl <;> rfl
theorem mark_eq {ar : Nat → Nat → Int32} {j k : Nat} (hk : k ≤ 7) (h : ar 0 j = nI k) (n : Int32) : (if ar 0 j < 5 then (-3 : Int32) else mSeal ar j * 7 + n) = vMark k (ar 3 j) (ar 1 j) (ar 2 j) (ar 4 j) n := by
  rcases Nat.lt_or_ge k 5 with q | q
  · rw [if_pos (by rw [h]; exact nI_lt (b := 5) q (by decide)), vMark_no q]
  · rw [if_neg (by rw [h]; exact nI_nlt (b := 5) q (by omega)), vMark_is hk q, seal_eq hk h]
theorem pts_eq {ar : Nat → Nat → Int32} {j k : Nat} (hv : vInv ar j k) : ar 4 j = vPts k (ar 4 j) := by
  obtain ⟨hk, h, L, P, M, S, e2, e4, e1, e5, hs, hM, hS, h6⟩ := hv
  rcases Nat.lt_or_ge k 6 with q | q
  · have hP := h6 q
    subst hP
    rw [e4]
    rcases (by omega : k = 0 ∨ k = 1 ∨ k = 2 ∨ k = 3 ∨ k = 4 ∨ k = 5) with rfl | rfl | rfl | rfl | rfl | rfl <;> rfl
  · rcases (by omega : k = 6 ∨ k = 7) with rfl | rfl <;> rfl
theorem g_nat {g : Int32} {hi : Nat} (hh : hi < 2 ^ 31) (h1 : ¬ g < 1) (h2 : ¬ nI hi < g) : ∃ G : Nat, 1 ≤ G ∧ G ≤ hi ∧ g = nI G := by
  have h0 : ¬ g < 0 := fun z => h1 (Int32.lt_trans z (by decide))
  obtain ⟨G, hG, rfl⟩ := nI_of h0
  refine ⟨G, ?_, ?_, rfl⟩
  · rcases Nat.eq_zero_or_pos G with q | q
    · subst q
      exact absurd (by decide) h1
    · exact q
  · rcases Nat.lt_or_ge hi G with q | q
    · exact absurd (nI_lt q hG) h2
    · exact q
theorem fee_nat {G : Nat} (h : G ≤ 100000) : nI G / 50 + 1 = nI (G / 50 + 1) := by
  rw [show (50 : Int32) = nI 50 from rfl, pk_div (by omega) (by decide) (by decide), nI_1]
theorem fee_eq {ar : Nat → Nat → Int32} {j k G : Nat} (hv : vInv ar j k) (hG : G ≤ 100000) : mFee ar j (nI G) = vFee k (ar 4 j) (nI G) ∧ ∃ F : Nat, F ≤ 2001 ∧ vFee k (ar 4 j) (nI G) = nI F := by
  obtain ⟨hk, h, L, P, M, S, e2, e4, e1, e5, hs, hM, hS, h6⟩ := hv
  have hF := fee_nat hG
  have hb : G / 50 + 1 ≤ 2001 := by omega
  rcases k_cases hk with rfl | rfl | rfl | rfl | rfl | rfl | rfl | rfl
  · have h0 : ar 0 j = 0 := h
    exact ⟨by simp only [mFee, h0, vFee, if_neg (by decide : ¬ (0 : Int32) = 3), if_neg (by decide : ¬ (0 : Int32) = 7)], _, hb, hF⟩
  · have h0 : ar 0 j = 1 := h
    exact ⟨by simp only [mFee, h0, vFee, if_neg (by decide : ¬ (1 : Int32) = 3), if_neg (by decide : ¬ (1 : Int32) = 7)], _, hb, hF⟩
  · have h0 : ar 0 j = 2 := h
    exact ⟨by simp only [mFee, h0, vFee, if_neg (by decide : ¬ (2 : Int32) = 3), if_neg (by decide : ¬ (2 : Int32) = 7)], _, hb, hF⟩
  · have h0 : ar 0 j = 3 := h
    refine ⟨by simp only [mFee, h0, vFee, if_pos], (G / 50 + 1) / 2, by omega, ?_⟩
    show (nI G / 50 + 1) / 2 = _
    rw [hF, show (2 : Int32) = nI 2 from rfl, pk_div (by omega) (by decide) (by decide)]
  · have h0 : ar 0 j = 4 := h
    exact ⟨by simp only [mFee, h0, vFee, if_neg (by decide : ¬ (4 : Int32) = 3), if_neg (by decide : ¬ (4 : Int32) = 7)], _, hb, hF⟩
  · have h0 : ar 0 j = 5 := h
    exact ⟨by simp only [mFee, h0, vFee, if_neg (by decide : ¬ (5 : Int32) = 3), if_neg (by decide : ¬ (5 : Int32) = 7)], _, hb, hF⟩
  · have h0 : ar 0 j = 6 := h
    exact ⟨by simp only [mFee, h0, vFee, if_neg (by decide : ¬ (6 : Int32) = 3), if_neg (by decide : ¬ (6 : Int32) = 7)], _, hb, hF⟩
  · have h0 : ar 0 j = 7 := h
    simp only [mFee, h0, vFee, if_neg (by decide : ¬ (7 : Int32) = 3), if_pos, hF, e4]
    rcases Nat.lt_or_ge P (G / 50 + 1) with q | q
    · have c1 : ¬ nI (G / 50 + 1) ≤ nI P := nI_ge q (by omega)
      have e : nI (G / 50 + 1) - nI P = nI (G / 50 + 1 - P) := pk_sub (by omega)
      have c2 : (0 : Int32) < nI (G / 50 + 1) - nI P := by rw [e]; exact nI_lt (a := 0) (by omega) (by omega)
      rw [if_neg c1, if_pos c2]
      exact ⟨rfl, _, by omega, e⟩
    · have c1 : nI (G / 50 + 1) ≤ nI P := nI_le q (by omega)
      have c2 : ¬ (0 : Int32) < nI (G / 50 + 1) - nI P := by
        rcases Nat.eq_or_lt_of_le q with z | z
        · rw [z, Int32.sub_self]; decide
        · exact fun w => absurd (pk_sneg (by omega) z) (fun y => absurd (Int32.lt_trans w y) (by decide))
      rw [if_pos c1, if_neg c2]
      exact ⟨rfl, 0, by omega, rfl⟩
end
section
def of_o (sc : Nat → Int32) (ha : Nat) : va_E := .inr (8, [.ref ha, .int (sc 1), .int (sc 0), .int (sc 2), .int (sc 3), .int (sc 4), .int (sc 5)])
def of_r (cP : ClassId) (row : Nat → Option Nat) : va_E := .inl (cP, 40, .inr (.inr (.inr (.inr row))))
/-- the cell of the voucher v -/
def ofE (ar : Nat → Nat → Int32) (v : Nat) : va_E := vo_E (mI (ar 0 v)) (ar 0 v) (ar 3 v) (ar 1 v) (ar 2 v) (ar 4 v) (ar 5 v - 1)
def of_v (ws : va_W) (row : Nat → Option Nat) (pv : Nat → Nat) (ar : Nat → Nat → Int32) (n v : Nat) : Prop := ((v < n ∧ ar 6 v = 0) ∧ ∃ a, row v = some a ∧ ws[pv v]? = some (a, ofE ar v)) ∨ (¬ (v < n ∧ ar 6 v = 0) ∧ row v = none)
/-- the office stands in the world ws -/
def of_at (cP : ClassId) (ws : va_W) (h p0 p1 ha : Nat) (row : Nat → Option Nat) (pv : Nat → Nat) (sc : Nat → Int32) (ar : Nat → Nat → Int32) (n : Nat) : Prop :=
  ws[p0]? = some (h, of_o sc ha) ∧ ws[p1]? = some (ha, of_r cP row) ∧ (∀ v, v < 40 → of_v ws row pv ar n v) ∧ ∀ v w a, v < 40 → w < 40 → row v = some a → row w = some a → v = w
def of_fr (ws w : va_W) : Prop := ∀ (i : Nat) (a : Nat) (e : va_E), ws[i]? = some (a, e) → isM e → w[i]? = some (a, e)
theorem of_fr_rf (ws : va_W) : of_fr ws ws := fun _ _ _ h _ => h
theorem of_fr_tr {w0 w1 w2 : va_W} (h1 : of_fr w0 w1) (h2 : of_fr w1 w2) : of_fr w0 w2 := fun i a e h hn => h2 i a e (h1 i a e h hn) hn
theorem of_fr_set {ws : va_W} {q : Nat} {a0 : Nat} {e0 : va_E} {y : Nat × va_E} (h : ws[q]? = some (a0, e0)) (hM : ¬ isM e0) : of_fr ws (ws.set q y) := fun i a e hi hn => by
  refine st_other ?_ hi
  intro hq
  subst hq
  cases h.symm.trans hi
  exact hM hn
theorem of_fr_app (ws : va_W) (x : Nat × va_E) : of_fr ws (ws ++ [x]) := fun i a e hi _ => by
  rw [List.getElem?_append_left (List.getElem?_eq_some_iff.mp hi).1]
  exact hi
theorem vo_num (k : Nat) (kd fr am le po ls : Int32) : ∃ (ci : Nat) (fs : List Value), vo_E k kd fr am le po ls = .inr (ci, fs) ∧ ci < 8 := by
  match k with
  | 0 => exact ⟨_, _, rfl, by decide⟩
  | 1 => exact ⟨_, _, rfl, by decide⟩
  | 2 => exact ⟨_, _, rfl, by decide⟩
  | 3 => exact ⟨_, _, rfl, by decide⟩
  | 4 => exact ⟨_, _, rfl, by decide⟩
  | 5 => exact ⟨_, _, rfl, by decide⟩
  | 6 => exact ⟨_, _, rfl, by decide⟩
  | n + 7 => exact ⟨_, _, rfl, by decide⟩
theorem vo_nM (k : Nat) (kd fr am le po ls : Int32) : ¬ isM (vo_E k kd fr am le po ls) := fun h => by
  obtain ⟨ci, fs, e, hc⟩ := vo_num k kd fr am le po ls
  rw [e] at h
  have h : ci = 9 := h
  omega
theorem vo_no {k : Nat} {kd fr am le po ls : Int32} {sc : Nat → Int32} {ha : Nat} : vo_E k kd fr am le po ls ≠ of_o sc ha := fun h => by
  obtain ⟨ci, fs, e, hc⟩ := vo_num k kd fr am le po ls
  rw [e] at h
  have h1 := (Prod.mk.inj (Sum.inr.inj h)).1
  omega
theorem vo_nr {k : Nat} {kd fr am le po ls : Int32} {cP : ClassId} {row : Nat → Option Nat} : vo_E k kd fr am le po ls ≠ of_r cP row := fun h => by
  obtain ⟨ci, fs, e, hc⟩ := vo_num k kd fr am le po ls
  rw [e] at h
  cases h
theorem pl_ne {ws : va_W} {i j a b : Nat} {x y : va_E} (hi : ws[i]? = some (a, x)) (hj : ws[j]? = some (b, y)) (hne : x ≠ y) : i ≠ j := fun h => by
  subst h
  cases hi.symm.trans hj
  exact hne rfl
theorem pl_na {ws : va_W} {i j a b : Nat} {x y : va_E} (hi : ws[i]? = some (a, x)) (hj : ws[j]? = some (b, y)) (hne : a ≠ b) : i ≠ j := fun h => by
  subst h
  cases hi.symm.trans hj
  exact hne rfl
theorem oo_rr {sc : Nat → Int32} {ha : Nat} {cP : ClassId} {row : Nat → Option Nat} : of_o sc ha ≠ of_r cP row := fun h => by cases h
section OA
variable {cP : ClassId} {ws : va_W} {h p0 p1 ha n : Nat} {row : Nat → Option Nat} {pv : Nat → Nat} {sc : Nat → Int32} {ar : Nat → Nat → Int32}
theorem of_at.get (H : of_at cP ws h p0 p1 ha row pv sc ar n) {v : Nat} (hv : v < 40) {a : Nat} (hr : row v = some a) : (v < n ∧ ar 6 v = 0) ∧ ws[pv v]? = some (a, ofE ar v) := by
  rcases H.2.2.1 v hv with ⟨h1, b, h2, h3⟩ | ⟨h1, h2⟩
  · cases hr.symm.trans h2
    exact ⟨h1, h3⟩
  · rw [h2] at hr
    cases hr
/-- a field of the office is written -/
theorem of_at.put (H : of_at cP ws h p0 p1 ha row pv sc ar n) (sc' : Nat → Int32) : of_at cP (ws.set p0 (h, of_o sc' ha)) h p0 p1 ha row pv sc' ar n := by
  obtain ⟨h0, h1, h2, h3⟩ := id H
  refine ⟨st_same h0, st_other (pl_ne h0 h1 oo_rr) h1, fun v hv => ?_, h3⟩
  rcases h2 v hv with ⟨g1, a, g2, g3⟩ | g
  · exact Or.inl ⟨g1, a, g2, st_other (pl_ne h0 g3 vo_no.symm) g3⟩
  · exact Or.inr g
/-- a voucher is written -/
theorem of_at.setV (H : of_at cP ws h p0 p1 ha row pv sc ar n) {j a : Nat} (hj : j < 40) (hr : row j = some a) (ar' : Nat → Nat → Int32) (h6 : ∀ v, ar' 6 v = ar 6 v) (ho : ∀ v, v ≠ j → ofE ar' v = ofE ar v) {e : va_E} (he : e = ofE ar' j) : of_at cP (ws.set (pv j) (a, e)) h p0 p1 ha row pv sc ar' n := by
  subst he
  obtain ⟨h0, h1, h2, h3⟩ := id H
  obtain ⟨g1, g2⟩ := H.get hj hr
  refine ⟨st_other (pl_ne g2 h0 vo_no) h0, st_other (pl_ne g2 h1 vo_nr) h1, fun v hv => ?_, h3⟩
  by_cases hvj : v = j
  · subst hvj
    exact Or.inl ⟨by rw [h6]; exact g1, a, hr, st_same g2⟩
  · rcases h2 v hv with ⟨f1, b, f2, f3⟩ | f
    · refine Or.inl ⟨by rw [h6]; exact f1, b, f2, ?_⟩
      rw [ho v hvj]
      exact st_other (pl_na g2 f3 (fun z => hvj (h3 v j b hv hj f2 (by rw [hr, z])))) f3
    · exact Or.inr (by rw [h6]; exact f)
/-- a voucher is gone -/
theorem of_at.drop (H : of_at cP ws h p0 p1 ha row pv sc ar n) {j : Nat} (ar' : Nat → Nat → Int32) (h6 : ∀ v, v ≠ j → ar' 6 v = ar 6 v) (h6j : ¬ ar' 6 j = 0) (ho : ∀ v, v ≠ j → ofE ar' v = ofE ar v) : of_at cP (ws.set p1 (ha, of_r cP (va_up row j none))) h p0 p1 ha (va_up row j none) pv sc ar' n := by
  obtain ⟨h0, h1, h2, h3⟩ := id H
  refine ⟨st_other (pl_ne h1 h0 oo_rr.symm) h0, st_same h1, fun v hv => ?_, fun v w a hv hw e1 e2 => ?_⟩
  · by_cases hvj : v = j
    · subst hvj
      exact Or.inr ⟨fun z => h6j z.2, by simp [va_up]⟩
    · rcases h2 v hv with ⟨f1, b, f2, f3⟩ | f
      · refine Or.inl ⟨by rw [h6 v hvj]; exact f1, b, by simp only [va_up, if_neg hvj]; exact f2, ?_⟩
        rw [ho v hvj]
        exact st_other (pl_ne h1 f3 vo_nr.symm) f3
      · exact Or.inr ⟨by rw [h6 v hvj]; exact f.1, by simp only [va_up, if_neg hvj]; exact f.2⟩
  · by_cases hvj : v = j
    · subst hvj; simp [va_up] at e1
    · by_cases hwj : w = j
      · subst hwj; simp [va_up] at e2
      · simp only [va_up, if_neg hvj] at e1
        simp only [va_up, if_neg hwj] at e2
        exact h3 v w a hv hw e1 e2
/-- a voucher comes: its cell is the last one, the row holds it at n -/
theorem of_at.add (H : of_at cP ws h p0 p1 ha row pv sc ar n) (hn : n < 40) {a : Nat} {e : va_E} (ar' : Nat → Nat → Int32) (h6 : ∀ v, ar' 6 v = ar 6 v) (h6n : ar' 6 n = 0) (ho : ∀ v, v ≠ n → ofE ar' v = ofE ar v) (he : e = ofE ar' n) (hfresh : ∀ v, v < 40 → row v ≠ some a) : of_at cP ((ws ++ [(a, e)]).set p1 (ha, of_r cP (va_up row n (some a)))) h p0 p1 ha (va_up row n (some a)) (va_up pv n ws.length) sc ar' (n + 1) := by
  subst he
  obtain ⟨h0, h1, h2, h3⟩ := id H
  have up : ∀ {i : Nat} {x : Nat × va_E}, ws[i]? = some x → (ws ++ [(a, ofE ar' n)])[i]? = some x := fun {i x} hi => by
    rw [List.getElem?_append_left (List.getElem?_eq_some_iff.mp hi).1]; exact hi
  have new : (ws ++ [(a, ofE ar' n)])[ws.length]? = some (a, ofE ar' n) := by simp
  refine ⟨st_other (pl_ne h1 h0 oo_rr.symm) (up h0), st_same (up h1), fun v hv => ?_, fun v w b hv hw e1 e2 => ?_⟩
  · by_cases hvn : v = n
    · subst hvn
      refine Or.inl ⟨⟨by omega, h6n⟩, a, by simp [va_up], ?_⟩
      have e9 : va_up pv v ws.length v = ws.length := by simp [va_up]
      rw [e9]
      exact st_other (pl_ne (up h1) new vo_nr.symm) new
    · have e9 : va_up pv n ws.length v = pv v := by simp only [va_up, if_neg hvn]
      rcases h2 v hv with ⟨f1, b, f2, f3⟩ | f
      · refine Or.inl ⟨by rw [h6]; exact ⟨by omega, f1.2⟩, b, by simp only [va_up, if_neg hvn]; exact f2, ?_⟩
        rw [ho v hvn, e9]
        exact st_other (pl_ne h1 f3 vo_nr.symm) (up f3)
      · exact Or.inr ⟨by rw [h6]; exact fun z => f.1 ⟨by omega, z.2⟩, by simp only [va_up, if_neg hvn]; exact f.2⟩
  · by_cases hvn : v = n
    · by_cases hwn : w = n
      · rw [hvn, hwn]
      · subst hvn
        simp only [va_up, if_pos] at e1
        simp only [va_up, if_neg hwn] at e2
        cases e1
        exact absurd e2 (hfresh w hw)
    · by_cases hwn : w = n
      · subst hwn
        simp only [va_up, if_neg hvn] at e1
        simp only [va_up, if_pos] at e2
        cases e2
        exact absurd e1 (hfresh v hv)
      · simp only [va_up, if_neg hvn] at e1
        simp only [va_up, if_neg hwn] at e2
        exact h3 v w b hv hw e1 e2
end OA
section OG
variable {p : Program} {l : Launch} {e : Env} {R : Room} {s : State} {m : MethodId} {args : Array Value} {below : List Frame} {meth : Method} {c : Code} {H : Heap} {locs : List Loc} {cells slots : Nat} {Q : State → Prop}
variable {pc : Nat} {L : Array Slot} {rest : List Value} {A : Nat → Prop} {H0 : Heap} {D : va_G} {cI cZ cP : ClassId} {ws ws0 : va_W} {own : String} {cc : ByteArray} {nL idx h p0 ha : Nat} {rt0 : Option FieldType} {sc : Nat → Int32}
theorem of_gV (X : Cx p m c meth s args own cc nL rt0 D (vTy cI cZ cP)) (hP : va_P D vwCl ws H) (ho : ws[p0]? = some (h, of_o sc ha)) (hlink : Cond.fieldLink own idx "VoucherOffice" "vouchers" "[LVoucherOffice$Plain;" ∈ wd_big) (hdg : decode cc pc = .ok (.getfield idx, 3)) (kk : W p l e R s m args below meth c H locs cells slots Q (F0 m (pc + 3) L (.ref ha :: rest))) : W p l e R s m args below meth c H locs cells slots Q (F0 m pc L (.ref h :: rest)) := by
  obtain ⟨hx, hb, hr, hml, hown, hts, hK, hlk, hxK⟩ := X
  exact va_get (ci := 8) (C := RX8) (T := TX8) (N := 7) hx hb hts in_X8 hown hK hP p0 ho rfl 0 (by decide) (hts _ hlink) (fun _ h9 => h9) rfl hdg kk
theorem of_g1 (X : Cx p m c meth s args own cc nL rt0 D (vTy cI cZ cP)) (hP : va_P D vwCl ws H) (ho : ws[p0]? = some (h, of_o sc ha)) (hlink : Cond.fieldLink own idx "VoucherOffice" "issued" "I" ∈ wd_big) (hdg : decode cc pc = .ok (.getfield idx, 3)) (kk : W p l e R s m args below meth c H locs cells slots Q (F0 m (pc + 3) L (.int (sc 1) :: rest))) : W p l e R s m args below meth c H locs cells slots Q (F0 m pc L (.ref h :: rest)) := by
  obtain ⟨hx, hb, hr, hml, hown, hts, hK, hlk, hxK⟩ := X
  exact va_get (ci := 8) (C := RX8) (T := TX8) (N := 7) hx hb hts in_X8 hown hK hP p0 ho rfl 1 (by decide) (hts _ hlink) (fun _ h9 => h9) rfl hdg kk
theorem of_p1 (X : Cx p m c meth s args own cc nL rt0 D (vTy cI cZ cP)) (hP : va_P D vwCl ws H) (hD : va_D A ws) (hS : va_S A H0 H locs) (ho : ws[p0]? = some (h, of_o sc ha)) (hlink : Cond.fieldLink own idx "VoucherOffice" "issued" "I" ∈ wd_big) (hdg : decode cc pc = .ok (.putfield idx, 3)) {x : Int32} (kk : ∀ (H1 : Heap) (locs1 : List Loc), va_P D vwCl (ws.set p0 (h, of_o (va_up sc 1 x) ha)) H1 → va_D A (ws.set p0 (h, of_o (va_up sc 1 x) ha)) → va_S A H0 H1 locs1 → W p l e R s m args below meth c H1 locs1 cells slots Q (F0 m (pc + 3) L rest)) : W p l e R s m args below meth c H locs cells slots Q (F0 m pc L (.int x :: .ref h :: rest)) := by
  obtain ⟨hx, hb, hr, hml, hown, hts, hK, hlk, hxK⟩ := X
  exact va_put (ci := 8) (v := .int x) (ty := .int) (C := RX8) (T := TX8) (N := 7) hx hb hts in_X8 tyX8 tyX8_ok nmX8 hown hK hP hD hS p0 ho rfl 1 (by decide) (hts _ hlink) (fun _ h9 => h9) rfl (by decide +kernel) rfl rfl (Nat.le_of_ble_eq_true rfl) hdg kk
theorem of_g0 (X : Cx p m c meth s args own cc nL rt0 D (vTy cI cZ cP)) (hP : va_P D vwCl ws H) (ho : ws[p0]? = some (h, of_o sc ha)) (hlink : Cond.fieldLink own idx "VoucherOffice" "today" "I" ∈ wd_big) (hdg : decode cc pc = .ok (.getfield idx, 3)) (kk : W p l e R s m args below meth c H locs cells slots Q (F0 m (pc + 3) L (.int (sc 0) :: rest))) : W p l e R s m args below meth c H locs cells slots Q (F0 m pc L (.ref h :: rest)) := by
  obtain ⟨hx, hb, hr, hml, hown, hts, hK, hlk, hxK⟩ := X
  exact va_get (ci := 8) (C := RX8) (T := TX8) (N := 7) hx hb hts in_X8 hown hK hP p0 ho rfl 2 (by decide) (hts _ hlink) (fun _ h9 => h9) rfl hdg kk
theorem of_p0 (X : Cx p m c meth s args own cc nL rt0 D (vTy cI cZ cP)) (hP : va_P D vwCl ws H) (hD : va_D A ws) (hS : va_S A H0 H locs) (ho : ws[p0]? = some (h, of_o sc ha)) (hlink : Cond.fieldLink own idx "VoucherOffice" "today" "I" ∈ wd_big) (hdg : decode cc pc = .ok (.putfield idx, 3)) {x : Int32} (kk : ∀ (H1 : Heap) (locs1 : List Loc), va_P D vwCl (ws.set p0 (h, of_o (va_up sc 0 x) ha)) H1 → va_D A (ws.set p0 (h, of_o (va_up sc 0 x) ha)) → va_S A H0 H1 locs1 → W p l e R s m args below meth c H1 locs1 cells slots Q (F0 m (pc + 3) L rest)) : W p l e R s m args below meth c H locs cells slots Q (F0 m pc L (.int x :: .ref h :: rest)) := by
  obtain ⟨hx, hb, hr, hml, hown, hts, hK, hlk, hxK⟩ := X
  exact va_put (ci := 8) (v := .int x) (ty := .int) (C := RX8) (T := TX8) (N := 7) hx hb hts in_X8 tyX8 tyX8_ok nmX8 hown hK hP hD hS p0 ho rfl 2 (by decide) (hts _ hlink) (fun _ h9 => h9) rfl (by decide +kernel) rfl rfl (Nat.le_of_ble_eq_true rfl) hdg kk
theorem of_g2 (X : Cx p m c meth s args own cc nL rt0 D (vTy cI cZ cP)) (hP : va_P D vwCl ws H) (ho : ws[p0]? = some (h, of_o sc ha)) (hlink : Cond.fieldLink own idx "VoucherOffice" "issuedAmounts" "I" ∈ wd_big) (hdg : decode cc pc = .ok (.getfield idx, 3)) (kk : W p l e R s m args below meth c H locs cells slots Q (F0 m (pc + 3) L (.int (sc 2) :: rest))) : W p l e R s m args below meth c H locs cells slots Q (F0 m pc L (.ref h :: rest)) := by
  obtain ⟨hx, hb, hr, hml, hown, hts, hK, hlk, hxK⟩ := X
  exact va_get (ci := 8) (C := RX8) (T := TX8) (N := 7) hx hb hts in_X8 hown hK hP p0 ho rfl 3 (by decide) (hts _ hlink) (fun _ h9 => h9) rfl hdg kk
theorem of_p2 (X : Cx p m c meth s args own cc nL rt0 D (vTy cI cZ cP)) (hP : va_P D vwCl ws H) (hD : va_D A ws) (hS : va_S A H0 H locs) (ho : ws[p0]? = some (h, of_o sc ha)) (hlink : Cond.fieldLink own idx "VoucherOffice" "issuedAmounts" "I" ∈ wd_big) (hdg : decode cc pc = .ok (.putfield idx, 3)) {x : Int32} (kk : ∀ (H1 : Heap) (locs1 : List Loc), va_P D vwCl (ws.set p0 (h, of_o (va_up sc 2 x) ha)) H1 → va_D A (ws.set p0 (h, of_o (va_up sc 2 x) ha)) → va_S A H0 H1 locs1 → W p l e R s m args below meth c H1 locs1 cells slots Q (F0 m (pc + 3) L rest)) : W p l e R s m args below meth c H locs cells slots Q (F0 m pc L (.int x :: .ref h :: rest)) := by
  obtain ⟨hx, hb, hr, hml, hown, hts, hK, hlk, hxK⟩ := X
  exact va_put (ci := 8) (v := .int x) (ty := .int) (C := RX8) (T := TX8) (N := 7) hx hb hts in_X8 tyX8 tyX8_ok nmX8 hown hK hP hD hS p0 ho rfl 3 (by decide) (hts _ hlink) (fun _ h9 => h9) rfl (by decide +kernel) rfl rfl (Nat.le_of_ble_eq_true rfl) hdg kk
theorem of_g3 (X : Cx p m c meth s args own cc nL rt0 D (vTy cI cZ cP)) (hP : va_P D vwCl ws H) (ho : ws[p0]? = some (h, of_o sc ha)) (hlink : Cond.fieldLink own idx "VoucherOffice" "spentTogether" "I" ∈ wd_big) (hdg : decode cc pc = .ok (.getfield idx, 3)) (kk : W p l e R s m args below meth c H locs cells slots Q (F0 m (pc + 3) L (.int (sc 3) :: rest))) : W p l e R s m args below meth c H locs cells slots Q (F0 m pc L (.ref h :: rest)) := by
  obtain ⟨hx, hb, hr, hml, hown, hts, hK, hlk, hxK⟩ := X
  exact va_get (ci := 8) (C := RX8) (T := TX8) (N := 7) hx hb hts in_X8 hown hK hP p0 ho rfl 4 (by decide) (hts _ hlink) (fun _ h9 => h9) rfl hdg kk
theorem of_p3 (X : Cx p m c meth s args own cc nL rt0 D (vTy cI cZ cP)) (hP : va_P D vwCl ws H) (hD : va_D A ws) (hS : va_S A H0 H locs) (ho : ws[p0]? = some (h, of_o sc ha)) (hlink : Cond.fieldLink own idx "VoucherOffice" "spentTogether" "I" ∈ wd_big) (hdg : decode cc pc = .ok (.putfield idx, 3)) {x : Int32} (kk : ∀ (H1 : Heap) (locs1 : List Loc), va_P D vwCl (ws.set p0 (h, of_o (va_up sc 3 x) ha)) H1 → va_D A (ws.set p0 (h, of_o (va_up sc 3 x) ha)) → va_S A H0 H1 locs1 → W p l e R s m args below meth c H1 locs1 cells slots Q (F0 m (pc + 3) L rest)) : W p l e R s m args below meth c H locs cells slots Q (F0 m pc L (.int x :: .ref h :: rest)) := by
  obtain ⟨hx, hb, hr, hml, hown, hts, hK, hlk, hxK⟩ := X
  exact va_put (ci := 8) (v := .int x) (ty := .int) (C := RX8) (T := TX8) (N := 7) hx hb hts in_X8 tyX8 tyX8_ok nmX8 hown hK hP hD hS p0 ho rfl 4 (by decide) (hts _ hlink) (fun _ h9 => h9) rfl (by decide +kernel) rfl rfl (Nat.le_of_ble_eq_true rfl) hdg kk
theorem of_g4 (X : Cx p m c meth s args own cc nL rt0 D (vTy cI cZ cP)) (hP : va_P D vwCl ws H) (ho : ws[p0]? = some (h, of_o sc ha)) (hlink : Cond.fieldLink own idx "VoucherOffice" "feesTogether" "I" ∈ wd_big) (hdg : decode cc pc = .ok (.getfield idx, 3)) (kk : W p l e R s m args below meth c H locs cells slots Q (F0 m (pc + 3) L (.int (sc 4) :: rest))) : W p l e R s m args below meth c H locs cells slots Q (F0 m pc L (.ref h :: rest)) := by
  obtain ⟨hx, hb, hr, hml, hown, hts, hK, hlk, hxK⟩ := X
  exact va_get (ci := 8) (C := RX8) (T := TX8) (N := 7) hx hb hts in_X8 hown hK hP p0 ho rfl 5 (by decide) (hts _ hlink) (fun _ h9 => h9) rfl hdg kk
theorem of_p4 (X : Cx p m c meth s args own cc nL rt0 D (vTy cI cZ cP)) (hP : va_P D vwCl ws H) (hD : va_D A ws) (hS : va_S A H0 H locs) (ho : ws[p0]? = some (h, of_o sc ha)) (hlink : Cond.fieldLink own idx "VoucherOffice" "feesTogether" "I" ∈ wd_big) (hdg : decode cc pc = .ok (.putfield idx, 3)) {x : Int32} (kk : ∀ (H1 : Heap) (locs1 : List Loc), va_P D vwCl (ws.set p0 (h, of_o (va_up sc 4 x) ha)) H1 → va_D A (ws.set p0 (h, of_o (va_up sc 4 x) ha)) → va_S A H0 H1 locs1 → W p l e R s m args below meth c H1 locs1 cells slots Q (F0 m (pc + 3) L rest)) : W p l e R s m args below meth c H locs cells slots Q (F0 m pc L (.int x :: .ref h :: rest)) := by
  obtain ⟨hx, hb, hr, hml, hown, hts, hK, hlk, hxK⟩ := X
  exact va_put (ci := 8) (v := .int x) (ty := .int) (C := RX8) (T := TX8) (N := 7) hx hb hts in_X8 tyX8 tyX8_ok nmX8 hown hK hP hD hS p0 ho rfl 5 (by decide) (hts _ hlink) (fun _ h9 => h9) rfl (by decide +kernel) rfl rfl (Nat.le_of_ble_eq_true rfl) hdg kk
theorem of_g5 (X : Cx p m c meth s args own cc nL rt0 D (vTy cI cZ cP)) (hP : va_P D vwCl ws H) (ho : ws[p0]? = some (h, of_o sc ha)) (hlink : Cond.fieldLink own idx "VoucherOffice" "lapsedTogether" "I" ∈ wd_big) (hdg : decode cc pc = .ok (.getfield idx, 3)) (kk : W p l e R s m args below meth c H locs cells slots Q (F0 m (pc + 3) L (.int (sc 5) :: rest))) : W p l e R s m args below meth c H locs cells slots Q (F0 m pc L (.ref h :: rest)) := by
  obtain ⟨hx, hb, hr, hml, hown, hts, hK, hlk, hxK⟩ := X
  exact va_get (ci := 8) (C := RX8) (T := TX8) (N := 7) hx hb hts in_X8 hown hK hP p0 ho rfl 6 (by decide) (hts _ hlink) (fun _ h9 => h9) rfl hdg kk
theorem of_p5 (X : Cx p m c meth s args own cc nL rt0 D (vTy cI cZ cP)) (hP : va_P D vwCl ws H) (hD : va_D A ws) (hS : va_S A H0 H locs) (ho : ws[p0]? = some (h, of_o sc ha)) (hlink : Cond.fieldLink own idx "VoucherOffice" "lapsedTogether" "I" ∈ wd_big) (hdg : decode cc pc = .ok (.putfield idx, 3)) {x : Int32} (kk : ∀ (H1 : Heap) (locs1 : List Loc), va_P D vwCl (ws.set p0 (h, of_o (va_up sc 5 x) ha)) H1 → va_D A (ws.set p0 (h, of_o (va_up sc 5 x) ha)) → va_S A H0 H1 locs1 → W p l e R s m args below meth c H1 locs1 cells slots Q (F0 m (pc + 3) L rest)) : W p l e R s m args below meth c H locs cells slots Q (F0 m pc L (.int x :: .ref h :: rest)) := by
  obtain ⟨hx, hb, hr, hml, hown, hts, hK, hlk, hxK⟩ := X
  exact va_put (ci := 8) (v := .int x) (ty := .int) (C := RX8) (T := TX8) (N := 7) hx hb hts in_X8 tyX8 tyX8_ok nmX8 hown hK hP hD hS p0 ho rfl 6 (by decide) (hts _ hlink) (fun _ h9 => h9) rfl (by decide +kernel) rfl rfl (Nat.le_of_ble_eq_true rfl) hdg kk
end OG
end
section
def mOut (v lo hi : Int32) : Int32 := if mWin v lo hi = 0 then 1 else 0
theorem out_0 {v lo hi : Int32} (h : mOut v lo hi = 0) : ¬ mWin v lo hi = 0 := fun z => by
  rw [mOut, if_pos z] at h
  exact absurd h (by decide)
theorem out_1 {v lo hi : Int32} (h : ¬ mOut v lo hi = 0) : mWin v lo hi = 0 := by
  by_cases z : mWin v lo hi = 0
  · exact z
  · exact absurd (if_neg z) h
theorem win_nI {j hi : Nat} (h : hi < 2 ^ 31) (hj : j ≤ hi) : ¬ mWin (nI j) 0 (nI hi) = 0 := by
  rw [mWin, if_neg (nI_pos (by omega)), if_neg (nI_nlt hj h)]
  decide
theorem the_nI {sc : Nat → Int32} {ar : Nat → Nat → Int32} {j n : Nat} (hn : sc 1 = nI n) (h40 : n ≤ 40) (hj : j < n) (h6 : ar 6 j = 0) : ¬ mThe sc ar (nI j) = 0 := by
  obtain ⟨m, rfl⟩ : ∃ m, n = m + 1 := ⟨n - 1, by omega⟩
  rw [mThe, hn, nI_pred, if_neg (win_nI (by omega) (by omega)), show mI (nI j) = j from nI_clamp (by omega), if_pos h6]
  decide
theorem the_no {sc : Nat → Int32} {ar : Nat → Nat → Int32} {j n : Nat} (hn : sc 1 = nI n) (h40 : n ≤ 40) (hj : j < 2 ^ 31) (h : ¬ (j < n ∧ ar 6 j = 0)) : mThe sc ar (nI j) = 0 := by
  by_cases z : mThe sc ar (nI j) = 0
  · exact z
  · obtain ⟨i, hi, e, h6⟩ := the_in hn h40 z
    have : j = i := (nI_eq hj (by omega)).mp e
    subst this
    exact absurd ⟨hi, h6⟩ h
theorem the_out {sc : Nat → Int32} {ar : Nat → Nat → Int32} {v : Int32} {n : Nat} (hn : sc 1 = nI n) (h40 : n ≤ 40) (h : mWin v 0 39 = 0) : mThe sc ar v = 0 := by
  by_cases z : mThe sc ar v = 0
  · exact z
  · obtain ⟨i, hi, rfl, h6⟩ := the_in hn h40 z
    exact absurd h (win_nI (hi := 39) (by decide) (by omega))
theorem in_40 {v : Int32} (h : ¬ mWin v 0 39 = 0) : ∃ j : Nat, j < 40 ∧ v = nI j := by
  obtain ⟨h1, h2⟩ := win_ii h
  obtain ⟨j, hj, rfl⟩ := nI_of h1
  refine ⟨j, ?_, rfl⟩
  rcases Nat.lt_or_ge 39 j with q | q
  · exact absurd (nI_lt q hj) h2
  · omega
theorem fee_w {ar : Nat → Nat → Int32} {j k : Nat} {g : Int32} (hv : vInv ar j k) (hw : ¬ mWin g 1 100000 = 0) : mFee ar j g = vFee k (ar 4 j) g ∧ ∃ G F : Nat, 1 ≤ G ∧ G ≤ 100000 ∧ g = nI G ∧ F ≤ 2001 ∧ vFee k (ar 4 j) g = nI F := by
  obtain ⟨h1, h2⟩ := win_ii hw
  obtain ⟨G, g1, g2, rfl⟩ := g_nat (hi := 100000) (by decide) h1 h2
  obtain ⟨e1, F, f1, f2⟩ := fee_eq hv g2
  exact ⟨e1, G, F, g1, g2, rfl, f1, f2⟩
theorem mS_at (ar : Nat → Nat → Int32) (j i : Nat) (x : Int32) : mSet ar j i x j i = x := by simp [mSet, va_up, upd]
theorem mS_i (ar : Nat → Nat → Int32) (j i j' i' : Nat) (x : Int32) (h : i' ≠ i) : mSet ar j i x j' i' = ar j' i' := by
  by_cases hj : j' = j
  · subst hj; simp [mSet, va_up, upd, h]
  · simp [mSet, va_up, hj]
theorem mS_j (ar : Nat → Nat → Int32) (j i j' i' : Nat) (x : Int32) (h : j' ≠ j) : mSet ar j i x j' i' = ar j' i' := by simp [mSet, va_up, h]
theorem ofE_S (ar : Nat → Nat → Int32) (j i v : Nat) (x : Int32) (h : v ≠ i) : ofE (mSet ar j i x) v = ofE ar v := by
  simp only [ofE, mS_i _ _ _ _ _ _ h]
theorem ofE_6 (ar : Nat → Nat → Int32) (i v : Nat) (x : Int32) : ofE (mSet ar 6 i x) v = ofE ar v := by
  simp only [ofE, mS_j _ _ _ _ _ _ (by decide : (0 : Nat) ≠ 6), mS_j _ _ _ _ _ _ (by decide : (1 : Nat) ≠ 6), mS_j _ _ _ _ _ _ (by decide : (2 : Nat) ≠ 6), mS_j _ _ _ _ _ _ (by decide : (3 : Nat) ≠ 6), mS_j _ _ _ _ _ _ (by decide : (4 : Nat) ≠ 6), mS_j _ _ _ _ _ _ (by decide : (5 : Nat) ≠ 6)]
/-- of another kind than 3 the last number isn't held -/
theorem vo_ls {k : Nat} (hk : k ≠ 3) (kd fr am le po ls ls' : Int32) : vo_E k kd fr am le po ls = vo_E k kd fr am le po ls' := by
  match k, hk with
  | 0, _ => rfl
  | 1, _ => rfl
  | 2, _ => rfl
  | 3, hk => exact absurd rfl hk
  | 4, _ => rfl
  | 5, _ => rfl
  | 6, _ => rfl
  | n + 7, _ => rfl
theorem vo_po {k : Nat} (hk : k < 6) (kd fr am le po po' ls : Int32) : vo_E k kd fr am le po ls = vo_E k kd fr am le po' ls := by
  rcases (by omega : k = 0 ∨ k = 1 ∨ k = 2 ∨ k = 3 ∨ k = 4 ∨ k = 5) with rfl | rfl | rfl | rfl | rfl | rfl <;> rfl
theorem vSR_n {k : Nat} (h : k ≠ 3) (fr le po ls day g : Int32) : vSR k fr le po ls day g = vSp k fr le po day g := by
  unfold vSR; split
  · exact absurd rfl h
  · rfl
theorem vSL_n {k : Nat} (h : k ≠ 3) (fr le po ls day g : Int32) : vSL k fr le po ls day g = vSpL k fr le po day g := by
  unfold vSL; split
  · exact absurd rfl h
  · rfl
theorem vSP_lo {k : Nat} (h : k < 6) (fr le po day g : Int32) : vSP k fr le po day g = po := by
  rcases (by omega : k = 0 ∨ k = 1 ∨ k = 2 ∨ k = 3 ∨ k = 4 ∨ k = 5) with rfl | rfl | rfl | rfl | rfl | rfl <;> rfl
theorem vSP_hi {k : Nat} (hk : k ≤ 7) (h : 6 ≤ k) (fr le po day g : Int32) : vSP k fr le po day g = if vSp k fr le po day g < 0 then po else po + g / 100 := by
  rcases (by omega : k = 6 ∨ k = 7) with rfl | rfl <;> rfl
theorem i_1 (a b : Int32) : a - 1 = b ↔ a = b + 1 := Int32.sub_eq_iff_eq_add
/-- spend, on both sides -/
theorem sp_cases {sc : Nat → Int32} {ar : Nat → Nat → Int32} {j k : Nat} {v g : Int32} (hv : vInv ar j k) (em : mI v = j) (hz : ¬ mThe sc ar v = 0) (hw : ¬ mWin g 1 100000 = 0) :
    (vSR k (ar 3 j) (ar 2 j) (ar 4 j) (ar 5 j - 1) (sc 0) g < 0 ∧ mSpend sc ar v g = (vSR k (ar 3 j) (ar 2 j) (ar 4 j) (ar 5 j - 1) (sc 0) g, sc, ar) ∧ vo_E k (ar 0 j) (ar 3 j) (ar 1 j) (vSL k (ar 3 j) (ar 2 j) (ar 4 j) (ar 5 j - 1) (sc 0) g) (vSP k (ar 3 j) (ar 2 j) (ar 4 j) (sc 0) g) (vSS k (ar 3 j) (ar 2 j) (ar 4 j) (ar 5 j - 1) (sc 0) g) = vo_E k (ar 0 j) (ar 3 j) (ar 1 j) (ar 2 j) (ar 4 j) (ar 5 j - 1)) ∨
    (¬ vSR k (ar 3 j) (ar 2 j) (ar 4 j) (ar 5 j - 1) (sc 0) g < 0 ∧ ∃ ar' : Nat → Nat → Int32, mSpend sc ar v g = (vSR k (ar 3 j) (ar 2 j) (ar 4 j) (ar 5 j - 1) (sc 0) g, va_up (va_up sc 3 (sc 3 + g)) 4 (sc 4 + vFee k (ar 4 j) g), ar') ∧ vo_E k (ar 0 j) (ar 3 j) (ar 1 j) (vSL k (ar 3 j) (ar 2 j) (ar 4 j) (ar 5 j - 1) (sc 0) g) (vSP k (ar 3 j) (ar 2 j) (ar 4 j) (sc 0) g) (vSS k (ar 3 j) (ar 2 j) (ar 4 j) (ar 5 j - 1) (sc 0) g) = ofE ar' j ∧ (∀ w, ar' 6 w = ar 6 w) ∧ (∀ w, w ≠ j → ofE ar' w = ofE ar w)) := by
  obtain ⟨ef, G, F, hG1, hG2, eg, hF, eF⟩ := fee_w hv hw
  obtain ⟨hk, h0, L, P, M, S, e2, e4, e1, e5, hs, hM, hS, h6⟩ := id hv
  have ev := val_eq hk h0 (sc 0)
  have hk0 : mI (ar 0 j) = k := by rw [h0]; exact nI_clamp (by omega)
  by_cases c3 : k = 3 ∧ ar 5 j = sc 0 + 1
  · obtain ⟨rfl, c5⟩ := c3
    have c5' : ar 5 j - 1 = sc 0 := (i_1 _ _).mpr c5
    have h03 : ar 0 j = 3 := h0
    refine Or.inl ⟨?_, ?_, ?_⟩
    · simp only [vSR, if_pos c5']; decide
    · simp only [mSpend, if_neg hz, if_neg hw, em, if_pos (show ar 0 j = 3 ∧ ar 5 j = sc 0 + 1 from ⟨h03, c5⟩), vSR, if_pos c5']
    · simp only [vSL, vSP, vSS, if_pos c5']
  · have c3' : ¬ (ar 0 j = 3 ∧ ar 5 j = sc 0 + 1) := fun z => c3 ⟨(nI_eq (b := 3) (by omega) (by decide)).mp (h0.symm.trans z.1), z.2⟩
    have eSR : vSR k (ar 3 j) (ar 2 j) (ar 4 j) (ar 5 j - 1) (sc 0) g = vSp k (ar 3 j) (ar 2 j) (ar 4 j) (sc 0) g := by
      by_cases k3 : k = 3
      · subst k3
        simp only [vSR, if_neg (fun z => c3 ⟨rfl, (i_1 _ _).mp z⟩)]
      · exact vSR_n k3 _ _ _ _ _ _
    have eSL : vSL k (ar 3 j) (ar 2 j) (ar 4 j) (ar 5 j - 1) (sc 0) g = vSpL k (ar 3 j) (ar 2 j) (ar 4 j) (sc 0) g := by
      by_cases k3 : k = 3
      · subst k3
        simp only [vSL, if_neg (fun z => c3 ⟨rfl, (i_1 _ _).mp z⟩)]
      · exact vSL_n k3 _ _ _ _ _ _
    rw [eSR, eSL]
    have refused : vSp k (ar 3 j) (ar 2 j) (ar 4 j) (sc 0) g = -5 → vSpL k (ar 3 j) (ar 2 j) (ar 4 j) (sc 0) g = ar 2 j → vo_E k (ar 0 j) (ar 3 j) (ar 1 j) (ar 2 j) (vSP k (ar 3 j) (ar 2 j) (ar 4 j) (sc 0) g) (vSS k (ar 3 j) (ar 2 j) (ar 4 j) (ar 5 j - 1) (sc 0) g) = vo_E k (ar 0 j) (ar 3 j) (ar 1 j) (ar 2 j) (ar 4 j) (ar 5 j - 1) := by
      intro q1 _
      have hneg : vSp k (ar 3 j) (ar 2 j) (ar 4 j) (sc 0) g < 0 := by rw [q1]; decide
      have eP : vSP k (ar 3 j) (ar 2 j) (ar 4 j) (sc 0) g = ar 4 j := by
        rcases Nat.lt_or_ge k 6 with q | q
        · exact vSP_lo q _ _ _ _ _
        · rw [vSP_hi hk q, if_pos hneg]
      rw [eP]
      by_cases k3 : k = 3
      · subst k3
        simp only [vSS, if_neg (fun z => c3 ⟨rfl, (i_1 _ _).mp z⟩), if_pos hneg]
      · exact vo_ls k3 _ _ _ _ _ _ _
    by_cases cv : vVal k (ar 3 j) (ar 2 j) (ar 4 j) (sc 0) < g
    · have q1 : vSp k (ar 3 j) (ar 2 j) (ar 4 j) (sc 0) g = -5 := by simp only [vSp, if_pos cv]
      have q2 : vSpL k (ar 3 j) (ar 2 j) (ar 4 j) (sc 0) g = ar 2 j := by simp only [vSpL, if_pos cv]
      refine Or.inl ⟨by rw [q1]; decide, ?_, by rw [q2]; exact refused q1 q2⟩
      simp only [mSpend, if_neg hz, if_neg hw, em, if_neg c3', ev, if_pos cv, q1]
    · by_cases cl : g + vFee k (ar 4 j) g ≤ ar 2 j
      · have q1 : vSp k (ar 3 j) (ar 2 j) (ar 4 j) (sc 0) g = ar 2 j - (g + vFee k (ar 4 j) g) := by simp only [vSp, if_neg cv, if_pos cl]
        have q2 : vSpL k (ar 3 j) (ar 2 j) (ar 4 j) (sc 0) g = ar 2 j - (g + vFee k (ar 4 j) g) := by simp only [vSpL, if_neg cv, if_pos cl]
        have hnn : ¬ vSp k (ar 3 j) (ar 2 j) (ar 4 j) (sc 0) g < 0 := by
          rw [q1, eF, eg, e2, nI_add]
          rw [eF, eg, e2, nI_add] at cl
          have hle : G + F ≤ L := (nI_leI (by omega) (by omega)).mp cl
          rw [pk_sub hle]
          exact nI_pos (by omega)
        have eS5 : (sc 0 + 1) - 1 = sc 0 := Int32.add_sub_cancel _ _
        have hS3 : k = 3 → vSS k (ar 3 j) (ar 2 j) (ar 4 j) (ar 5 j - 1) (sc 0) g = sc 0 := by
          rintro rfl
          simp only [vSS, if_neg (fun z => c3 ⟨rfl, (i_1 _ _).mp z⟩), if_neg hnn]
        rcases has_eq hk h0 with ⟨k6, hh⟩ | ⟨k6, hh⟩
        · refine Or.inr ⟨hnn, mSet (mSet ar 2 j (ar 2 j - (g + vFee k (ar 4 j) g))) 5 j (sc 0 + 1), ?_, ?_, ?_, ?_⟩
          · simp only [mSpend, if_neg hz, if_neg hw, em, if_neg c3', ev, if_neg cv, ef, if_pos cl, if_pos hh, q1]
          · rw [q2, vSP_lo k6]
            have : ofE (mSet (mSet ar 2 j (ar 2 j - (g + vFee k (ar 4 j) g))) 5 j (sc 0 + 1)) j = vo_E k (ar 0 j) (ar 3 j) (ar 1 j) (ar 2 j - (g + vFee k (ar 4 j) g)) (ar 4 j) ((sc 0 + 1) - 1) := by
              simp only [ofE, mS_at, mS_j _ _ _ _ _ _ (by decide : (0 : Nat) ≠ 5), mS_j _ _ _ _ _ _ (by decide : (0 : Nat) ≠ 2), mS_j _ _ _ _ _ _ (by decide : (1 : Nat) ≠ 5), mS_j _ _ _ _ _ _ (by decide : (1 : Nat) ≠ 2), mS_j _ _ _ _ _ _ (by decide : (3 : Nat) ≠ 5), mS_j _ _ _ _ _ _ (by decide : (3 : Nat) ≠ 2), mS_j _ _ _ _ _ _ (by decide : (4 : Nat) ≠ 5), mS_j _ _ _ _ _ _ (by decide : (4 : Nat) ≠ 2), mS_j _ _ _ _ _ _ (by decide : (2 : Nat) ≠ 5), hk0]
            rw [this, eS5]
            by_cases k3 : k = 3
            · rw [hS3 k3]
            · exact vo_ls k3 _ _ _ _ _ _ _
          · intro w
            rw [mS_j _ _ _ _ _ _ (by decide : (6 : Nat) ≠ 5), mS_j _ _ _ _ _ _ (by decide : (6 : Nat) ≠ 2)]
          · intro w hw'
            rw [ofE_S _ _ _ _ _ hw', ofE_S _ _ _ _ _ hw']
        · refine Or.inr ⟨hnn, mSet (mSet (mSet ar 2 j (ar 2 j - (g + vFee k (ar 4 j) g))) 5 j (sc 0 + 1)) 4 j (ar 4 j + g / 100), ?_, ?_, ?_, ?_⟩
          · simp only [mSpend, if_neg hz, if_neg hw, em, if_neg c3', ev, if_neg cv, ef, if_pos cl, if_neg hh, q1]
          · rw [q2, vSP_hi hk k6, if_neg hnn]
            have : ofE (mSet (mSet (mSet ar 2 j (ar 2 j - (g + vFee k (ar 4 j) g))) 5 j (sc 0 + 1)) 4 j (ar 4 j + g / 100)) j = vo_E k (ar 0 j) (ar 3 j) (ar 1 j) (ar 2 j - (g + vFee k (ar 4 j) g)) (ar 4 j + g / 100) ((sc 0 + 1) - 1) := by
              simp only [ofE, mS_at, mS_j _ _ _ _ _ _ (by decide : (0 : Nat) ≠ 4), mS_j _ _ _ _ _ _ (by decide : (1 : Nat) ≠ 4), mS_j _ _ _ _ _ _ (by decide : (2 : Nat) ≠ 4), mS_j _ _ _ _ _ _ (by decide : (3 : Nat) ≠ 4), mS_j _ _ _ _ _ _ (by decide : (5 : Nat) ≠ 4), mS_j _ _ _ _ _ _ (by decide : (0 : Nat) ≠ 5), mS_j _ _ _ _ _ _ (by decide : (0 : Nat) ≠ 2), mS_j _ _ _ _ _ _ (by decide : (1 : Nat) ≠ 5), mS_j _ _ _ _ _ _ (by decide : (1 : Nat) ≠ 2), mS_j _ _ _ _ _ _ (by decide : (3 : Nat) ≠ 5), mS_j _ _ _ _ _ _ (by decide : (3 : Nat) ≠ 2), mS_j _ _ _ _ _ _ (by decide : (2 : Nat) ≠ 5), hk0]
            rw [this]
            exact vo_ls (by omega) _ _ _ _ _ _ _
          · intro w
            rw [mS_j _ _ _ _ _ _ (by decide : (6 : Nat) ≠ 4), mS_j _ _ _ _ _ _ (by decide : (6 : Nat) ≠ 5), mS_j _ _ _ _ _ _ (by decide : (6 : Nat) ≠ 2)]
          · intro w hw'
            rw [ofE_S _ _ _ _ _ hw', ofE_S _ _ _ _ _ hw', ofE_S _ _ _ _ _ hw']
      · have q1 : vSp k (ar 3 j) (ar 2 j) (ar 4 j) (sc 0) g = -5 := by simp only [vSp, if_neg cv, if_neg cl]
        have q2 : vSpL k (ar 3 j) (ar 2 j) (ar 4 j) (sc 0) g = ar 2 j := by simp only [vSpL, if_neg cv, if_neg cl]
        refine Or.inl ⟨by rw [q1]; decide, ?_, by rw [q2]; exact refused q1 q2⟩
        simp only [mSpend, if_neg hz, if_neg hw, em, if_neg c3', ev, if_neg cv, ef, if_neg cl, q1]
end
section
theorem sw_X8_34 : SW RX8 34 yX8_isOutside cX8_isOutside 3 (some .boolean) 3 := ⟨mw_48, mw_49, mw_1, mw_50, by decide +kernel⟩
theorem pw_X8_43 : PW RX8 43 "VoucherOffice" yX8_find cX8_find 2 (some (.object "VoucherOffice$Plain")) 1 := ⟨mw_177, mw_179, mp_0, mw_1, mw_180, by decide +kernel⟩
set_option maxHeartbeats 4000000 in
set_option maxRecDepth 100000 in
theorem c_X8_isOutside (l : Launch) (D : va_G) (tys : List (ClassId × FieldType)) (d : Nat) (hd : 0 ≤ d) (ws : va_W) (v lo hi : Int32) : Ct l D tys yX8_isOutside cX8_isOutside 3 (some .boolean) d 0 0 [.int v, .int lo, .int hi] ws (pI ws (mOut v lo hi)) := by
  refine ct_intro (by decide) (Nat.le_of_ble_eq_true rfl) ?_
  intro p e s m below meth c A L X hin hP hD hS hA hl
  have hl : lv_has L 3 [(0, .int v), (1, .int lo), (2, .int hi)] := hl
  obtain ⟨hx, hb, hr, hml, hown, hts, hK, hlk, hxK⟩ := id X
  refine lv_iload_n hx hb dX8_isOutside_0 rfl (lv_at hl 0 rfl) ?_
  refine lv_iload_n hx hb dX8_isOutside_1 rfl (lv_at hl 1 rfl) ?_
  refine lv_icmp_lt (tgt := 10) hx hb dX8_isOutside_2 (by decide) (fun c_2 => ?_) (fun c_2 => ?_)
  · -- c_2 True
    refine lv_iconst (v := 1) hx hb dX8_isOutside_10 (by decide) ?_
    refine lv_goto (tgt := 15) hx hb dX8_isOutside_11 (by decide) ?_
    exact e_bool X hP hD hS dX8_isOutside_15 (by first | exact Or.inl rfl | exact Or.inr rfl) ⟨by simp only [mOut, mWin, if_pos c_2]; rfl, rfl⟩
  · -- c_2 False
    refine lv_iload_n hx hb dX8_isOutside_5 rfl (lv_at hl 0 rfl) ?_
    refine lv_iload_n hx hb dX8_isOutside_6 rfl (lv_at hl 2 rfl) ?_
    refine lv_icmp_le (tgt := 14) hx hb dX8_isOutside_7 (by decide) (fun c_7 => ?_) (fun c_7 => ?_)
    · -- c_7 True
      refine lv_iconst (v := 0) hx hb dX8_isOutside_14 (by decide) ?_
      exact e_bool X hP hD hS dX8_isOutside_15 (by first | exact Or.inl rfl | exact Or.inr rfl) ⟨by simp only [mOut, mWin, if_neg c_2, if_neg (Int32.not_lt.mpr c_7), if_neg (by decide : ¬ (1 : Int32) = 0)], rfl⟩
    · -- c_7 False
      refine lv_iconst (v := 1) hx hb dX8_isOutside_10 (by decide) ?_
      refine lv_goto (tgt := 15) hx hb dX8_isOutside_11 (by decide) ?_
      exact e_bool X hP hD hS dX8_isOutside_15 (by first | exact Or.inl rfl | exact Or.inr rfl) ⟨by simp only [mOut, mWin, if_neg c_2, if_pos (Int32.not_le.mp c_7)]; rfl, rfl⟩
theorem oo_nM {sc : Nat → Int32} {ha : Nat} : ¬ isM (of_o sc ha) := fun h => by
  have h : (8 : Nat) = 9 := h
  omega
theorem rr_nM {cP : ClassId} {row : Nat → Option Nat} : ¬ isM (of_r cP row) := fun h => h
def pF (row : Nat → Option Nat) (sc : Nat → Int32) (ar : Nat → Nat → Int32) (n : Nat) (v : Int32) (ws : va_W) : Option Value → va_W → Prop := fun r w => w = ws ∧ ((mThe sc ar v = 0 ∧ r = some .null) ∨ (∃ j a : Nat, j < n ∧ v = nI j ∧ ar 6 j = 0 ∧ row j = some a ∧ ¬ mThe sc ar v = 0 ∧ r = some (.ref a)))
set_option maxHeartbeats 4000000 in
set_option maxRecDepth 100000 in
theorem c_X8_find (l : Launch) (D : va_G) (cI cZ cP : ClassId) (d : Nat) (hd : 1 ≤ d) {ws : va_W} {h p0 p1 ha n : Nat} {row : Nat → Option Nat} {pv : Nat → Nat} {sc : Nat → Int32} {ar : Nat → Nat → Int32} (hO : of_at cP ws h p0 p1 ha row pv sc ar n) (hn : sc 1 = nI n) (h40 : n ≤ 40) (v : Int32) : Ct l D (vTy cI cZ cP) yX8_find cX8_find 2 (some (.object "VoucherOffice$Plain")) d 0 0 [.ref h, .int v] ws (pF row sc ar n v ws) := by
  refine ct_intro (by decide) (Nat.le_of_ble_eq_true rfl) ?_
  intro p e s m below meth c A L X hin hP hD hS hA hl
  have hl : lv_has L 2 [(0, .ref h), (1, .int v)] := hl
  obtain ⟨hx, hb, hr, hml, hown, hts, hK, hlk, hxK⟩ := id X
  have hfr := of_fr_rf ws
  refine lv_iload_n hx hb dX8_find_0 rfl (lv_at hl 1 rfl) ?_
  refine lv_iconst (v := 0) hx hb dX8_find_1 (by decide) ?_
  refine lv_bipush (v := 39) hx hb dX8_find_2 (by decide) ?_
  refine g_static (As := [.int v, .int 0, .int 39]) (rest := []) sw_X8_34 X (c_X8_isOutside l D (vTy cI cZ cP) 0 (by decide) ws v 0 39) hP hD hS hA ⟨by show _ ≤ d; omega, by show _ ≤ 30 * d; omega⟩ rfl hl.1 rfl (Nat.le_of_ble_eq_true rfl) dX8_find_4 ⟨Nat.le_refl _, Nat.le_refl _⟩ (kI fun H locs hP hD hS => ?_)
  refine W.eq (g2 := F0 m 7 L [.int (mOut v 0 39)]) rfl ?_
  refine lv_if_eq (tgt := 12) hx hb dX8_find_7 (by decide) (fun c_7 => ?_) (fun c_7 => ?_)
  · -- c_7 True
    have c_7 : ¬ mWin v 0 39 = 0 := out_0 c_7
    refine lv_aload_n hx hb dX8_find_12 rfl (lv_at hl 0 rfl) ?_
    refine of_gV X hP hO.1 mw_22 dX8_find_13 ?_
    refine lv_iload_n hx hb dX8_find_16 rfl (lv_at hl 1 rfl) ?_
    obtain ⟨j, hj, ej⟩ := in_40 c_7
    have hv : vp_in v 40 := by rw [ej]; exact vp_in_nI hj (by decide)
    refine va_aldq hx hb hK hP p1 2 hO.2.1 rfl hv dX8_find_17 ?_
    have em : v.toNatClampNeg = j := by rw [ej]; exact nI_clamp (by omega)
    rw [em]
    rcases hO.2.2.1 j hj with ⟨f1, a, f2, f3⟩ | ⟨f1, f2⟩
    · rw [f2]
      exact e_ref X hP hD hS dX8_find_18 (Or.inr ⟨_, rfl⟩) ⟨rfl, Or.inr ⟨j, a, f1.1, ej, f1.2, f2, by rw [ej]; exact the_nI hn h40 f1.1 f1.2, rfl⟩⟩
    · rw [f2]
      exact e_ref X hP hD hS dX8_find_18 (Or.inl rfl) ⟨rfl, Or.inl ⟨by rw [ej]; exact the_no hn h40 (by omega) f1, rfl⟩⟩
  · -- c_7 False
    have c_7 : mWin v 0 39 = 0 := out_1 c_7
    refine lv_null hx hb dX8_find_10 ?_
    exact e_ref X hP hD hS dX8_find_11 (Or.inl rfl) ⟨rfl, Or.inl ⟨the_out hn h40 c_7, rfl⟩⟩
set_option maxHeartbeats 4000000 in
set_option maxRecDepth 100000 in
theorem c_X8_value (l : Launch) (D : va_G) (cI cZ cP : ClassId) (d : Nat) (hd : 4 ≤ d) {ws : va_W} {h p0 p1 ha n : Nat} {row : Nat → Option Nat} {pv : Nat → Nat} {sc : Nat → Int32} {ar : Nat → Nat → Int32} (hO : of_at cP ws h p0 p1 ha row pv sc ar n) (hI : mInv sc ar n) (v t : Int32) : Ct l D (vTy cI cZ cP) yX8_value cX8_value 4 (some .int) d 0 0 [.ref h, .int v, .int t] ws (pI ws (mValue sc ar v t)) := by
  obtain ⟨hn, h40, hday, hvs, hout⟩ := id hI
  refine ct_intro (by decide) (Nat.le_of_ble_eq_true rfl) ?_
  intro p e s m below meth c A L X hin hP hD hS hA hl
  have hl : lv_has L 4 [(0, .ref h), (1, .int v), (2, .int t)] := hl
  obtain ⟨hx, hb, hr, hml, hown, hts, hK, hlk, hxK⟩ := id X
  have hfr := of_fr_rf ws
  refine lv_aload_n hx hb dX8_value_0 rfl (lv_at hl 0 rfl) ?_
  refine lv_iload_n hx hb dX8_value_1 rfl (lv_at hl 1 rfl) ?_
  refine g_priv (ci := 8) (cq := (RX8, TX8, 7)) (As := [.int v]) (rest := []) pw_X8_43 X (c_X8_find l D cI cZ cP 1 (by decide) hO hn h40 v) hP hD hS hA hO.1 rfl rfl ⟨by show _ ≤ d; omega, by show _ ≤ 30 * d; omega⟩ rfl hl.1 rfl (Nat.le_of_ble_eq_true rfl) dX8_value_2 ⟨Nat.le_refl _, Nat.le_refl _⟩ (fun v1 ws1 H locs hq hP hD hS => ?_)
  obtain ⟨ew, hq⟩ := hq
  rw [ew] at hP hD
  rcases hq with ⟨hz_2, rfl⟩ | ⟨j_2, a_2, hj_2, ev_2, h6_2, hr_2, hz_2, rfl⟩
  · -- none
    refine W.eq (g2 := F0 m 5 L [.null]) rfl ?_
    refine lv_astore_nN (lv' := [(3, .null), (0, .ref h), (1, .int v), (2, .int t)]) hx hb dX8_value_5 rfl hl (by decide) rfl (fun L hl => ?_)
    refine lv_aload_nN hx hb dX8_value_6 rfl (lv_at hl 0 rfl) ?_
    refine lv_ifnonnullN hx hb dX8_value_7 ?_
    refine lv_iconst (v := (-1)) hx hb dX8_value_10 (by decide) ?_
    exact e_int X hP hD hS dX8_value_11 ⟨by simp only [mValue, if_pos hz_2], rfl⟩
  · -- found
    refine W.eq (g2 := F0 m 5 L [.ref a_2]) rfl ?_
    have hc_2 := (hO.get (by omega) hr_2).2
    obtain ⟨k_2, hvI_2⟩ := hvs j_2 hj_2
    have ek_2 : mI (ar 0 j_2) = k_2 := by rw [hvI_2.2.1]; exact nI_clamp (by have := hvI_2.1; omega)
    have em_2 : mI v = j_2 := by rw [ev_2]; exact nI_clamp (by omega)
    rw [ofE, ek_2] at hc_2
    refine lv_astore_n (lv' := [(3, .ref a_2), (0, .ref h), (1, .int v), (2, .int t)]) hx hb dX8_value_5 rfl hl (by decide) rfl (fun L hl => ?_)
    refine lv_aload_n hx hb dX8_value_6 rfl (lv_at hl 0 rfl) ?_
    refine lv_ifnonnull (tgt := 12) hx hb dX8_value_7 (by decide) ?_
    refine lv_iload_n hx hb dX8_value_12 rfl (lv_at hl 3 rfl) ?_
    refine lv_iconst (v := 0) hx hb dX8_value_13 (by decide) ?_
    refine lv_sipush (v := 20000) hx hb dX8_value_14 (by decide) ?_
    refine g_static (As := [.int t, .int 0, .int 20000]) (rest := []) sw_X8_34 X (c_X8_isOutside l D (vTy cI cZ cP) 0 (by decide) ws t 0 20000) hP hD hS hA ⟨by show _ ≤ d; omega, by show _ ≤ 30 * d; omega⟩ rfl hl.1 rfl (Nat.le_of_ble_eq_true rfl) dX8_value_17 ⟨Nat.le_refl _, Nat.le_refl _⟩ (kI fun H locs hP hD hS => ?_)
    refine W.eq (g2 := F0 m 20 L [.int (mOut t 0 20000)]) rfl ?_
    refine lv_if_eq (tgt := 26) hx hb dX8_value_20 (by decide) (fun c_20 => ?_) (fun c_20 => ?_)
    · -- c_20 True
      have c_20 : ¬ mWin t 0 20000 = 0 := out_0 c_20
      refine lv_aload_n hx hb dX8_value_26 rfl (lv_at hl 0 rfl) ?_
      refine lv_iload_n hx hb dX8_value_27 rfl (lv_at hl 3 rfl) ?_
      refine dv_valueOn (rest := []) X mw_181 hP hD hS hA hc_2 ⟨by show _ ≤ d; omega, by show _ ≤ 30 * d; omega⟩ hl.1 (Nat.le_of_ble_eq_true rfl) dX8_value_28 ⟨Nat.le_refl _, Nat.le_refl _⟩ (fun H locs hP hD hS => ?_)
      exact e_int X hP hD hS dX8_value_31 ⟨congrArg (fun z => some (Value.int z)) (by simp only [mValue, if_neg hz_2, if_neg c_20, em_2]; exact (val_eq hvI_2.1 hvI_2.2.1 t).symm), rfl⟩
    · -- c_20 False
      have c_20 : mWin t 0 20000 = 0 := out_1 c_20
      refine lv_bipush (v := (-2)) hx hb dX8_value_23 (by decide) ?_
      exact e_int X hP hD hS dX8_value_25 ⟨by simp only [mValue, if_neg hz_2, if_pos c_20], rfl⟩
set_option maxHeartbeats 4000000 in
set_option maxRecDepth 100000 in
theorem c_X8_fee (l : Launch) (D : va_G) (cI cZ cP : ClassId) (d : Nat) (hd : 2 ≤ d) {ws : va_W} {h p0 p1 ha n : Nat} {row : Nat → Option Nat} {pv : Nat → Nat} {sc : Nat → Int32} {ar : Nat → Nat → Int32} (hO : of_at cP ws h p0 p1 ha row pv sc ar n) (hI : mInv sc ar n) (v g : Int32) : Ct l D (vTy cI cZ cP) yX8_fee cX8_fee 4 (some .int) d 0 0 [.ref h, .int v, .int g] ws (pI ws (mFeeP sc ar v g)) := by
  obtain ⟨hn, h40, hday, hvs, hout⟩ := id hI
  refine ct_intro (by decide) (Nat.le_of_ble_eq_true rfl) ?_
  intro p e s m below meth c A L X hin hP hD hS hA hl
  have hl : lv_has L 4 [(0, .ref h), (1, .int v), (2, .int g)] := hl
  obtain ⟨hx, hb, hr, hml, hown, hts, hK, hlk, hxK⟩ := id X
  have hfr := of_fr_rf ws
  refine lv_aload_n hx hb dX8_fee_0 rfl (lv_at hl 0 rfl) ?_
  refine lv_iload_n hx hb dX8_fee_1 rfl (lv_at hl 1 rfl) ?_
  refine g_priv (ci := 8) (cq := (RX8, TX8, 7)) (As := [.int v]) (rest := []) pw_X8_43 X (c_X8_find l D cI cZ cP 1 (by decide) hO hn h40 v) hP hD hS hA hO.1 rfl rfl ⟨by show _ ≤ d; omega, by show _ ≤ 30 * d; omega⟩ rfl hl.1 rfl (Nat.le_of_ble_eq_true rfl) dX8_fee_2 ⟨Nat.le_refl _, Nat.le_refl _⟩ (fun v1 ws1 H locs hq hP hD hS => ?_)
  obtain ⟨ew, hq⟩ := hq
  rw [ew] at hP hD
  rcases hq with ⟨hz_2, rfl⟩ | ⟨j_2, a_2, hj_2, ev_2, h6_2, hr_2, hz_2, rfl⟩
  · -- none
    refine W.eq (g2 := F0 m 5 L [.null]) rfl ?_
    refine lv_astore_nN (lv' := [(3, .null), (0, .ref h), (1, .int v), (2, .int g)]) hx hb dX8_fee_5 rfl hl (by decide) rfl (fun L hl => ?_)
    refine lv_aload_nN hx hb dX8_fee_6 rfl (lv_at hl 0 rfl) ?_
    refine lv_ifnonnullN hx hb dX8_fee_7 ?_
    refine lv_iconst (v := (-1)) hx hb dX8_fee_10 (by decide) ?_
    exact e_int X hP hD hS dX8_fee_11 ⟨by simp only [mFeeP, if_pos hz_2], rfl⟩
  · -- found
    refine W.eq (g2 := F0 m 5 L [.ref a_2]) rfl ?_
    have hc_2 := (hO.get (by omega) hr_2).2
    obtain ⟨k_2, hvI_2⟩ := hvs j_2 hj_2
    have ek_2 : mI (ar 0 j_2) = k_2 := by rw [hvI_2.2.1]; exact nI_clamp (by have := hvI_2.1; omega)
    have em_2 : mI v = j_2 := by rw [ev_2]; exact nI_clamp (by omega)
    rw [ofE, ek_2] at hc_2
    refine lv_astore_n (lv' := [(3, .ref a_2), (0, .ref h), (1, .int v), (2, .int g)]) hx hb dX8_fee_5 rfl hl (by decide) rfl (fun L hl => ?_)
    refine lv_aload_n hx hb dX8_fee_6 rfl (lv_at hl 0 rfl) ?_
    refine lv_ifnonnull (tgt := 12) hx hb dX8_fee_7 (by decide) ?_
    refine lv_iload_n hx hb dX8_fee_12 rfl (lv_at hl 3 rfl) ?_
    refine lv_iconst (v := 1) hx hb dX8_fee_13 (by decide) ?_
    refine lv_ldc (v := 100000) hx hb hown (hts _ mw_51) dX8_fee_14 ?_
    refine g_static (As := [.int g, .int 1, .int 100000]) (rest := []) sw_X8_34 X (c_X8_isOutside l D (vTy cI cZ cP) 0 (by decide) ws g 1 100000) hP hD hS hA ⟨by show _ ≤ d; omega, by show _ ≤ 30 * d; omega⟩ rfl hl.1 rfl (Nat.le_of_ble_eq_true rfl) dX8_fee_16 ⟨Nat.le_refl _, Nat.le_refl _⟩ (kI fun H locs hP hD hS => ?_)
    refine W.eq (g2 := F0 m 19 L [.int (mOut g 1 100000)]) rfl ?_
    refine lv_if_eq (tgt := 25) hx hb dX8_fee_19 (by decide) (fun c_19 => ?_) (fun c_19 => ?_)
    · -- c_19 True
      have c_19 : ¬ mWin g 1 100000 = 0 := out_0 c_19
      refine lv_aload_n hx hb dX8_fee_25 rfl (lv_at hl 0 rfl) ?_
      refine lv_iload_n hx hb dX8_fee_26 rfl (lv_at hl 3 rfl) ?_
      refine dv_feeOf (rest := []) X mw_224 hP hD hS hA hc_2 ⟨by show _ ≤ d; omega, by show _ ≤ 30 * d; omega⟩ hl.1 (Nat.le_of_ble_eq_true rfl) dX8_fee_27 ⟨Nat.le_refl _, Nat.le_refl _⟩ (fun H locs hP hD hS => ?_)
      exact e_int X hP hD hS dX8_fee_30 ⟨congrArg (fun z => some (Value.int z)) (by simp only [mFeeP, if_neg hz_2, if_neg c_19, em_2]; exact (fee_w hvI_2 c_19).1.symm), rfl⟩
    · -- c_19 False
      have c_19 : mWin g 1 100000 = 0 := out_1 c_19
      refine lv_bipush (v := (-2)) hx hb dX8_fee_22 (by decide) ?_
      exact e_int X hP hD hS dX8_fee_24 ⟨by simp only [mFeeP, if_neg hz_2, if_pos c_19], rfl⟩
set_option maxHeartbeats 4000000 in
set_option maxRecDepth 100000 in
theorem c_X8_seal (l : Launch) (D : va_G) (cI cZ cP : ClassId) (d : Nat) (hd : 2 ≤ d) {ws : va_W} {h p0 p1 ha n : Nat} {row : Nat → Option Nat} {pv : Nat → Nat} {sc : Nat → Int32} {ar : Nat → Nat → Int32} (hO : of_at cP ws h p0 p1 ha row pv sc ar n) (hI : mInv sc ar n) (v : Int32) : Ct l D (vTy cI cZ cP) yX8_seal cX8_seal 3 (some .int) d 0 0 [.ref h, .int v] ws (pI ws (mSealP sc ar v)) := by
  obtain ⟨hn, h40, hday, hvs, hout⟩ := id hI
  refine ct_intro (by decide) (Nat.le_of_ble_eq_true rfl) ?_
  intro p e s m below meth c A L X hin hP hD hS hA hl
  have hl : lv_has L 3 [(0, .ref h), (1, .int v)] := hl
  obtain ⟨hx, hb, hr, hml, hown, hts, hK, hlk, hxK⟩ := id X
  have hfr := of_fr_rf ws
  refine lv_aload_n hx hb dX8_seal_0 rfl (lv_at hl 0 rfl) ?_
  refine lv_iload_n hx hb dX8_seal_1 rfl (lv_at hl 1 rfl) ?_
  refine g_priv (ci := 8) (cq := (RX8, TX8, 7)) (As := [.int v]) (rest := []) pw_X8_43 X (c_X8_find l D cI cZ cP 1 (by decide) hO hn h40 v) hP hD hS hA hO.1 rfl rfl ⟨by show _ ≤ d; omega, by show _ ≤ 30 * d; omega⟩ rfl hl.1 rfl (Nat.le_of_ble_eq_true rfl) dX8_seal_2 ⟨Nat.le_refl _, Nat.le_refl _⟩ (fun v1 ws1 H locs hq hP hD hS => ?_)
  obtain ⟨ew, hq⟩ := hq
  rw [ew] at hP hD
  rcases hq with ⟨hz_2, rfl⟩ | ⟨j_2, a_2, hj_2, ev_2, h6_2, hr_2, hz_2, rfl⟩
  · -- none
    refine W.eq (g2 := F0 m 5 L [.null]) rfl ?_
    refine lv_astore_nN (lv' := [(2, .null), (0, .ref h), (1, .int v)]) hx hb dX8_seal_5 rfl hl (by decide) rfl (fun L hl => ?_)
    refine lv_aload_nN hx hb dX8_seal_6 rfl (lv_at hl 0 rfl) ?_
    refine lv_ifnonnullN hx hb dX8_seal_7 ?_
    refine lv_iconst (v := (-1)) hx hb dX8_seal_10 (by decide) ?_
    exact e_int X hP hD hS dX8_seal_11 ⟨by simp only [mSealP, if_pos hz_2], rfl⟩
  · -- found
    refine W.eq (g2 := F0 m 5 L [.ref a_2]) rfl ?_
    have hc_2 := (hO.get (by omega) hr_2).2
    obtain ⟨k_2, hvI_2⟩ := hvs j_2 hj_2
    have ek_2 : mI (ar 0 j_2) = k_2 := by rw [hvI_2.2.1]; exact nI_clamp (by have := hvI_2.1; omega)
    have em_2 : mI v = j_2 := by rw [ev_2]; exact nI_clamp (by omega)
    rw [ofE, ek_2] at hc_2
    refine lv_astore_n (lv' := [(2, .ref a_2), (0, .ref h), (1, .int v)]) hx hb dX8_seal_5 rfl hl (by decide) rfl (fun L hl => ?_)
    refine lv_aload_n hx hb dX8_seal_6 rfl (lv_at hl 0 rfl) ?_
    refine lv_ifnonnull (tgt := 12) hx hb dX8_seal_7 (by decide) ?_
    refine lv_aload_n hx hb dX8_seal_12 rfl (lv_at hl 0 rfl) ?_
    refine dv_sealNow (rest := []) X mw_279 hP hD hS hA hc_2 ⟨by show _ ≤ d; omega, by show _ ≤ 30 * d; omega⟩ hl.1 (Nat.le_of_ble_eq_true rfl) dX8_seal_13 ⟨Nat.le_refl _, Nat.le_refl _⟩ (fun H locs hP hD hS => ?_)
    exact e_int X hP hD hS dX8_seal_16 ⟨congrArg (fun z => some (Value.int z)) (by simp only [mSealP, if_neg hz_2, em_2]; exact (seal_eq hvI_2.1 hvI_2.2.1).symm), rfl⟩
set_option maxHeartbeats 4000000 in
set_option maxRecDepth 100000 in
theorem c_X8_mark (l : Launch) (D : va_G) (cI cZ cP : ClassId) (d : Nat) (hd : 3 ≤ d) {ws : va_W} {h p0 p1 ha n : Nat} {row : Nat → Option Nat} {pv : Nat → Nat} {sc : Nat → Int32} {ar : Nat → Nat → Int32} (hO : of_at cP ws h p0 p1 ha row pv sc ar n) (hI : mInv sc ar n) (v n0 : Int32) : Ct l D (vTy cI cZ cP) yX8_mark cX8_mark 4 (some .int) d 0 0 [.ref h, .int v, .int n0] ws (pI ws (mMark sc ar v n0)) := by
  obtain ⟨hn, h40, hday, hvs, hout⟩ := id hI
  refine ct_intro (by decide) (Nat.le_of_ble_eq_true rfl) ?_
  intro p e s m below meth c A L X hin hP hD hS hA hl
  have hl : lv_has L 4 [(0, .ref h), (1, .int v), (2, .int n0)] := hl
  obtain ⟨hx, hb, hr, hml, hown, hts, hK, hlk, hxK⟩ := id X
  have hfr := of_fr_rf ws
  refine lv_aload_n hx hb dX8_mark_0 rfl (lv_at hl 0 rfl) ?_
  refine lv_iload_n hx hb dX8_mark_1 rfl (lv_at hl 1 rfl) ?_
  refine g_priv (ci := 8) (cq := (RX8, TX8, 7)) (As := [.int v]) (rest := []) pw_X8_43 X (c_X8_find l D cI cZ cP 1 (by decide) hO hn h40 v) hP hD hS hA hO.1 rfl rfl ⟨by show _ ≤ d; omega, by show _ ≤ 30 * d; omega⟩ rfl hl.1 rfl (Nat.le_of_ble_eq_true rfl) dX8_mark_2 ⟨Nat.le_refl _, Nat.le_refl _⟩ (fun v1 ws1 H locs hq hP hD hS => ?_)
  obtain ⟨ew, hq⟩ := hq
  rw [ew] at hP hD
  rcases hq with ⟨hz_2, rfl⟩ | ⟨j_2, a_2, hj_2, ev_2, h6_2, hr_2, hz_2, rfl⟩
  · -- none
    refine W.eq (g2 := F0 m 5 L [.null]) rfl ?_
    refine lv_astore_nN (lv' := [(3, .null), (0, .ref h), (1, .int v), (2, .int n0)]) hx hb dX8_mark_5 rfl hl (by decide) rfl (fun L hl => ?_)
    refine lv_aload_nN hx hb dX8_mark_6 rfl (lv_at hl 0 rfl) ?_
    refine lv_ifnonnullN hx hb dX8_mark_7 ?_
    refine lv_iconst (v := (-1)) hx hb dX8_mark_10 (by decide) ?_
    exact e_int X hP hD hS dX8_mark_11 ⟨by simp only [mMark, if_pos hz_2], rfl⟩
  · -- found
    refine W.eq (g2 := F0 m 5 L [.ref a_2]) rfl ?_
    have hc_2 := (hO.get (by omega) hr_2).2
    obtain ⟨k_2, hvI_2⟩ := hvs j_2 hj_2
    have ek_2 : mI (ar 0 j_2) = k_2 := by rw [hvI_2.2.1]; exact nI_clamp (by have := hvI_2.1; omega)
    have em_2 : mI v = j_2 := by rw [ev_2]; exact nI_clamp (by omega)
    rw [ofE, ek_2] at hc_2
    refine lv_astore_n (lv' := [(3, .ref a_2), (0, .ref h), (1, .int v), (2, .int n0)]) hx hb dX8_mark_5 rfl hl (by decide) rfl (fun L hl => ?_)
    refine lv_aload_n hx hb dX8_mark_6 rfl (lv_at hl 0 rfl) ?_
    refine lv_ifnonnull (tgt := 12) hx hb dX8_mark_7 (by decide) ?_
    refine lv_iload_n hx hb dX8_mark_12 rfl (lv_at hl 3 rfl) ?_
    refine lv_iconst (v := 0) hx hb dX8_mark_13 (by decide) ?_
    refine lv_sipush (v := 999) hx hb dX8_mark_14 (by decide) ?_
    refine g_static (As := [.int n0, .int 0, .int 999]) (rest := []) sw_X8_34 X (c_X8_isOutside l D (vTy cI cZ cP) 0 (by decide) ws n0 0 999) hP hD hS hA ⟨by show _ ≤ d; omega, by show _ ≤ 30 * d; omega⟩ rfl hl.1 rfl (Nat.le_of_ble_eq_true rfl) dX8_mark_17 ⟨Nat.le_refl _, Nat.le_refl _⟩ (kI fun H locs hP hD hS => ?_)
    refine W.eq (g2 := F0 m 20 L [.int (mOut n0 0 999)]) rfl ?_
    refine lv_if_eq (tgt := 26) hx hb dX8_mark_20 (by decide) (fun c_20 => ?_) (fun c_20 => ?_)
    · -- c_20 True
      have c_20 : ¬ mWin n0 0 999 = 0 := out_0 c_20
      refine lv_aload_n hx hb dX8_mark_26 rfl (lv_at hl 0 rfl) ?_
      refine lv_iload_n hx hb dX8_mark_27 rfl (lv_at hl 3 rfl) ?_
      refine dv_markOf (rest := []) X mw_304 hP hD hS hA hc_2 ⟨by show _ ≤ d; omega, by show _ ≤ 30 * d; omega⟩ hl.1 (Nat.le_of_ble_eq_true rfl) dX8_mark_28 ⟨Nat.le_refl _, Nat.le_refl _⟩ (fun H locs hP hD hS => ?_)
      exact e_int X hP hD hS dX8_mark_31 ⟨congrArg (fun z => some (Value.int z)) (by simp only [mMark, if_neg hz_2, if_neg c_20, em_2]; exact (mark_eq hvI_2.1 hvI_2.2.1 n0).symm), rfl⟩
    · -- c_20 False
      have c_20 : mWin n0 0 999 = 0 := out_1 c_20
      refine lv_bipush (v := (-2)) hx hb dX8_mark_23 (by decide) ?_
      exact e_int X hP hD hS dX8_mark_25 ⟨by simp only [mMark, if_neg hz_2, if_pos c_20], rfl⟩
set_option maxHeartbeats 4000000 in
set_option maxRecDepth 100000 in
theorem c_X8_daysLeft (l : Launch) (D : va_G) (cI cZ cP : ClassId) (d : Nat) (hd : 2 ≤ d) {ws : va_W} {h p0 p1 ha n : Nat} {row : Nat → Option Nat} {pv : Nat → Nat} {sc : Nat → Int32} {ar : Nat → Nat → Int32} (hO : of_at cP ws h p0 p1 ha row pv sc ar n) (hI : mInv sc ar n) (v t : Int32) : Ct l D (vTy cI cZ cP) yX8_daysLeft cX8_daysLeft 4 (some .int) d 0 0 [.ref h, .int v, .int t] ws (pI ws (mDays sc ar v t)) := by
  obtain ⟨hn, h40, hday, hvs, hout⟩ := id hI
  refine ct_intro (by decide) (Nat.le_of_ble_eq_true rfl) ?_
  intro p e s m below meth c A L X hin hP hD hS hA hl
  have hl : lv_has L 4 [(0, .ref h), (1, .int v), (2, .int t)] := hl
  obtain ⟨hx, hb, hr, hml, hown, hts, hK, hlk, hxK⟩ := id X
  have hfr := of_fr_rf ws
  refine lv_aload_n hx hb dX8_daysLeft_0 rfl (lv_at hl 0 rfl) ?_
  refine lv_iload_n hx hb dX8_daysLeft_1 rfl (lv_at hl 1 rfl) ?_
  refine g_priv (ci := 8) (cq := (RX8, TX8, 7)) (As := [.int v]) (rest := []) pw_X8_43 X (c_X8_find l D cI cZ cP 1 (by decide) hO hn h40 v) hP hD hS hA hO.1 rfl rfl ⟨by show _ ≤ d; omega, by show _ ≤ 30 * d; omega⟩ rfl hl.1 rfl (Nat.le_of_ble_eq_true rfl) dX8_daysLeft_2 ⟨Nat.le_refl _, Nat.le_refl _⟩ (fun v1 ws1 H locs hq hP hD hS => ?_)
  obtain ⟨ew, hq⟩ := hq
  rw [ew] at hP hD
  rcases hq with ⟨hz_2, rfl⟩ | ⟨j_2, a_2, hj_2, ev_2, h6_2, hr_2, hz_2, rfl⟩
  · -- none
    refine W.eq (g2 := F0 m 5 L [.null]) rfl ?_
    refine lv_astore_nN (lv' := [(3, .null), (0, .ref h), (1, .int v), (2, .int t)]) hx hb dX8_daysLeft_5 rfl hl (by decide) rfl (fun L hl => ?_)
    refine lv_aload_nN hx hb dX8_daysLeft_6 rfl (lv_at hl 0 rfl) ?_
    refine lv_ifnonnullN hx hb dX8_daysLeft_7 ?_
    refine lv_iconst (v := (-1)) hx hb dX8_daysLeft_10 (by decide) ?_
    exact e_int X hP hD hS dX8_daysLeft_11 ⟨by simp only [mDays, if_pos hz_2], rfl⟩
  · -- found
    refine W.eq (g2 := F0 m 5 L [.ref a_2]) rfl ?_
    have hc_2 := (hO.get (by omega) hr_2).2
    obtain ⟨k_2, hvI_2⟩ := hvs j_2 hj_2
    have ek_2 : mI (ar 0 j_2) = k_2 := by rw [hvI_2.2.1]; exact nI_clamp (by have := hvI_2.1; omega)
    have em_2 : mI v = j_2 := by rw [ev_2]; exact nI_clamp (by omega)
    rw [ofE, ek_2] at hc_2
    refine lv_astore_n (lv' := [(3, .ref a_2), (0, .ref h), (1, .int v), (2, .int t)]) hx hb dX8_daysLeft_5 rfl hl (by decide) rfl (fun L hl => ?_)
    refine lv_aload_n hx hb dX8_daysLeft_6 rfl (lv_at hl 0 rfl) ?_
    refine lv_ifnonnull (tgt := 12) hx hb dX8_daysLeft_7 (by decide) ?_
    refine lv_iload_n hx hb dX8_daysLeft_12 rfl (lv_at hl 3 rfl) ?_
    refine lv_iconst (v := 0) hx hb dX8_daysLeft_13 (by decide) ?_
    refine lv_sipush (v := 20000) hx hb dX8_daysLeft_14 (by decide) ?_
    refine g_static (As := [.int t, .int 0, .int 20000]) (rest := []) sw_X8_34 X (c_X8_isOutside l D (vTy cI cZ cP) 0 (by decide) ws t 0 20000) hP hD hS hA ⟨by show _ ≤ d; omega, by show _ ≤ 30 * d; omega⟩ rfl hl.1 rfl (Nat.le_of_ble_eq_true rfl) dX8_daysLeft_17 ⟨Nat.le_refl _, Nat.le_refl _⟩ (kI fun H locs hP hD hS => ?_)
    refine W.eq (g2 := F0 m 20 L [.int (mOut t 0 20000)]) rfl ?_
    refine lv_if_eq (tgt := 26) hx hb dX8_daysLeft_20 (by decide) (fun c_20 => ?_) (fun c_20 => ?_)
    · -- c_20 True
      have c_20 : ¬ mWin t 0 20000 = 0 := out_0 c_20
      refine lv_aload_n hx hb dX8_daysLeft_26 rfl (lv_at hl 0 rfl) ?_
      refine lv_iload_n hx hb dX8_daysLeft_27 rfl (lv_at hl 3 rfl) ?_
      refine dv_daysLeftOn (rest := []) X mw_327 hP hD hS hA hc_2 ⟨by show _ ≤ d; omega, by show _ ≤ 30 * d; omega⟩ hl.1 (Nat.le_of_ble_eq_true rfl) dX8_daysLeft_28 ⟨Nat.le_refl _, Nat.le_refl _⟩ (fun H locs hP hD hS => ?_)
      exact e_int X hP hD hS dX8_daysLeft_31 ⟨congrArg (fun z => some (Value.int z)) (by simp only [mDays, if_neg hz_2, if_neg c_20, em_2]; exact (days_eq hvI_2.1 hvI_2.2.1 t).symm), rfl⟩
    · -- c_20 False
      have c_20 : mWin t 0 20000 = 0 := out_1 c_20
      refine lv_bipush (v := (-2)) hx hb dX8_daysLeft_23 (by decide) ?_
      exact e_int X hP hD hS dX8_daysLeft_25 ⟨by simp only [mDays, if_neg hz_2, if_pos c_20], rfl⟩
def pO (cP : ClassId) (h : Nat) (f : mT) (ws0 : va_W) : Option Value → va_W → Prop := fun v w => v = some (.int f.1) ∧ (∃ (p0 p1 ha n : Nat) (row : Nat → Option Nat) (pv : Nat → Nat), of_at cP w h p0 p1 ha row pv f.2.1 f.2.2 n ∧ f.2.1 1 = nI n ∧ n ≤ 40) ∧ of_fr ws0 w
theorem pO_of {cP : ClassId} {h p0 p1 ha n : Nat} {row : Nat → Option Nat} {pv : Nat → Nat} {f : mT} {ws0 w : va_W} {r : Int32} {sc : Nat → Int32} {ar : Nat → Nat → Int32} (hO : of_at cP w h p0 p1 ha row pv sc ar n) (hn : sc 1 = nI n) (hfr : of_fr ws0 w) (hf : f = (r, sc, ar)) (h40 : n ≤ 40 := by omega) : pO cP h f ws0 (some (.int r)) w := by
  subst hf
  exact ⟨rfl, ⟨p0, p1, ha, n, row, pv, hO, hn, h40⟩, hfr⟩
set_option maxHeartbeats 4000000 in
set_option maxRecDepth 100000 in
theorem c_X8_pass (l : Launch) (D : va_G) (cI cZ cP : ClassId) (d : Nat) (hd : 1 ≤ d) {ws : va_W} {h p0 p1 ha n : Nat} {row : Nat → Option Nat} {pv : Nat → Nat} {sc : Nat → Int32} {ar : Nat → Nat → Int32} (hO : of_at cP ws h p0 p1 ha row pv sc ar n) (hI : mInv sc ar n) (dd : Int32) : Ct l D (vTy cI cZ cP) yX8_pass cX8_pass 2 (some .int) d 0 0 [.ref h, .int dd] ws (pO cP h (mPass sc ar dd) ws) := by
  obtain ⟨hn, h40, hday, hvs, hout⟩ := id hI
  refine ct_intro (by decide) (Nat.le_of_ble_eq_true rfl) ?_
  intro p e s m below meth c A L X hin hP hD hS hA hl
  have hl : lv_has L 2 [(0, .ref h), (1, .int dd)] := hl
  obtain ⟨hx, hb, hr, hml, hown, hts, hK, hlk, hxK⟩ := id X
  have hfr := of_fr_rf ws
  refine lv_iload_n hx hb dX8_pass_0 rfl (lv_at hl 1 rfl) ?_
  refine lv_iconst (v := 1) hx hb dX8_pass_1 (by decide) ?_
  refine lv_sipush (v := 1000) hx hb dX8_pass_2 (by decide) ?_
  refine g_static (As := [.int dd, .int 1, .int 1000]) (rest := []) sw_X8_34 X (c_X8_isOutside l D (vTy cI cZ cP) 0 (by decide) ws dd 1 1000) hP hD hS hA ⟨by show _ ≤ d; omega, by show _ ≤ 30 * d; omega⟩ rfl hl.1 rfl (Nat.le_of_ble_eq_true rfl) dX8_pass_5 ⟨Nat.le_refl _, Nat.le_refl _⟩ (kI fun H locs hP hD hS => ?_)
  refine W.eq (g2 := F0 m 8 L [.int (mOut dd 1 1000)]) rfl ?_
  refine lv_if_eq (tgt := 14) hx hb dX8_pass_8 (by decide) (fun c_8 => ?_) (fun c_8 => ?_)
  · -- c_8 True
    have c_8 : ¬ mWin dd 1 1000 = 0 := out_0 c_8
    refine lv_aload_n hx hb dX8_pass_14 rfl (lv_at hl 0 rfl) ?_
    refine of_g0 X hP hO.1 mw_24 dX8_pass_15 ?_
    refine lv_iload_n hx hb dX8_pass_18 rfl (lv_at hl 1 rfl) ?_
    refine lv_iadd hx hb dX8_pass_19 ?_
    refine lv_sipush (v := 20000) hx hb dX8_pass_20 (by decide) ?_
    refine lv_icmp_le (tgt := 29) hx hb dX8_pass_23 (by decide) (fun c_23 => ?_) (fun c_23 => ?_)
    · -- c_23 True
      refine lv_aload_n hx hb dX8_pass_29 rfl (lv_at hl 0 rfl) ?_
      refine lv_dup hx hb dX8_pass_30 rfl ?_
      refine of_g0 X hP hO.1 mw_24 dX8_pass_31 ?_
      refine lv_iload_n hx hb dX8_pass_34 rfl (lv_at hl 1 rfl) ?_
      refine lv_iadd hx hb dX8_pass_35 ?_
      refine of_p0 X hP hD hS hO.1 mw_24 dX8_pass_36 (fun H locs hP hD hS => ?_)
      have hfr := of_fr_tr hfr (of_fr_set (y := (h, of_o (va_up sc 0 ((sc 0) + dd)) ha)) hO.1 oo_nM)
      have hO := hO.put (va_up sc 0 ((sc 0) + dd))
      refine lv_aload_n hx hb dX8_pass_39 rfl (lv_at hl 0 rfl) ?_
      refine of_g0 X hP hO.1 mw_24 dX8_pass_40 ?_
      exact e_int X hP hD hS dX8_pass_43 (pO_of hO hn hfr (by first | (simp only [mPass, if_neg c_8, if_pos c_23]; done) | (simp only [mPass, if_neg c_8, if_pos c_23]; rfl)))
    · -- c_23 False
      refine lv_bipush (v := (-4)) hx hb dX8_pass_26 (by decide) ?_
      exact e_int X hP hD hS dX8_pass_28 (pO_of hO hn hfr (by first | (simp only [mPass, if_neg c_8, if_neg c_23]; done) | (simp only [mPass, if_neg c_8, if_neg c_23]; rfl)))
  · -- c_8 False
    have c_8 : mWin dd 1 1000 = 0 := out_1 c_8
    refine lv_bipush (v := (-2)) hx hb dX8_pass_11 (by decide) ?_
    exact e_int X hP hD hS dX8_pass_13 (pO_of hO hn hfr (by first | (simp only [mPass, if_pos c_8]; done) | (simp only [mPass, if_pos c_8]; rfl)))
set_option maxHeartbeats 4000000 in
set_option maxRecDepth 100000 in
theorem c_X8_spend (l : Launch) (D : va_G) (cI cZ cP : ClassId) (d : Nat) (hd : 6 ≤ d) {ws : va_W} {h p0 p1 ha n : Nat} {row : Nat → Option Nat} {pv : Nat → Nat} {sc : Nat → Int32} {ar : Nat → Nat → Int32} (hO : of_at cP ws h p0 p1 ha row pv sc ar n) (hI : mInv sc ar n) (v g : Int32) : Ct l D (vTy cI cZ cP) yX8_spend cX8_spend 6 (some .int) d 0 0 [.ref h, .int v, .int g] ws (pO cP h (mSpend sc ar v g) ws) := by
  obtain ⟨hn, h40, hday, hvs, hout⟩ := id hI
  refine ct_intro (by decide) (Nat.le_of_ble_eq_true rfl) ?_
  intro p e s m below meth c A L X hin hP hD hS hA hl
  have hl : lv_has L 6 [(0, .ref h), (1, .int v), (2, .int g)] := hl
  obtain ⟨hx, hb, hr, hml, hown, hts, hK, hlk, hxK⟩ := id X
  have hfr := of_fr_rf ws
  refine lv_aload_n hx hb dX8_spend_0 rfl (lv_at hl 0 rfl) ?_
  refine lv_iload_n hx hb dX8_spend_1 rfl (lv_at hl 1 rfl) ?_
  refine g_priv (ci := 8) (cq := (RX8, TX8, 7)) (As := [.int v]) (rest := []) pw_X8_43 X (c_X8_find l D cI cZ cP 1 (by decide) hO hn h40 v) hP hD hS hA hO.1 rfl rfl ⟨by show _ ≤ d; omega, by show _ ≤ 30 * d; omega⟩ rfl hl.1 rfl (Nat.le_of_ble_eq_true rfl) dX8_spend_2 ⟨Nat.le_refl _, Nat.le_refl _⟩ (fun v1 ws1 H locs hq hP hD hS => ?_)
  obtain ⟨ew, hq⟩ := hq
  rw [ew] at hP hD
  rcases hq with ⟨hz_2, rfl⟩ | ⟨j_2, a_2, hj_2, ev_2, h6_2, hr_2, hz_2, rfl⟩
  · -- none
    refine W.eq (g2 := F0 m 5 L [.null]) rfl ?_
    refine lv_astore_nN (lv' := [(3, .null), (0, .ref h), (1, .int v), (2, .int g)]) hx hb dX8_spend_5 rfl hl (by decide) rfl (fun L hl => ?_)
    refine lv_aload_nN hx hb dX8_spend_6 rfl (lv_at hl 0 rfl) ?_
    refine lv_ifnonnullN hx hb dX8_spend_7 ?_
    refine lv_iconst (v := (-1)) hx hb dX8_spend_10 (by decide) ?_
    exact e_int X hP hD hS dX8_spend_11 (pO_of hO hn hfr (by first | (simp only [mSpend, if_pos hz_2]; done) | (simp only [mSpend, if_pos hz_2]; rfl)))
  · -- found
    refine W.eq (g2 := F0 m 5 L [.ref a_2]) rfl ?_
    have hc_2 := (hO.get (by omega) hr_2).2
    obtain ⟨k_2, hvI_2⟩ := hvs j_2 hj_2
    have ek_2 : mI (ar 0 j_2) = k_2 := by rw [hvI_2.2.1]; exact nI_clamp (by have := hvI_2.1; omega)
    have em_2 : mI v = j_2 := by rw [ev_2]; exact nI_clamp (by omega)
    rw [ofE, ek_2] at hc_2
    refine lv_astore_n (lv' := [(3, .ref a_2), (0, .ref h), (1, .int v), (2, .int g)]) hx hb dX8_spend_5 rfl hl (by decide) rfl (fun L hl => ?_)
    refine lv_aload_n hx hb dX8_spend_6 rfl (lv_at hl 0 rfl) ?_
    refine lv_ifnonnull (tgt := 12) hx hb dX8_spend_7 (by decide) ?_
    refine lv_iload_n hx hb dX8_spend_12 rfl (lv_at hl 3 rfl) ?_
    refine lv_iconst (v := 1) hx hb dX8_spend_13 (by decide) ?_
    refine lv_ldc (v := 100000) hx hb hown (hts _ mw_51) dX8_spend_14 ?_
    refine g_static (As := [.int g, .int 1, .int 100000]) (rest := []) sw_X8_34 X (c_X8_isOutside l D (vTy cI cZ cP) 0 (by decide) ws g 1 100000) hP hD hS hA ⟨by show _ ≤ d; omega, by show _ ≤ 30 * d; omega⟩ rfl hl.1 rfl (Nat.le_of_ble_eq_true rfl) dX8_spend_16 ⟨Nat.le_refl _, Nat.le_refl _⟩ (kI fun H locs hP hD hS => ?_)
    refine W.eq (g2 := F0 m 19 L [.int (mOut g 1 100000)]) rfl ?_
    refine lv_if_eq (tgt := 25) hx hb dX8_spend_19 (by decide) (fun c_19 => ?_) (fun c_19 => ?_)
    · -- c_19 True
      have c_19 : ¬ mWin g 1 100000 = 0 := out_0 c_19
      refine lv_aload_n hx hb dX8_spend_25 rfl (lv_at hl 0 rfl) ?_
      refine lv_iload_n hx hb dX8_spend_26 rfl (lv_at hl 3 rfl) ?_
      refine dv_feeOf (rest := []) X mw_224 hP hD hS hA hc_2 ⟨by show _ ≤ d; omega, by show _ ≤ 30 * d; omega⟩ hl.1 (Nat.le_of_ble_eq_true rfl) dX8_spend_27 ⟨Nat.le_refl _, Nat.le_refl _⟩ (fun H locs hP hD hS => ?_)
      refine lv_istore (lv' := [(4, .int (vFee k_2 (ar 4 j_2) g)), (3, .ref a_2), (0, .ref h), (1, .int v), (2, .int g)]) hx hb dX8_spend_30 hl (by decide) rfl (fun L hl => ?_)
      refine lv_aload_n hx hb dX8_spend_32 rfl (lv_at hl 1 rfl) ?_
      refine lv_aload_n hx hb dX8_spend_33 rfl (lv_at hl 2 rfl) ?_
      refine of_g0 X hP hO.1 mw_24 dX8_spend_34 ?_
      refine lv_iload_n hx hb dX8_spend_37 rfl (lv_at hl 4 rfl) ?_
      obtain ⟨-, G, F, hG1, hG2, eg, hF, eF⟩ := fee_w hvI_2 c_19
      refine dv_spendOn (rest := []) X mw_252 hP hD hS hA hc_2 ⟨by show _ ≤ d; omega, by show _ ≤ 30 * d; omega⟩ hl.1 (Nat.le_of_ble_eq_true rfl) dX8_spend_38 ⟨Nat.le_refl _, Nat.le_refl _⟩ (fun H locs hP hD hS => ?_)
      rcases sp_cases (g := g) hvI_2 em_2 hz_2 c_19 with ⟨q1, q2, q3⟩ | ⟨q1, ar2, q2, q3, q4, q5⟩
      · -- refused
        rw [q3, st_self hc_2] at hP hD
        refine lv_istore (lv' := [(5, .int (vSR k_2 (ar 3 j_2) (ar 2 j_2) (ar 4 j_2) (ar 5 j_2 - 1) (sc 0) g)), (4, .int (vFee k_2 (ar 4 j_2) g)), (3, .ref a_2), (0, .ref h), (1, .int v), (2, .int g)]) hx hb dX8_spend_41 hl (by decide) rfl (fun L hl => ?_)
        refine lv_iload hx hb dX8_spend_43 (lv_at hl 0 rfl) ?_
        refine lv_if_lt (tgt := 69) hx hb dX8_spend_45 (by decide) (fun c_45 => ?_) (fun c_45 => absurd q1 c_45)
        refine lv_iload hx hb dX8_spend_69 (lv_at hl 0 rfl) ?_
        exact e_int X hP hD hS dX8_spend_71 (pO_of hO hn hfr q2)
      · -- spent
        rw [q3] at hP hD
        have hfr := of_fr_tr hfr (of_fr_set (y := (a_2, ofE ar2 j_2)) hc_2 (vo_nM _ _ _ _ _ _ _))
        have hO := hO.setV (by omega) hr_2 ar2 q4 q5 rfl
        refine lv_istore (lv' := [(5, .int (vSR k_2 (ar 3 j_2) (ar 2 j_2) (ar 4 j_2) (ar 5 j_2 - 1) (sc 0) g)), (4, .int (vFee k_2 (ar 4 j_2) g)), (3, .ref a_2), (0, .ref h), (1, .int v), (2, .int g)]) hx hb dX8_spend_41 hl (by decide) rfl (fun L hl => ?_)
        refine lv_iload hx hb dX8_spend_43 (lv_at hl 0 rfl) ?_
        refine lv_if_lt (tgt := 69) hx hb dX8_spend_45 (by decide) (fun c_45 => absurd c_45 q1) (fun c_45 => ?_)
        refine lv_aload_n hx hb dX8_spend_48 rfl (lv_at hl 3 rfl) ?_
        refine lv_dup hx hb dX8_spend_49 rfl ?_
        refine of_g3 X hP hO.1 mw_26 dX8_spend_50 ?_
        refine lv_iload_n hx hb dX8_spend_53 rfl (lv_at hl 5 rfl) ?_
        refine lv_iadd hx hb dX8_spend_54 ?_
        refine of_p3 X hP hD hS hO.1 mw_26 dX8_spend_55 (fun H locs hP hD hS => ?_)
        have hfr := of_fr_tr hfr (of_fr_set (y := (h, of_o (va_up sc 3 ((sc 3) + g)) ha)) hO.1 oo_nM)
        have hO := hO.put (va_up sc 3 ((sc 3) + g))
        refine lv_aload_n hx hb dX8_spend_58 rfl (lv_at hl 3 rfl) ?_
        refine lv_dup hx hb dX8_spend_59 rfl ?_
        refine of_g4 X hP hO.1 mw_27 dX8_spend_60 ?_
        refine lv_iload hx hb dX8_spend_63 (lv_at hl 1 rfl) ?_
        refine lv_iadd hx hb dX8_spend_65 ?_
        refine of_p4 X hP hD hS hO.1 mw_27 dX8_spend_66 (fun H locs hP hD hS => ?_)
        have hfr := of_fr_tr hfr (of_fr_set (y := (h, of_o (va_up (va_up sc 3 ((sc 3) + g)) 4 (((va_up sc 3 ((sc 3) + g)) 4) + (vFee k_2 (ar 4 j_2) g))) ha)) hO.1 oo_nM)
        have hO := hO.put (va_up (va_up sc 3 ((sc 3) + g)) 4 (((va_up sc 3 ((sc 3) + g)) 4) + (vFee k_2 (ar 4 j_2) g)))
        refine lv_iload hx hb dX8_spend_69 (lv_at hl 0 rfl) ?_
        exact e_int X hP hD hS dX8_spend_71 (pO_of hO hn hfr q2)
    · -- c_19 False
      have c_19 : mWin g 1 100000 = 0 := out_1 c_19
      refine lv_bipush (v := (-2)) hx hb dX8_spend_22 (by decide) ?_
      exact e_int X hP hD hS dX8_spend_24 (pO_of hO hn hfr (by first | (simp only [mSpend, if_neg hz_2, if_pos c_19]; done) | (simp only [mSpend, if_neg hz_2, if_pos c_19]; rfl)))
theorem pap_out {w : Int32} (h : w.toInt < 0 ∨ 5 < w.toInt) : mWin w 0 5 = 0 := by
  by_cases z : mWin w 0 5 = 0
  · exact z
  · obtain ⟨h1, h2⟩ := win_ii z
    have g1 := Int32.not_lt.mp h1
    have g2 := Int32.not_lt.mp h2
    rw [Int32.le_iff_toInt_le] at g1 g2
    have e0 : (0 : Int32).toInt = 0 := by decide
    have e5 : (5 : Int32).toInt = 5 := by decide
    omega
set_option maxHeartbeats 4000000 in
set_option maxRecDepth 100000 in
theorem c_X8_paper (l : Launch) (D : va_G) (cI cZ cP : ClassId) (d : Nat) (hd : 2 ≤ d) {ws : va_W} {h p0 p1 ha n : Nat} {row : Nat → Option Nat} {pv : Nat → Nat} {sc : Nat → Int32} {ar : Nat → Nat → Int32} (hO : of_at cP ws h p0 p1 ha row pv sc ar n) (hI : mInv sc ar n) (v w : Int32) : Ct l D (vTy cI cZ cP) yX8_paper cX8_paper 4 (some .int) d 0 0 [.ref h, .int v, .int w] ws (pI ws (mPaper sc ar v w)) := by
  obtain ⟨hn, h40, hday, hvs, hout⟩ := id hI
  refine ct_intro (by decide) (Nat.le_of_ble_eq_true rfl) ?_
  intro p e s m below meth c A L X hin hP hD hS hA hl
  have hl : lv_has L 4 [(0, .ref h), (1, .int v), (2, .int w)] := hl
  obtain ⟨hx, hb, hr, hml, hown, hts, hK, hlk, hxK⟩ := id X
  have hfr := of_fr_rf ws
  refine lv_aload_n hx hb dX8_paper_0 rfl (lv_at hl 0 rfl) ?_
  refine lv_iload_n hx hb dX8_paper_1 rfl (lv_at hl 1 rfl) ?_
  refine g_priv (ci := 8) (cq := (RX8, TX8, 7)) (As := [.int v]) (rest := []) pw_X8_43 X (c_X8_find l D cI cZ cP 1 (by decide) hO hn h40 v) hP hD hS hA hO.1 rfl rfl ⟨by show _ ≤ d; omega, by show _ ≤ 30 * d; omega⟩ rfl hl.1 rfl (Nat.le_of_ble_eq_true rfl) dX8_paper_2 ⟨Nat.le_refl _, Nat.le_refl _⟩ (fun v1 ws1 H locs hq hP hD hS => ?_)
  obtain ⟨ew, hq⟩ := hq
  rw [ew] at hP hD
  rcases hq with ⟨hz_2, rfl⟩ | ⟨j_2, a_2, hj_2, ev_2, h6_2, hr_2, hz_2, rfl⟩
  · -- none
    refine W.eq (g2 := F0 m 5 L [.null]) rfl ?_
    refine lv_astore_nN (lv' := [(3, .null), (0, .ref h), (1, .int v), (2, .int w)]) hx hb dX8_paper_5 rfl hl (by decide) rfl (fun L hl => ?_)
    refine lv_aload_nN hx hb dX8_paper_6 rfl (lv_at hl 0 rfl) ?_
    refine lv_ifnonnullN hx hb dX8_paper_7 ?_
    refine lv_iconst (v := (-1)) hx hb dX8_paper_10 (by decide) ?_
    exact e_int X hP hD hS dX8_paper_11 ⟨by simp only [mPaper, if_pos hz_2], rfl⟩
  · -- found
    refine W.eq (g2 := F0 m 5 L [.ref a_2]) rfl ?_
    have hc_2 := (hO.get (by omega) hr_2).2
    obtain ⟨k_2, hvI_2⟩ := hvs j_2 hj_2
    have ek_2 : mI (ar 0 j_2) = k_2 := by rw [hvI_2.2.1]; exact nI_clamp (by have := hvI_2.1; omega)
    have em_2 : mI v = j_2 := by rw [ev_2]; exact nI_clamp (by omega)
    rw [ofE, ek_2] at hc_2
    refine lv_astore_n (lv' := [(3, .ref a_2), (0, .ref h), (1, .int v), (2, .int w)]) hx hb dX8_paper_5 rfl hl (by decide) rfl (fun L hl => ?_)
    refine lv_aload_n hx hb dX8_paper_6 rfl (lv_at hl 0 rfl) ?_
    refine lv_ifnonnull (tgt := 12) hx hb dX8_paper_7 (by decide) ?_
    refine lv_iload_n hx hb dX8_paper_12 rfl (lv_at hl 3 rfl) ?_
    by_cases s_13 : w.toInt < 0 ∨ 5 < w.toInt
    · refine lv_tableOut (tgt := 82) hx hb dX8_paper_13 s_13 (by decide) ?_
      refine lv_bipush (v := (-2)) hx hb dX8_paper_82 (by decide) ?_
      exact e_int X hP hD hS dX8_paper_84 ⟨by simp only [mPaper, if_neg hz_2, if_pos (pap_out s_13)], rfl⟩
    · have e_13 : w = 0 ∨ w = 1 ∨ w = 2 ∨ w = 3 ∨ w = 4 ∨ w = 5 := sw_6 s_13
      rcases e_13 with f_0 | f_1 | f_2 | f_3 | f_4 | f_5
      · refine lv_tableIn (tgt := 52) (off := 39) hx hb dX8_paper_13 (by rw [f_0]; decide) (by rw [f_0]; decide) (by rw [f_0]; rfl) (by decide) ?_
        refine lv_aload_n hx hb dX8_paper_52 rfl (lv_at hl 0 rfl) ?_
        refine vo_gK X hP hc_2 mw_61 (Or.inl rfl) dX8_paper_53 ?_
        exact e_int X hP hD hS dX8_paper_56 ⟨by subst f_0; simp only [mPaper, if_neg hz_2, em_2, if_neg (by decide : ¬ mWin 0 0 5 = 0), if_pos], rfl⟩
      · refine lv_tableIn (tgt := 57) (off := 44) hx hb dX8_paper_13 (by rw [f_1]; decide) (by rw [f_1]; decide) (by rw [f_1]; rfl) (by decide) ?_
        refine lv_aload_n hx hb dX8_paper_57 rfl (lv_at hl 0 rfl) ?_
        refine vo_gA X hP hc_2 mw_69 (Or.inl rfl) dX8_paper_58 ?_
        exact e_int X hP hD hS dX8_paper_61 ⟨by subst f_1; simp only [mPaper, if_neg hz_2, em_2, if_neg (by decide : ¬ mWin 1 0 5 = 0), if_neg (by decide : ¬ (1 : Int32) = 0), if_pos], rfl⟩
      · refine lv_tableIn (tgt := 62) (off := 49) hx hb dX8_paper_13 (by rw [f_2]; decide) (by rw [f_2]; decide) (by rw [f_2]; rfl) (by decide) ?_
        refine lv_aload_n hx hb dX8_paper_62 rfl (lv_at hl 0 rfl) ?_
        refine vo_gL X hP hc_2 mw_73 (Or.inl rfl) dX8_paper_63 ?_
        exact e_int X hP hD hS dX8_paper_66 ⟨by subst f_2; simp only [mPaper, if_neg hz_2, em_2, if_neg (by decide : ¬ mWin 2 0 5 = 0), if_neg (by decide : ¬ (2 : Int32) = 0), if_neg (by decide : ¬ (2 : Int32) = 1), if_pos], rfl⟩
      · refine lv_tableIn (tgt := 67) (off := 54) hx hb dX8_paper_13 (by rw [f_3]; decide) (by rw [f_3]; decide) (by rw [f_3]; rfl) (by decide) ?_
        refine lv_aload_n hx hb dX8_paper_67 rfl (lv_at hl 0 rfl) ?_
        refine vo_gF X hP hc_2 mw_67 (Or.inl rfl) dX8_paper_68 ?_
        exact e_int X hP hD hS dX8_paper_71 ⟨by subst f_3; simp only [mPaper, if_neg hz_2, em_2, if_neg (by decide : ¬ mWin 3 0 5 = 0), if_neg (by decide : ¬ (3 : Int32) = 0), if_neg (by decide : ¬ (3 : Int32) = 1), if_neg (by decide : ¬ (3 : Int32) = 2), if_pos], rfl⟩
      · refine lv_tableIn (tgt := 72) (off := 59) hx hb dX8_paper_13 (by rw [f_4]; decide) (by rw [f_4]; decide) (by rw [f_4]; rfl) (by decide) ?_
        refine lv_aload_n hx hb dX8_paper_72 rfl (lv_at hl 0 rfl) ?_
        refine dv_pointsNow (rest := []) X mw_422 hP hD hS hA hc_2 ⟨by show _ ≤ d; omega, by show _ ≤ 30 * d; omega⟩ hl.1 (Nat.le_of_ble_eq_true rfl) dX8_paper_73 ⟨Nat.le_refl _, Nat.le_refl _⟩ (fun H locs hP hD hS => ?_)
        exact e_int X hP hD hS dX8_paper_76 ⟨congrArg (fun z => some (Value.int z)) (by subst f_4; simp only [mPaper, if_neg hz_2, em_2, if_neg (by decide : ¬ mWin 4 0 5 = 0), if_neg (by decide : ¬ (4 : Int32) = 0), if_neg (by decide : ¬ (4 : Int32) = 1), if_neg (by decide : ¬ (4 : Int32) = 2), if_neg (by decide : ¬ (4 : Int32) = 3), if_pos]; exact (pts_eq hvI_2).symm), rfl⟩
      · refine lv_tableIn (tgt := 77) (off := 64) hx hb dX8_paper_13 (by rw [f_5]; decide) (by rw [f_5]; decide) (by rw [f_5]; rfl) (by decide) ?_
        refine lv_aload_n hx hb dX8_paper_77 rfl (lv_at hl 0 rfl) ?_
        refine dv_lastDay (rest := []) X mw_423 hP hD hS hA hc_2 ⟨by show _ ≤ d; omega, by show _ ≤ 30 * d; omega⟩ hl.1 (Nat.le_of_ble_eq_true rfl) dX8_paper_78 ⟨Nat.le_refl _, Nat.le_refl _⟩ (fun H locs hP hD hS => ?_)
        exact e_int X hP hD hS dX8_paper_81 ⟨congrArg (fun z => some (Value.int z)) (by subst f_5; simp only [mPaper, if_neg hz_2, em_2, if_neg (by decide : ¬ mWin 5 0 5 = 0), if_neg (by decide : ¬ (5 : Int32) = 0), if_neg (by decide : ¬ (5 : Int32) = 1), if_neg (by decide : ¬ (5 : Int32) = 2), if_neg (by decide : ¬ (5 : Int32) = 3), if_neg (by decide : ¬ (5 : Int32) = 4)]; exact (last_eq hvI_2.1 hvI_2.2.1).symm), rfl⟩
end
section
theorem sum_yes {ar : Nat → Nat → Int32} {f : Nat → Int32} {i n : Nat} (hi : i < n) (h6 : ar 6 i = 0) : mSum ar f (min (i + 1) n) = mSum ar f (min i n) + f i := by
  rw [show min (i + 1) n = i + 1 by omega, show min i n = i by omega, mSum, if_pos h6]
theorem sum_no {ar : Nat → Nat → Int32} {f : Nat → Int32} {i n : Nat} (h : ¬ (i < n ∧ ar 6 i = 0)) : mSum ar f (min (i + 1) n) = mSum ar f (min i n) := by
  rcases Nat.lt_or_ge i n with q | q
  · rw [show min (i + 1) n = i + 1 by omega, show min i n = i by omega, mSum, if_neg (fun z => h ⟨q, z⟩), Int32.add_zero]
  · rw [show min (i + 1) n = n by omega, show min i n = n by omega]
theorem the_back {sc : Nat → Int32} {ar : Nat → Nat → Int32} {i n : Nat} (hn : sc 1 = nI n) (h40 : n ≤ 40) (h : mThe sc ar (nI i) = 0) : ¬ (i < n ∧ ar 6 i = 0) := fun z => the_nI hn h40 z.1 z.2 h
theorem mLap_key (ar : Nat → Nat → Int32) (day : Int32) (i : Nat) : (∀ j, j ≠ 2 → (mLap ar day i).2 j = ar j) ∧ ∀ k, (mLap ar day i).2 2 k = ar 2 k ∨ (mLap ar day i).2 2 k = 0 := by
  induction i with
  | zero => exact ⟨fun j _ => rfl, fun k => Or.inl rfl⟩
  | succ i ih =>
    simp only [mLap]
    by_cases h1 : ar 6 i = 0
    · by_cases h2 : mDat ar i = 0
      · simp only [if_pos h1, if_pos h2]; exact ih
      · by_cases h3 : mLast ar i < day
        · simp only [if_pos h1, if_neg h2, if_pos h3]
          refine ⟨fun j hj => ?_, fun k => ?_⟩
          · rw [← ih.1 j hj]
            simp only [mSet, va_up, if_neg hj]
          · by_cases hk : k = i
            · subst hk
              exact Or.inr (mS_at _ _ _ _)
            · rw [mS_i _ _ _ _ _ _ hk]
              exact ih.2 k
        · simp only [if_pos h1, if_neg h2, if_neg h3]; exact ih
    · simp only [if_neg h1]; exact ih
theorem mLap_inv {ar : Nat → Nat → Int32} {day : Int32} {i v k : Nat} (h : vInv ar v k) : vInv (mLap ar day i).2 v k := by
  obtain ⟨hk, h0, L, P, M, S, e2, e4, e1, e5, hs, hM, hS, h6⟩ := h
  obtain ⟨g, g2⟩ := mLap_key ar day i
  rcases g2 v with q | q
  · exact ⟨hk, by rw [g 0 (by decide)]; exact h0, L, P, M, S, q.trans e2, by rw [g 4 (by decide)]; exact e4, by rw [g 1 (by decide)]; exact e1, by rw [g 5 (by decide)]; exact e5, hs, hM, hS, h6⟩
  · exact ⟨hk, by rw [g 0 (by decide)]; exact h0, 0, P, M, S, q, by rw [g 4 (by decide)]; exact e4, by rw [g 1 (by decide)]; exact e1, by rw [g 5 (by decide)]; exact e5, by omega, hM, hS, h6⟩
theorem vLR_no {k : Nat} {fr le day : Int32} (h : ¬ (k = 2 ∨ k = 3)) : vLR k fr le day = 0 := by
  unfold vLR
  split <;> simp_all
theorem vLL_no {k : Nat} {fr le day : Int32} (h : ¬ (k = 2 ∨ k = 3)) : vLL k fr le day = le := by
  unfold vLL
  split <;> simp_all
theorem vLR_is {k : Nat} {fr le day : Int32} (h : k = 2 ∨ k = 3) : vLR k fr le day = if vLast k fr < day then le else 0 := by
  rcases h with rfl | rfl <;> rfl
theorem vLL_is {k : Nat} {fr le day : Int32} (h : k = 2 ∨ k = 3) : vLL k fr le day = if vLast k fr < day then 0 else le := by
  rcases h with rfl | rfl <;> rfl
/-- one voucher's lapse, on both sides -/
theorem lap_yes {ar B : Nat → Nat → Int32} {day x : Int32} {i k : Nat} (hB : mLap ar day i = (x, B)) (h6 : ar 6 i = 0) (hv : vInv B i k) :
    (mLap ar day (i + 1)).1 = x + vLR k (B 3 i) (B 2 i) day ∧ vo_E k (B 0 i) (B 3 i) (B 1 i) (vLL k (B 3 i) (B 2 i) day) (B 4 i) (B 5 i - 1) = ofE (mLap ar day (i + 1)).2 i ∧ (∀ v, (mLap ar day (i + 1)).2 6 v = B 6 v) ∧ (∀ v, v ≠ i → ofE (mLap ar day (i + 1)).2 v = ofE B v) := by
  obtain ⟨g0, g1, g2, g3⟩ := mLap_rest ar day i
  have ed := mLap_dat ar day i i
  have el := mLap_last ar day i i
  rw [hB] at g0 g1 g2 g3 ed el
  have hk0 : mI (B 0 i) = k := by rw [hv.2.1]; exact nI_clamp (by have := hv.1; omega)
  have same : vo_E k (B 0 i) (B 3 i) (B 1 i) (B 2 i) (B 4 i) (B 5 i - 1) = ofE B i := by rw [ofE, hk0]
  rcases dat_eq hv.1 hv.2.1 with ⟨k23, d0, dl⟩ | ⟨k23, d0⟩
  · have d0' : ¬ mDat ar i = 0 := by rw [← ed]; exact d0
    have dl' : mLast ar i = vLast k (B 3 i) := by rw [← el]; exact dl
    rw [vLR_is k23, vLL_is k23]
    by_cases c : vLast k (B 3 i) < day
    · have e : mLap ar day (i + 1) = (x + ar 2 i, mSet B 2 i 0) := by
        simp only [mLap, hB, if_pos h6, if_neg d0', dl', if_pos c]
      rw [e, if_pos c, if_pos c, show ar 2 i = B 2 i from g1.symm]
      refine ⟨rfl, ?_, fun v => mS_j B 2 i 6 v 0 (by decide), fun v hv' => ofE_S _ _ _ _ _ hv'⟩
      simp only [ofE, mS_at, mS_j _ _ _ _ _ _ (by decide : (0 : Nat) ≠ 2), mS_j _ _ _ _ _ _ (by decide : (1 : Nat) ≠ 2), mS_j _ _ _ _ _ _ (by decide : (3 : Nat) ≠ 2), mS_j _ _ _ _ _ _ (by decide : (4 : Nat) ≠ 2), mS_j _ _ _ _ _ _ (by decide : (5 : Nat) ≠ 2), hk0]
    · have e : mLap ar day (i + 1) = (x, B) := by
        simp only [mLap, hB, if_pos h6, if_neg d0', dl', if_neg c]
      rw [e, if_neg c, if_neg c, Int32.add_zero]
      exact ⟨rfl, same, fun v => rfl, fun v _ => rfl⟩
  · have d0' : mDat ar i = 0 := by rw [← ed]; exact d0
    have e : mLap ar day (i + 1) = (x, B) := by
      simp only [mLap, hB, if_pos h6, if_pos d0']
    rw [e, vLR_no k23, vLL_no k23, Int32.add_zero]
    exact ⟨rfl, same, fun v => rfl, fun v _ => rfl⟩
theorem lap_no {ar : Nat → Nat → Int32} {day : Int32} {i n : Nat} (h : ¬ (i < n ∧ ar 6 i = 0)) : mLap ar day (min (i + 1) n) = mLap ar day (min i n) := by
  rcases Nat.lt_or_ge i n with q | q
  · rw [show min (i + 1) n = i + 1 by omega, show min i n = i by omega, mLap, if_neg (fun z => h ⟨q, z⟩)]
  · rw [show min (i + 1) n = n by omega, show min i n = n by omega]
theorem sp_lt {a b : Nat} (ha : a ≤ 20001) (hb : b ≤ 20001) : nI a - 1 < nI b - 1 ↔ a < b := by
  rw [Int32.lt_iff_toInt_lt, show (1 : Int32) = nI 1 from rfl, pk_sub_toInt (by omega) (by decide), pk_sub_toInt (by omega) (by decide)]
  omega
/-- merge, on both sides: the taker's cell -/
theorem mg_eq {ar : Nat → Nat → Int32} {j i k : Nat} (hji : i ≠ j) (hv : vInv ar j k) (hi : vInv ar i k) :
    vo_E k (ar 0 j) (ar 3 j) (ar 1 j + ar 1 i) (ar 2 j + ar 2 i) (vTP k (ar 4 j) k (ar 4 i)) (vTS k (ar 5 j - 1) k (ar 5 i - 1)) = ofE (mSet (mSet (mSet (mSet ar 1 j (ar 1 j + ar 1 i)) 2 j (ar 2 j + ar 2 i)) 4 j (ar 4 j + ar 4 i)) 5 j (if ar 5 i ≤ ar 5 j then ar 5 j else ar 5 i)) j := by
  obtain ⟨hk, h0, L, P, M, S, e2, e4, e1, e5, hs, hM, hS, h6⟩ := id hv
  obtain ⟨-, -, L', P', M', S', e2', e4', e1', e5', hs', hM', hS', h6'⟩ := id hi
  have hk0 : mI (ar 0 j) = k := by rw [h0]; exact nI_clamp (by omega)
  have e : ofE (mSet (mSet (mSet (mSet ar 1 j (ar 1 j + ar 1 i)) 2 j (ar 2 j + ar 2 i)) 4 j (ar 4 j + ar 4 i)) 5 j (if ar 5 i ≤ ar 5 j then ar 5 j else ar 5 i)) j = vo_E k (ar 0 j) (ar 3 j) (ar 1 j + ar 1 i) (ar 2 j + ar 2 i) (ar 4 j + ar 4 i) ((if ar 5 i ≤ ar 5 j then ar 5 j else ar 5 i) - 1) := by
    simp only [ofE, mS_at, mS_j _ _ _ _ _ _ (by decide : (0 : Nat) ≠ 5), mS_j _ _ _ _ _ _ (by decide : (1 : Nat) ≠ 5), mS_j _ _ _ _ _ _ (by decide : (2 : Nat) ≠ 5), mS_j _ _ _ _ _ _ (by decide : (3 : Nat) ≠ 5), mS_j _ _ _ _ _ _ (by decide : (4 : Nat) ≠ 5), mS_j _ _ _ _ _ _ (by decide : (0 : Nat) ≠ 4), mS_j _ _ _ _ _ _ (by decide : (1 : Nat) ≠ 4), mS_j _ _ _ _ _ _ (by decide : (2 : Nat) ≠ 4), mS_j _ _ _ _ _ _ (by decide : (3 : Nat) ≠ 4), mS_j _ _ _ _ _ _ (by decide : (0 : Nat) ≠ 2), mS_j _ _ _ _ _ _ (by decide : (1 : Nat) ≠ 2), mS_j _ _ _ _ _ _ (by decide : (3 : Nat) ≠ 2), mS_j _ _ _ _ _ _ (by decide : (0 : Nat) ≠ 1), mS_j _ _ _ _ _ _ (by decide : (3 : Nat) ≠ 1), hk0]
  rw [e]
  by_cases k3 : k = 3
  · subst k3
    have eS : vTS 3 (ar 5 j - 1) 3 (ar 5 i - 1) = (if ar 5 i ≤ ar 5 j then ar 5 j else ar 5 i) - 1 := by
      show (if ar 5 j - 1 < ar 5 i - 1 then ar 5 i - 1 else ar 5 j - 1) = _
      rw [e5, e5']
      rcases Nat.lt_or_ge S S' with q | q
      · rw [if_pos ((sp_lt hS hS').mpr q), if_neg (nI_ge q (by omega))]
      · rw [if_neg (fun z => absurd ((sp_lt hS hS').mp z) (by omega)), if_pos (nI_le q (by omega))]
    rw [eS]
    exact vo_po (by decide) _ _ _ _ _ _ _
  · rw [vo_ls k3 _ _ _ _ _ (vTS k (ar 5 j - 1) k (ar 5 i - 1)) ((if ar 5 i ≤ ar 5 j then ar 5 j else ar 5 i) - 1)]
    rcases Nat.lt_or_ge k 6 with q | q
    · exact vo_po q _ _ _ _ _ _ _
    · have eP : vTP k (ar 4 j) k (ar 4 i) = ar 4 j + ar 4 i := by
        rcases (by omega : k = 6 ∨ k = 7) with rfl | rfl <;> rfl
      rw [eP]
/-! what every call keeps -/
theorem inv_pass {sc : Nat → Int32} {ar : Nat → Nat → Int32} {n : Nat} (h : mInv sc ar n) (dd : Int32) : mInv (mPass sc ar dd).2.1 (mPass sc ar dd).2.2 n := by
  unfold mPass
  by_cases c1 : mWin dd 1 1000 = 0
  · rw [if_pos c1]; exact h
  · rw [if_neg c1]
    by_cases c2 : sc 0 + dd ≤ 20000
    · rw [if_pos c2]
      obtain ⟨hn, h40, ⟨d0, e0, hd0⟩, hv, ho⟩ := h
      obtain ⟨w1, w2⟩ := win_ii c1
      obtain ⟨G, g1, g2, eG⟩ := g_nat (hi := 1000) (by decide) w1 w2
      refine ⟨hn, h40, ⟨d0 + G, ?_, ?_⟩, hv, ho⟩
      · show sc 0 + dd = _
        rw [e0, eG, nI_add]
      · rw [e0, eG, nI_add] at c2
        exact (nI_leI (b := 20000) (by omega) (by decide)).mp c2
    · rw [if_neg c2]; exact h
theorem inv_issue {sc : Nat → Int32} {ar : Nat → Nat → Int32} {n : Nat} (h : mInv sc ar n) (k am : Int32) : ∃ n', mInv (mIssue sc ar k am).2.1 (mIssue sc ar k am).2.2 n' := by
  unfold mIssue
  by_cases c1 : mWin k 0 7 = 0
  · rw [if_pos c1]; exact ⟨n, h⟩
  · rw [if_neg c1]
    by_cases c2 : mWin am 1 100000 = 0
    · rw [if_pos c2]; exact ⟨n, h⟩
    · rw [if_neg c2]
      by_cases c3 : sc 1 = 40
      · rw [if_pos c3]; exact ⟨n, h⟩
      · rw [if_neg c3]
        obtain ⟨hn, h40, ⟨d0, e0, hd0⟩, hv, ho⟩ := h
        have hn40 : n < 40 := by
          rcases Nat.lt_or_ge n 40 with q | q
          · exact q
          · exact absurd (by rw [hn, show n = 40 by omega]; rfl) c3
        have em : mI (sc 1) = n := by rw [hn]; exact nI_clamp (by omega)
        obtain ⟨w1, w2⟩ := win_ii c1
        obtain ⟨K, hK, eK⟩ := nI_of w1
        have hK7 : K ≤ 7 := by
          rcases Nat.lt_or_ge 7 K with q | q
          · rw [eK] at w2; exact absurd (nI_lt q hK) w2
          · exact q
        obtain ⟨w3, w4⟩ := win_ii c2
        obtain ⟨G, g1, g2, eG⟩ := g_nat (hi := 100000) (by decide) w3 w4
        rw [em]
        dsimp only
        refine ⟨n + 1, ?_, by omega, ⟨d0, e0, hd0⟩, fun v hvn => ?_, fun v hvn => ?_⟩
        · show sc 1 + 1 = _
          rw [hn, nI_1]
        · by_cases hvv : v = n
          · subst hvv
            obtain ⟨o4, o5, o6⟩ := ho v (Nat.le_refl v)
            refine ⟨K, hK7, ?_, G, 0, G, 0, ?_, ?_, ?_, ?_, by omega, g2, by omega, fun _ => rfl⟩
            · rw [mS_j _ _ _ _ _ _ (by decide : (0 : Nat) ≠ 3), mS_j _ _ _ _ _ _ (by decide : (0 : Nat) ≠ 2), mS_j _ _ _ _ _ _ (by decide : (0 : Nat) ≠ 1), mS_at]; exact eK
            · rw [mS_j _ _ _ _ _ _ (by decide : (2 : Nat) ≠ 3), mS_at]; exact eG
            · rw [mS_j _ _ _ _ _ _ (by decide : (4 : Nat) ≠ 3), mS_j _ _ _ _ _ _ (by decide : (4 : Nat) ≠ 2), mS_j _ _ _ _ _ _ (by decide : (4 : Nat) ≠ 1), mS_j _ _ _ _ _ _ (by decide : (4 : Nat) ≠ 0)]; exact o4
            · rw [mS_j _ _ _ _ _ _ (by decide : (1 : Nat) ≠ 3), mS_j _ _ _ _ _ _ (by decide : (1 : Nat) ≠ 2), mS_at]; exact eG
            · rw [mS_j _ _ _ _ _ _ (by decide : (5 : Nat) ≠ 3), mS_j _ _ _ _ _ _ (by decide : (5 : Nat) ≠ 2), mS_j _ _ _ _ _ _ (by decide : (5 : Nat) ≠ 1), mS_j _ _ _ _ _ _ (by decide : (5 : Nat) ≠ 0)]; exact o5
          · obtain ⟨k0, hk0⟩ := hv v (by omega)
            refine ⟨k0, ?_⟩
            unfold vInv at hk0 ⊢
            simp only [mS_i _ _ _ _ _ _ hvv]
            exact hk0
        · obtain ⟨o4, o5, o6⟩ := ho v (by omega)
          have hvv : v ≠ n := by omega
          simp only [mS_i _ _ _ _ _ _ hvv]
          exact ⟨o4, o5, o6⟩
theorem inv_lapse {sc : Nat → Int32} {ar : Nat → Nat → Int32} {n : Nat} (h : mInv sc ar n) : mInv (mLapse sc ar).2.1 (mLapse sc ar).2.2 n := by
  obtain ⟨hn, h40, hd, hv, ho⟩ := h
  obtain ⟨g, -⟩ := mLap_key ar (sc 0) (mI (sc 1))
  refine ⟨hn, h40, hd, fun v hvn => ?_, fun v hvn => ?_⟩
  · obtain ⟨k, hk⟩ := hv v hvn
    exact ⟨k, mLap_inv hk⟩
  · show (mLap ar (sc 0) (mI (sc 1))).2 4 v = 0 ∧ (mLap ar (sc 0) (mI (sc 1))).2 5 v = 0 ∧ (mLap ar (sc 0) (mI (sc 1))).2 6 v = 0
    rw [g 4 (by decide), g 5 (by decide), g 6 (by decide)]
    exact ho v hvn
theorem inv_spend {sc : Nat → Int32} {ar : Nat → Nat → Int32} {n : Nat} (h : mInv sc ar n) (v g : Int32) : mInv (mSpend sc ar v g).2.1 (mSpend sc ar v g).2.2 n := by
  unfold mSpend
  by_cases c1 : mThe sc ar v = 0
  · rw [if_pos c1]; exact h
  rw [if_neg c1]
  by_cases c2 : mWin g 1 100000 = 0
  · rw [if_pos c2]; exact h
  rw [if_neg c2]
  by_cases c3 : ar 0 (mI v) = 3 ∧ ar 5 (mI v) = sc 0 + 1
  · rw [if_pos c3]; exact h
  rw [if_neg c3]
  by_cases c4 : mVal ar (mI v) (sc 0) < g
  · rw [if_pos c4]; exact h
  rw [if_neg c4]
  by_cases c5 : g + mFee ar (mI v) g ≤ ar 2 (mI v)
  · rw [if_pos c5]
    obtain ⟨hn, h40, ⟨d0, e0, hd0⟩, hv, ho⟩ := h
    obtain ⟨j, hj, ev, h6⟩ := the_in hn h40 c1
    have em : mI v = j := by rw [ev]; exact nI_clamp (by omega)
    rw [em] at c5 ⊢
    dsimp only
    obtain ⟨k, hk⟩ := hv j hj
    obtain ⟨ef, G, F, hG1, hG2, eg, hF, eF⟩ := fee_w hk c2
    obtain ⟨hk7, h0, L, P, M, S, e2, e4, e1, e5, hs, hM, hS, hp6⟩ := id hk
    rw [ef, eF, eg, e2, nI_add] at c5
    have hle : G + F ≤ L := (nI_leI (by omega) (by omega)).mp c5
    have eL : ar 2 j - (g + mFee ar j g) = nI (L - (G + F)) := by rw [ef, eF, eg, e2, nI_add, pk_sub hle]
    have eS : sc 0 + 1 = nI (d0 + 1) := by rw [e0, nI_1]
    refine ⟨hn, h40, ⟨d0, e0, hd0⟩, fun w hw => ?_, fun w hw => ?_⟩
    · by_cases hwj : w = j
      · subst hwj
        refine ⟨k, hk7, ?_⟩
        rcases has_eq hk7 h0 with ⟨k6, hh⟩ | ⟨k6, hh⟩
        · simp only [if_pos hh]
          refine ⟨?_, L - (G + F), P, M, d0 + 1, ?_, ?_, ?_, ?_, by omega, hM, by omega, hp6⟩
          · rw [mS_j _ _ _ _ _ _ (by decide : (0 : Nat) ≠ 5), mS_j _ _ _ _ _ _ (by decide : (0 : Nat) ≠ 2)]; exact h0
          · rw [mS_j _ _ _ _ _ _ (by decide : (2 : Nat) ≠ 5), mS_at]; exact eL
          · rw [mS_j _ _ _ _ _ _ (by decide : (4 : Nat) ≠ 5), mS_j _ _ _ _ _ _ (by decide : (4 : Nat) ≠ 2)]; exact e4
          · rw [mS_j _ _ _ _ _ _ (by decide : (1 : Nat) ≠ 5), mS_j _ _ _ _ _ _ (by decide : (1 : Nat) ≠ 2)]; exact e1
          · rw [mS_at]; exact eS
        · simp only [if_neg hh]
          refine ⟨?_, L - (G + F), P + G / 100, M, d0 + 1, ?_, ?_, ?_, ?_, by omega, hM, by omega, fun q => absurd q (by omega)⟩
          · rw [mS_j _ _ _ _ _ _ (by decide : (0 : Nat) ≠ 4), mS_j _ _ _ _ _ _ (by decide : (0 : Nat) ≠ 5), mS_j _ _ _ _ _ _ (by decide : (0 : Nat) ≠ 2)]; exact h0
          · rw [mS_j _ _ _ _ _ _ (by decide : (2 : Nat) ≠ 4), mS_j _ _ _ _ _ _ (by decide : (2 : Nat) ≠ 5), mS_at]; exact eL
          · rw [mS_at, e4, eg, show (100 : Int32) = nI 100 from rfl, pk_div (by omega) (by decide) (by decide), nI_add]
          · rw [mS_j _ _ _ _ _ _ (by decide : (1 : Nat) ≠ 4), mS_j _ _ _ _ _ _ (by decide : (1 : Nat) ≠ 5), mS_j _ _ _ _ _ _ (by decide : (1 : Nat) ≠ 2)]; exact e1
          · rw [mS_j _ _ _ _ _ _ (by decide : (5 : Nat) ≠ 4), mS_at]; exact eS
      · obtain ⟨k0, hk0⟩ := hv w hw
        refine ⟨k0, ?_⟩
        unfold vInv at hk0 ⊢
        by_cases hh : mHas ar j = 0
        · simp only [if_pos hh, mS_i _ _ _ _ _ _ hwj]; exact hk0
        · simp only [if_neg hh, mS_i _ _ _ _ _ _ hwj]; exact hk0
    · have hwj : w ≠ j := by omega
      by_cases hh : mHas ar j = 0
      · simp only [if_pos hh, mS_i _ _ _ _ _ _ hwj]; exact ho w hw
      · simp only [if_neg hh, mS_i _ _ _ _ _ _ hwj]; exact ho w hw
  · rw [if_neg c5]; exact h
theorem inv_merge {sc : Nat → Int32} {ar : Nat → Nat → Int32} {n : Nat} (h : mInv sc ar n) (v v2 : Int32) : mInv (mMerge sc ar v v2).2.1 (mMerge sc ar v v2).2.2 n := by
  unfold mMerge
  by_cases c1 : mThe sc ar v = 0
  · rw [if_pos c1]; exact h
  rw [if_neg c1]
  by_cases c2 : mThe sc ar v2 = 0
  · rw [if_pos c2]; exact h
  rw [if_neg c2]
  by_cases c3 : v = v2
  · rw [if_pos c3]; exact h
  rw [if_neg c3]
  by_cases c4 : ar 0 (mI v) = ar 0 (mI v2)
  · rw [if_pos c4]
    by_cases c5 : ar 1 (mI v) + ar 1 (mI v2) ≤ 100000
    · rw [if_pos c5]
      obtain ⟨hn, h40, hd, hv, ho⟩ := h
      obtain ⟨j, hj, ev, h6⟩ := the_in hn h40 c1
      obtain ⟨i, hi, ei, h6i⟩ := the_in hn h40 c2
      have em : mI v = j := by rw [ev]; exact nI_clamp (by omega)
      have em2 : mI v2 = i := by rw [ei]; exact nI_clamp (by omega)
      rw [em, em2] at c4 c5 ⊢
      dsimp only
      have hij : j ≠ i := fun z => c3 (by rw [ev, ei, z])
      obtain ⟨k, hk⟩ := hv j hj
      obtain ⟨k', hk'⟩ := hv i hi
      obtain ⟨hk7, h0, L, P, M, S, e2, e4, e1, e5, hs, hM, hS, hp6⟩ := id hk
      obtain ⟨hk7', h0', L', P', M', S', e2', e4', e1', e5', hs', hM', hS', hp6'⟩ := id hk'
      have ekk : k = k' := (nI_eq (by omega) (by omega)).mp (by rw [← h0, ← h0']; exact c4)
      have hMM : M + M' ≤ 100000 := by
        rw [e1, e1', nI_add] at c5
        exact (nI_leI (b := 100000) (by omega) (by decide)).mp c5
      refine ⟨hn, h40, hd, fun w hw => ?_, fun w hw => ?_⟩
      · by_cases hwj : w = j
        · subst hwj
          refine ⟨k, hk7, ?_, L + L', P + P', M + M', if S' ≤ S then S else S', ?_, ?_, ?_, ?_, by omega, hMM, by split <;> assumption, fun q => by rw [hp6 q, hp6' (by omega)]⟩
          · rw [mS_j _ _ _ _ _ _ (by decide : (0 : Nat) ≠ 6), mS_j _ _ _ _ _ _ (by decide : (0 : Nat) ≠ 5), mS_j _ _ _ _ _ _ (by decide : (0 : Nat) ≠ 4), mS_j _ _ _ _ _ _ (by decide : (0 : Nat) ≠ 2), mS_j _ _ _ _ _ _ (by decide : (0 : Nat) ≠ 1)]; exact h0
          · rw [mS_j _ _ _ _ _ _ (by decide : (2 : Nat) ≠ 6), mS_j _ _ _ _ _ _ (by decide : (2 : Nat) ≠ 5), mS_j _ _ _ _ _ _ (by decide : (2 : Nat) ≠ 4), mS_at, e2, e2', nI_add]
          · rw [mS_j _ _ _ _ _ _ (by decide : (4 : Nat) ≠ 6), mS_j _ _ _ _ _ _ (by decide : (4 : Nat) ≠ 5), mS_at, e4, e4', nI_add]
          · rw [mS_j _ _ _ _ _ _ (by decide : (1 : Nat) ≠ 6), mS_j _ _ _ _ _ _ (by decide : (1 : Nat) ≠ 5), mS_j _ _ _ _ _ _ (by decide : (1 : Nat) ≠ 4), mS_j _ _ _ _ _ _ (by decide : (1 : Nat) ≠ 2), mS_at, e1, e1', nI_add]
          · rw [mS_j _ _ _ _ _ _ (by decide : (5 : Nat) ≠ 6), mS_at, e5, e5']
            by_cases q : S' ≤ S
            · rw [if_pos (nI_le q (by omega)), if_pos q]
            · rw [if_neg (nI_ge (by omega) (by omega)), if_neg q]
        · obtain ⟨k0, hk0⟩ := hv w hw
          refine ⟨k0, ?_⟩
          unfold vInv at hk0 ⊢
          simp only [mS_j _ _ _ _ _ _ (by decide : (0 : Nat) ≠ 6), mS_j _ _ _ _ _ _ (by decide : (1 : Nat) ≠ 6), mS_j _ _ _ _ _ _ (by decide : (2 : Nat) ≠ 6), mS_j _ _ _ _ _ _ (by decide : (4 : Nat) ≠ 6), mS_j _ _ _ _ _ _ (by decide : (5 : Nat) ≠ 6), mS_i _ _ _ _ _ _ hwj]
          exact hk0
      · have hwj : w ≠ j := by omega
        have hwi : w ≠ i := by omega
        simp only [mS_i _ _ _ _ _ _ hwi, mS_i _ _ _ _ _ _ hwj]
        exact ho w hw
    · rw [if_neg c5]; exact h
  · rw [if_neg c4]; exact h
end
section
theorem pw_X8_93 : PW RX8 93 "VoucherOffice" yX8_leftOfAll cX8_leftOfAll 4 (some .int) 0 := ⟨mw_439, mw_441, mp_1, mw_1, mw_442, by decide +kernel⟩
set_option maxHeartbeats 4000000 in
set_option maxRecDepth 100000 in
theorem lp_X8_total {p : Program} {l : Launch} {e : Env} {s : State} {m : MethodId} {args : Array Value} {below : List Frame} {meth : Method} {c : Code} {Q : State → Prop} {A : Nat → Prop} {D : va_G} {cI cZ cP : ClassId} {h p0 p1 ha n : Nat} {row : Nat → Option Nat} {pv : Nat → Nat} {sc : Nat → Int32} {ar : Nat → Nat → Int32} {d : Nat} {ws : va_W} (hd : 4 ≤ d) (X : Cx p m c meth s args "VoucherOffice" cX8_total 5 (some .int) D (vTy cI cZ cP)) (hA : ∀ q, s.heap.size ≤ q → A q) (hO : of_at cP ws h p0 p1 ha row pv sc ar n) (hI : mInv sc ar n) {t : Int32} (kend : ∀ (H : Heap) (locs : List Loc) (L : Array Slot), va_P D vwCl ws H → va_D A ws → va_S A s.heap H locs → lv_has L 5 [(3, .int (nI 40)), (2, .int (mSum ar (fun i => mVal ar i t) (min 40 n))), (0, .ref h), (1, .int t)] → W p l e (rm_d d 0 0) s m args below meth c H locs 0 0 Q (F0 m 51 L [])) : ∀ (j i : Nat), i + j = 40 → ∀ (H : Heap) (locs : List Loc) (L : Array Slot), va_P D vwCl ws H → va_D A ws → va_S A s.heap H locs → lv_has L 5 [(3, .int (nI i)), (2, .int (mSum ar (fun i => mVal ar i t) (min i n))), (0, .ref h), (1, .int t)] → W p l e (rm_d d 0 0) s m args below meth c H locs 0 0 Q (F0 m 18 L []) := by
  obtain ⟨hx, hb, hr, hml, hown, hts, hK, hlk, hxK⟩ := id X
  obtain ⟨hn, h40, hday, hvs, hout⟩ := id hI
  intro j
  induction j with
  | zero =>
    intro i hij H locs L hP hD hS hl
    have hi : i = 40 := by omega
    subst hi
    refine lv_iload_n hx hb dX8_total_18 rfl (lv_at hl 0 rfl) ?_
    refine lv_bipush (v := 40) hx hb dX8_total_19 (by decide) ?_
    refine lv_icmp_ge (tgt := 51) hx hb dX8_total_21 (by decide) (fun c_9 => ?_) (fun c_9 => ?_)
    · exact kend H locs L hP hD hS hl
    · exact absurd (by decide) c_9
  | succ j ih =>
    intro i hij H locs L hP hD hS hl
    have hi : i < 40 := by omega
    refine lv_iload_n hx hb dX8_total_18 rfl (lv_at hl 0 rfl) ?_
    refine lv_bipush (v := 40) hx hb dX8_total_19 (by decide) ?_
    refine lv_icmp_ge (tgt := 51) hx hb dX8_total_21 (by decide) (fun c_9 => ?_) (fun c_9 => ?_)
    · exact absurd c_9 (nI_ge (b := 40) hi (by decide))
    · skip
      refine lv_aload_n hx hb dX8_total_24 rfl (lv_at hl 2 rfl) ?_
      refine lv_iload_n hx hb dX8_total_25 rfl (lv_at hl 0 rfl) ?_
      refine g_priv (ci := 8) (cq := (RX8, TX8, 7)) (As := [.int (nI i)]) (rest := []) pw_X8_43 X (c_X8_find l D cI cZ cP 1 (by decide) hO hn h40 ((nI i))) hP hD hS hA hO.1 rfl rfl ⟨by show _ ≤ d; omega, by show _ ≤ 30 * d; omega⟩ rfl hl.1 rfl (Nat.le_of_ble_eq_true rfl) dX8_total_26 ⟨Nat.le_refl _, Nat.le_refl _⟩ (fun v1 ws1 H locs hq hP hD hS => ?_)
      obtain ⟨ew, hq⟩ := hq
      rw [ew] at hP hD
      rcases hq with ⟨hz_26, rfl⟩ | ⟨j_26, a_26, hj_26, ev_26, h6_26, hr_26, hz_26, rfl⟩
      · -- none
        refine W.eq (g2 := F0 m 29 L [.null]) rfl ?_
        refine lv_astoreN (lv' := [(4, .null), (3, .int (nI i)), (2, .int (mSum ar (fun i => mVal ar i t) (min i n))), (0, .ref h), (1, .int t)]) hx hb dX8_total_29 hl (by decide) rfl (fun L hl => ?_)
        refine lv_aloadN hx hb dX8_total_31 (lv_at hl 0 rfl) ?_
        refine lv_ifnullN (tgt := 45) hx hb dX8_total_33 (by decide) ?_
        refine lv_iinc (v := ((nI i) + 1)) (lv' := [(3, .int ((nI i) + 1)), (4, .null), (2, .int (mSum ar (fun i => mVal ar i t) (min i n))), (0, .ref h), (1, .int t)]) hx hb dX8_total_45 hl (k := 1) rfl rfl (by decide) rfl (fun L hl => ?_)
        refine lv_goto (tgt := 18) hx hb dX8_total_48 (by decide) ?_
        have e1 : ((nI i) + 1) = nI (i + 1) := nI_1 i
        have e2 : (mSum ar (fun i => mVal ar i t) (min i n)) = (mSum ar (fun i => mVal ar i t) (min (i + 1) n)) := (sum_no (the_back hn h40 hz_26)).symm
        have hl := lv_sub hl [0, 2, 3, 4] rfl
        have hl : lv_has L 5 [(3, .int ((nI i) + 1)), (2, .int (mSum ar (fun i => mVal ar i t) (min i n))), (0, .ref h), (1, .int t)] := hl
        rw [e1, e2] at hl
        exact ih (i + 1) (by omega) H locs L hP hD hS hl
      · -- found
        refine W.eq (g2 := F0 m 29 L [.ref a_26]) rfl ?_
        have hc_26 := (hO.get (by omega) hr_26).2
        obtain ⟨k_26, hvI_26⟩ := hvs j_26 hj_26
        have ek_26 : mI (ar 0 j_26) = k_26 := by rw [hvI_26.2.1]; exact nI_clamp (by have := hvI_26.1; omega)
        have em_26 : mI ((nI i)) = j_26 := by rw [ev_26]; exact nI_clamp (by omega)
        rw [ofE, ek_26] at hc_26
        refine lv_astore (lv' := [(4, .ref a_26), (3, .int (nI i)), (2, .int (mSum ar (fun i => mVal ar i t) (min i n))), (0, .ref h), (1, .int t)]) hx hb dX8_total_29 hl (by decide) rfl (fun L hl => ?_)
        refine lv_aload hx hb dX8_total_31 (lv_at hl 0 rfl) ?_
        refine lv_ifnull hx hb dX8_total_33 ?_
        refine lv_iload_n hx hb dX8_total_36 rfl (lv_at hl 2 rfl) ?_
        refine lv_aload hx hb dX8_total_37 (lv_at hl 0 rfl) ?_
        refine lv_iload_n hx hb dX8_total_39 rfl (lv_at hl 4 rfl) ?_
        refine dv_valueOn (rest := [.int (mSum ar (fun i => mVal ar i t) (min i n))]) X mw_181 hP hD hS hA hc_26 ⟨by show _ ≤ d; omega, by show _ ≤ 30 * d; omega⟩ hl.1 (Nat.le_of_ble_eq_true rfl) dX8_total_40 ⟨Nat.le_refl _, Nat.le_refl _⟩ (fun H locs hP hD hS => ?_)
        refine lv_iadd hx hb dX8_total_43 ?_
        refine lv_istore_n (lv' := [(2, .int ((mSum ar (fun i => mVal ar i t) (min i n)) + (vVal k_26 (ar 3 j_26) (ar 2 j_26) (ar 4 j_26) t))), (4, .ref a_26), (3, .int (nI i)), (0, .ref h), (1, .int t)]) hx hb dX8_total_44 rfl hl (by decide) rfl (fun L hl => ?_)
        refine lv_iinc (v := ((nI i) + 1)) (lv' := [(3, .int ((nI i) + 1)), (2, .int ((mSum ar (fun i => mVal ar i t) (min i n)) + (vVal k_26 (ar 3 j_26) (ar 2 j_26) (ar 4 j_26) t))), (4, .ref a_26), (0, .ref h), (1, .int t)]) hx hb dX8_total_45 hl (k := 2) rfl rfl (by decide) rfl (fun L hl => ?_)
        refine lv_goto (tgt := 18) hx hb dX8_total_48 (by decide) ?_
        have e1 : ((nI i) + 1) = nI (i + 1) := nI_1 i
        have eij : i = j_26 := (nI_eq (by omega) (by omega)).mp ev_26
        have e2 : ((mSum ar (fun i => mVal ar i t) (min i n)) + (vVal k_26 (ar 3 j_26) (ar 2 j_26) (ar 4 j_26) t)) = (mSum ar (fun i => mVal ar i t) (min (i + 1) n)) := by
          rw [sum_yes (i := i) (by omega) (by rw [eij]; exact h6_26)]
          rw [eij]
          all_goals exact congrArg (fun z => _ + z) ((val_eq hvI_26.1 hvI_26.2.1 t).symm)
        have hl := lv_sub hl [0, 1, 3, 4] rfl
        have hl : lv_has L 5 [(3, .int ((nI i) + 1)), (2, .int ((mSum ar (fun i => mVal ar i t) (min i n)) + (vVal k_26 (ar 3 j_26) (ar 2 j_26) (ar 4 j_26) t))), (0, .ref h), (1, .int t)] := hl
        rw [e1, e2] at hl
        exact ih (i + 1) (by omega) H locs L hP hD hS hl
set_option maxHeartbeats 4000000 in
set_option maxRecDepth 100000 in
theorem lp_X8_leftOfAll {p : Program} {l : Launch} {e : Env} {s : State} {m : MethodId} {args : Array Value} {below : List Frame} {meth : Method} {c : Code} {Q : State → Prop} {A : Nat → Prop} {D : va_G} {cI cZ cP : ClassId} {h p0 p1 ha n : Nat} {row : Nat → Option Nat} {pv : Nat → Nat} {sc : Nat → Int32} {ar : Nat → Nat → Int32} {d : Nat} {ws : va_W} (hd : 2 ≤ d) (X : Cx p m c meth s args "VoucherOffice" cX8_leftOfAll 4 (some .int) D (vTy cI cZ cP)) (hA : ∀ q, s.heap.size ≤ q → A q) (hO : of_at cP ws h p0 p1 ha row pv sc ar n) (hI : mInv sc ar n) (kend : ∀ (H : Heap) (locs : List Loc) (L : Array Slot), va_P D vwCl ws H → va_D A ws → va_S A s.heap H locs → lv_has L 4 [(2, .int (nI 40)), (1, .int (mSum ar (fun i => ar 2 i) (min 40 n))), (0, .ref h)] → W p l e (rm_d d 0 0) s m args below meth c H locs 0 0 Q (F0 m 33 L [])) : ∀ (j i : Nat), i + j = 40 → ∀ (H : Heap) (locs : List Loc) (L : Array Slot), va_P D vwCl ws H → va_D A ws → va_S A s.heap H locs → lv_has L 4 [(2, .int (nI i)), (1, .int (mSum ar (fun i => ar 2 i) (min i n))), (0, .ref h)] → W p l e (rm_d d 0 0) s m args below meth c H locs 0 0 Q (F0 m 4 L []) := by
  obtain ⟨hx, hb, hr, hml, hown, hts, hK, hlk, hxK⟩ := id X
  obtain ⟨hn, h40, hday, hvs, hout⟩ := id hI
  intro j
  induction j with
  | zero =>
    intro i hij H locs L hP hD hS hl
    have hi : i = 40 := by omega
    subst hi
    refine lv_iload_n hx hb dX8_leftOfAll_4 rfl (lv_at hl 0 rfl) ?_
    refine lv_bipush (v := 40) hx hb dX8_leftOfAll_5 (by decide) ?_
    refine lv_icmp_ge (tgt := 33) hx hb dX8_leftOfAll_7 (by decide) (fun c_9 => ?_) (fun c_9 => ?_)
    · exact kend H locs L hP hD hS hl
    · exact absurd (by decide) c_9
  | succ j ih =>
    intro i hij H locs L hP hD hS hl
    have hi : i < 40 := by omega
    refine lv_iload_n hx hb dX8_leftOfAll_4 rfl (lv_at hl 0 rfl) ?_
    refine lv_bipush (v := 40) hx hb dX8_leftOfAll_5 (by decide) ?_
    refine lv_icmp_ge (tgt := 33) hx hb dX8_leftOfAll_7 (by decide) (fun c_9 => ?_) (fun c_9 => ?_)
    · exact absurd c_9 (nI_ge (b := 40) hi (by decide))
    · skip
      refine lv_aload_n hx hb dX8_leftOfAll_10 rfl (lv_at hl 2 rfl) ?_
      refine lv_iload_n hx hb dX8_leftOfAll_11 rfl (lv_at hl 0 rfl) ?_
      refine g_priv (ci := 8) (cq := (RX8, TX8, 7)) (As := [.int (nI i)]) (rest := []) pw_X8_43 X (c_X8_find l D cI cZ cP 1 (by decide) hO hn h40 ((nI i))) hP hD hS hA hO.1 rfl rfl ⟨by show _ ≤ d; omega, by show _ ≤ 30 * d; omega⟩ rfl hl.1 rfl (Nat.le_of_ble_eq_true rfl) dX8_leftOfAll_12 ⟨Nat.le_refl _, Nat.le_refl _⟩ (fun v1 ws1 H locs hq hP hD hS => ?_)
      obtain ⟨ew, hq⟩ := hq
      rw [ew] at hP hD
      rcases hq with ⟨hz_12, rfl⟩ | ⟨j_12, a_12, hj_12, ev_12, h6_12, hr_12, hz_12, rfl⟩
      · -- none
        refine W.eq (g2 := F0 m 15 L [.null]) rfl ?_
        refine lv_astore_nN (lv' := [(3, .null), (2, .int (nI i)), (1, .int (mSum ar (fun i => ar 2 i) (min i n))), (0, .ref h)]) hx hb dX8_leftOfAll_15 rfl hl (by decide) rfl (fun L hl => ?_)
        refine lv_aload_nN hx hb dX8_leftOfAll_16 rfl (lv_at hl 0 rfl) ?_
        refine lv_ifnullN (tgt := 27) hx hb dX8_leftOfAll_17 (by decide) ?_
        refine lv_iinc (v := ((nI i) + 1)) (lv' := [(2, .int ((nI i) + 1)), (3, .null), (1, .int (mSum ar (fun i => ar 2 i) (min i n))), (0, .ref h)]) hx hb dX8_leftOfAll_27 hl (k := 1) rfl rfl (by decide) rfl (fun L hl => ?_)
        refine lv_goto (tgt := 4) hx hb dX8_leftOfAll_30 (by decide) ?_
        have e1 : ((nI i) + 1) = nI (i + 1) := nI_1 i
        have e2 : (mSum ar (fun i => ar 2 i) (min i n)) = (mSum ar (fun i => ar 2 i) (min (i + 1) n)) := (sum_no (the_back hn h40 hz_12)).symm
        have hl := lv_sub hl [0, 2, 3] rfl
        have hl : lv_has L 4 [(2, .int ((nI i) + 1)), (1, .int (mSum ar (fun i => ar 2 i) (min i n))), (0, .ref h)] := hl
        rw [e1, e2] at hl
        exact ih (i + 1) (by omega) H locs L hP hD hS hl
      · -- found
        refine W.eq (g2 := F0 m 15 L [.ref a_12]) rfl ?_
        have hc_12 := (hO.get (by omega) hr_12).2
        obtain ⟨k_12, hvI_12⟩ := hvs j_12 hj_12
        have ek_12 : mI (ar 0 j_12) = k_12 := by rw [hvI_12.2.1]; exact nI_clamp (by have := hvI_12.1; omega)
        have em_12 : mI ((nI i)) = j_12 := by rw [ev_12]; exact nI_clamp (by omega)
        rw [ofE, ek_12] at hc_12
        refine lv_astore_n (lv' := [(3, .ref a_12), (2, .int (nI i)), (1, .int (mSum ar (fun i => ar 2 i) (min i n))), (0, .ref h)]) hx hb dX8_leftOfAll_15 rfl hl (by decide) rfl (fun L hl => ?_)
        refine lv_aload_n hx hb dX8_leftOfAll_16 rfl (lv_at hl 0 rfl) ?_
        refine lv_ifnull hx hb dX8_leftOfAll_17 ?_
        refine lv_iload_n hx hb dX8_leftOfAll_20 rfl (lv_at hl 2 rfl) ?_
        refine lv_aload_n hx hb dX8_leftOfAll_21 rfl (lv_at hl 0 rfl) ?_
        refine vo_gL X hP hc_12 mw_73 (Or.inl rfl) dX8_leftOfAll_22 ?_
        refine lv_iadd hx hb dX8_leftOfAll_25 ?_
        refine lv_istore_n (lv' := [(1, .int ((mSum ar (fun i => ar 2 i) (min i n)) + (ar 2 j_12))), (3, .ref a_12), (2, .int (nI i)), (0, .ref h)]) hx hb dX8_leftOfAll_26 rfl hl (by decide) rfl (fun L hl => ?_)
        refine lv_iinc (v := ((nI i) + 1)) (lv' := [(2, .int ((nI i) + 1)), (1, .int ((mSum ar (fun i => ar 2 i) (min i n)) + (ar 2 j_12))), (3, .ref a_12), (0, .ref h)]) hx hb dX8_leftOfAll_27 hl (k := 2) rfl rfl (by decide) rfl (fun L hl => ?_)
        refine lv_goto (tgt := 4) hx hb dX8_leftOfAll_30 (by decide) ?_
        have e1 : ((nI i) + 1) = nI (i + 1) := nI_1 i
        have eij : i = j_12 := (nI_eq (by omega) (by omega)).mp ev_12
        have e2 : ((mSum ar (fun i => ar 2 i) (min i n)) + (ar 2 j_12)) = (mSum ar (fun i => ar 2 i) (min (i + 1) n)) := by
          rw [sum_yes (i := i) (by omega) (by rw [eij]; exact h6_12)]
          rw [eij]
          all_goals exact congrArg (fun z => _ + z) (rfl)
        have hl := lv_sub hl [0, 1, 3] rfl
        have hl : lv_has L 4 [(2, .int ((nI i) + 1)), (1, .int ((mSum ar (fun i => ar 2 i) (min i n)) + (ar 2 j_12))), (0, .ref h)] := hl
        rw [e1, e2] at hl
        exact ih (i + 1) (by omega) H locs L hP hD hS hl
set_option maxHeartbeats 4000000 in
set_option maxRecDepth 100000 in
theorem lp_X8_lapse {p : Program} {l : Launch} {e : Env} {s : State} {m : MethodId} {args : Array Value} {below : List Frame} {meth : Method} {c : Code} {Q : State → Prop} {A : Nat → Prop} {D : va_G} {cI cZ cP : ClassId} {h p0 p1 ha n : Nat} {row : Nat → Option Nat} {pv : Nat → Nat} {sc : Nat → Int32} {ar : Nat → Nat → Int32} {d : Nat} {ws0 : va_W} (hd : 2 ≤ d) (X : Cx p m c meth s args "VoucherOffice" cX8_lapse 4 (some .int) D (vTy cI cZ cP)) (hA : ∀ q, s.heap.size ≤ q → A q) (hI : mInv sc ar n) (kend : ∀ (ws : va_W) (H : Heap) (locs : List Loc) (L : Array Slot), va_P D vwCl ws H → va_D A ws → va_S A s.heap H locs → of_at cP ws h p0 p1 ha row pv sc (mLap ar (sc 0) (min 40 n)).2 n → of_fr ws0 ws → lv_has L 4 [(2, .int (nI 40)), (1, .int (mLap ar (sc 0) (min 40 n)).1), (0, .ref h)] → W p l e (rm_d d 0 0) s m args below meth c H locs 0 0 Q (F0 m 37 L [])) : ∀ (j i : Nat), i + j = 40 → ∀ (ws : va_W) (H : Heap) (locs : List Loc) (L : Array Slot), va_P D vwCl ws H → va_D A ws → va_S A s.heap H locs → of_at cP ws h p0 p1 ha row pv sc (mLap ar (sc 0) (min i n)).2 n → of_fr ws0 ws → lv_has L 4 [(2, .int (nI i)), (1, .int (mLap ar (sc 0) (min i n)).1), (0, .ref h)] → W p l e (rm_d d 0 0) s m args below meth c H locs 0 0 Q (F0 m 4 L []) := by
  obtain ⟨hx, hb, hr, hml, hown, hts, hK, hlk, hxK⟩ := id X
  obtain ⟨hn, h40, hday, hvs0, hout⟩ := id hI
  intro j
  induction j with
  | zero =>
    intro i hij ws H locs L hP hD hS hO hfr hl
    have hi : i = 40 := by omega
    subst hi
    refine lv_iload_n hx hb dX8_lapse_4 rfl (lv_at hl 0 rfl) ?_
    refine lv_bipush (v := 40) hx hb dX8_lapse_5 (by decide) ?_
    refine lv_icmp_ge (tgt := 37) hx hb dX8_lapse_7 (by decide) (fun c_9 => ?_) (fun c_9 => ?_)
    · exact kend ws H locs L hP hD hS hO hfr hl
    · exact absurd (by decide) c_9
  | succ j ih =>
    intro i hij ws H locs L hP hD hS hO hfr hl
    have hi : i < 40 := by omega
    obtain ⟨x, B, hB⟩ : ∃ x B, mLap ar (sc 0) (min i n) = (x, B) := ⟨_, _, rfl⟩
    have hvs : ∀ v, v < n → ∃ k, vInv B v k := fun v hv => by
      obtain ⟨k, hk⟩ := hvs0 v hv
      refine ⟨k, ?_⟩
      have := mLap_inv (day := sc 0) (i := min i n) hk
      rw [hB] at this
      exact this
    have hB6 : ∀ v, B 6 v = ar 6 v := fun v => by
      have := (mLap_key ar (sc 0) (min i n)).1 6 (by decide)
      rw [hB] at this
      exact congrFun this v
    rw [hB] at hO hl
    have hl : lv_has L 4 [(2, .int (nI i)), (1, .int x), (0, .ref h)] := hl
    have hO : of_at cP ws h p0 p1 ha row pv sc B n := hO
    refine lv_iload_n hx hb dX8_lapse_4 rfl (lv_at hl 0 rfl) ?_
    refine lv_bipush (v := 40) hx hb dX8_lapse_5 (by decide) ?_
    refine lv_icmp_ge (tgt := 37) hx hb dX8_lapse_7 (by decide) (fun c_9 => ?_) (fun c_9 => ?_)
    · exact absurd c_9 (nI_ge (b := 40) hi (by decide))
    · skip
      refine lv_aload_n hx hb dX8_lapse_10 rfl (lv_at hl 2 rfl) ?_
      refine lv_iload_n hx hb dX8_lapse_11 rfl (lv_at hl 0 rfl) ?_
      refine g_priv (ci := 8) (cq := (RX8, TX8, 7)) (As := [.int (nI i)]) (rest := []) pw_X8_43 X (c_X8_find l D cI cZ cP 1 (by decide) hO hn h40 ((nI i))) hP hD hS hA hO.1 rfl rfl ⟨by show _ ≤ d; omega, by show _ ≤ 30 * d; omega⟩ rfl hl.1 rfl (Nat.le_of_ble_eq_true rfl) dX8_lapse_12 ⟨Nat.le_refl _, Nat.le_refl _⟩ (fun v1 ws1 H locs hq hP hD hS => ?_)
      obtain ⟨ew, hq⟩ := hq
      rw [ew] at hP hD
      rcases hq with ⟨hz_12, rfl⟩ | ⟨j_12, a_12, hj_12, ev_12, h6_12, hr_12, hz_12, rfl⟩
      · -- none
        refine W.eq (g2 := F0 m 15 L [.null]) rfl ?_
        refine lv_astore_nN (lv' := [(3, .null), (2, .int (nI i)), (1, .int x), (0, .ref h)]) hx hb dX8_lapse_15 rfl hl (by decide) rfl (fun L hl => ?_)
        refine lv_aload_nN hx hb dX8_lapse_16 rfl (lv_at hl 0 rfl) ?_
        refine lv_ifnullN (tgt := 31) hx hb dX8_lapse_17 (by decide) ?_
        refine lv_iinc (v := ((nI i) + 1)) (lv' := [(2, .int ((nI i) + 1)), (3, .null), (1, .int x), (0, .ref h)]) hx hb dX8_lapse_31 hl (k := 1) rfl rfl (by decide) rfl (fun L hl => ?_)
        refine lv_goto (tgt := 4) hx hb dX8_lapse_34 (by decide) ?_
        have e1 : ((nI i) + 1) = nI (i + 1) := nI_1 i
        have e2 : mLap ar (sc 0) (min (i + 1) n) = (x, B) := (lap_no (fun z => the_back hn h40 hz_12 ⟨z.1, by rw [hB6]; exact z.2⟩)).trans hB
        refine ih (i + 1) (by omega) ws H locs L hP hD hS (by rw [e2]; exact hO) hfr ?_
        rw [e2, ← e1]
        exact lv_sub hl [0, 2, 3] rfl
      · -- found
        refine W.eq (g2 := F0 m 15 L [.ref a_12]) rfl ?_
        have hc_12 := (hO.get (by omega) hr_12).2
        obtain ⟨k_12, hvI_12⟩ := hvs j_12 hj_12
        have ek_12 : mI (B 0 j_12) = k_12 := by rw [hvI_12.2.1]; exact nI_clamp (by have := hvI_12.1; omega)
        have em_12 : mI ((nI i)) = j_12 := by rw [ev_12]; exact nI_clamp (by omega)
        rw [ofE, ek_12] at hc_12
        refine lv_astore_n (lv' := [(3, .ref a_12), (2, .int (nI i)), (1, .int x), (0, .ref h)]) hx hb dX8_lapse_15 rfl hl (by decide) rfl (fun L hl => ?_)
        refine lv_aload_n hx hb dX8_lapse_16 rfl (lv_at hl 0 rfl) ?_
        refine lv_ifnull hx hb dX8_lapse_17 ?_
        refine lv_iload_n hx hb dX8_lapse_20 rfl (lv_at hl 2 rfl) ?_
        refine lv_aload_n hx hb dX8_lapse_21 rfl (lv_at hl 0 rfl) ?_
        refine lv_aload_n hx hb dX8_lapse_22 rfl (lv_at hl 3 rfl) ?_
        refine of_g0 X hP hO.1 mw_24 dX8_lapse_23 ?_
        refine dv_lapseOn (rest := [.int x]) X mw_346 hP hD hS hA hc_12 ⟨by show _ ≤ d; omega, by show _ ≤ 30 * d; omega⟩ hl.1 (Nat.le_of_ble_eq_true rfl) dX8_lapse_26 ⟨Nat.le_refl _, Nat.le_refl _⟩ (fun H locs hP hD hS => ?_)
        have eij : i = j_12 := (nI_eq (by omega) (by omega)).mp ev_12
        subst eij
        have em1 : min i n = i := by omega
        have em2 : min (i + 1) n = i + 1 := by omega
        rw [em1] at hB
        obtain ⟨y1, y2, y3, y4⟩ := lap_yes hB (by rw [← hB6]; exact h6_12) hvI_12
        rw [y2] at hP hD
        have hfr := of_fr_tr hfr (of_fr_set (y := (a_12, ofE (mLap ar (sc 0) (i + 1)).2 i)) hc_12 (vo_nM _ _ _ _ _ _ _))
        have hO := hO.setV (by omega) hr_12 _ y3 y4 rfl
        refine lv_iadd hx hb dX8_lapse_29 ?_
        refine lv_istore_n (lv' := [(1, .int (x + (vLR k_12 (B 3 i) (B 2 i) (sc 0)))), (3, .ref a_12), (2, .int (nI i)), (0, .ref h)]) hx hb dX8_lapse_30 rfl hl (by decide) rfl (fun L hl => ?_)
        refine lv_iinc (v := ((nI i) + 1)) (lv' := [(2, .int ((nI i) + 1)), (1, .int (x + (vLR k_12 (B 3 i) (B 2 i) (sc 0)))), (3, .ref a_12), (0, .ref h)]) hx hb dX8_lapse_31 hl (k := 2) rfl rfl (by decide) rfl (fun L hl => ?_)
        refine lv_goto (tgt := 4) hx hb dX8_lapse_34 (by decide) ?_
        have e1 : ((nI i) + 1) = nI (i + 1) := nI_1 i
        refine ih (i + 1) (by omega) _ H locs L hP hD hS (by rw [em2]; exact hO) hfr ?_
        rw [em2, y1, ← e1]
        exact lv_sub hl [0, 1, 3] rfl
set_option maxHeartbeats 4000000 in
set_option maxRecDepth 100000 in
theorem c_X8_total (l : Launch) (D : va_G) (cI cZ cP : ClassId) (d : Nat) (hd : 4 ≤ d) {ws : va_W} {h p0 p1 ha n : Nat} {row : Nat → Option Nat} {pv : Nat → Nat} {sc : Nat → Int32} {ar : Nat → Nat → Int32} (hO : of_at cP ws h p0 p1 ha row pv sc ar n) (hI : mInv sc ar n) (t : Int32) : Ct l D (vTy cI cZ cP) yX8_total cX8_total 5 (some .int) d 0 0 [.ref h, .int t] ws (pI ws (mTotal sc ar t)) := by
  obtain ⟨hn, h40, hday, hvs, hout⟩ := id hI
  refine ct_intro (by decide) (Nat.le_of_ble_eq_true rfl) ?_
  intro p e s m below meth c A L X hin hP hD hS hA hl
  have hl : lv_has L 5 [(0, .ref h), (1, .int t)] := hl
  obtain ⟨hx, hb, hr, hml, hown, hts, hK, hlk, hxK⟩ := id X
  have hfr := of_fr_rf ws
  refine lv_iload_n hx hb dX8_total_0 rfl (lv_at hl 1 rfl) ?_
  refine lv_iconst (v := 0) hx hb dX8_total_1 (by decide) ?_
  refine lv_sipush (v := 20000) hx hb dX8_total_2 (by decide) ?_
  refine g_static (As := [.int t, .int 0, .int 20000]) (rest := []) sw_X8_34 X (c_X8_isOutside l D (vTy cI cZ cP) 0 (by decide) ws t 0 20000) hP hD hS hA ⟨by show _ ≤ d; omega, by show _ ≤ 30 * d; omega⟩ rfl hl.1 rfl (Nat.le_of_ble_eq_true rfl) dX8_total_5 ⟨Nat.le_refl _, Nat.le_refl _⟩ (kI fun H locs hP hD hS => ?_)
  refine W.eq (g2 := F0 m 8 L [.int (mOut t 0 20000)]) rfl ?_
  refine lv_if_eq (tgt := 14) hx hb dX8_total_8 (by decide) (fun c_8 => ?_) (fun c_8 => ?_)
  · -- c_8 True
    have c_8 : ¬ mWin t 0 20000 = 0 := out_0 c_8
    refine lv_iconst (v := 0) hx hb dX8_total_14 (by decide) ?_
    refine lv_istore_n (lv' := [(2, .int 0), (0, .ref h), (1, .int t)]) hx hb dX8_total_15 rfl hl (by decide) rfl (fun L hl => ?_)
    refine lv_iconst (v := 0) hx hb dX8_total_16 (by decide) ?_
    refine lv_istore_n (lv' := [(3, .int 0), (2, .int 0), (0, .ref h), (1, .int t)]) hx hb dX8_total_17 rfl hl (by decide) rfl (fun L hl => ?_)
    have e0 : min 40 n = mI (sc 1) := by rw [hn]; show min 40 n = (nI n).toNatClampNeg; rw [nI_clamp (by omega)]; omega
    refine lp_X8_total (ws := ws) (by omega) X hA hO hI (t := t) (fun H locs L hP hD hS hl => ?_) 40 0 (by omega) _ _ _ hP hD hS (by rw [Nat.zero_min]; exact lv_sub hl [0, 1, 2, 3] rfl)
    refine lv_iload_n hx hb dX8_total_51 rfl (lv_at hl 1 rfl) ?_
    exact e_int X hP hD hS dX8_total_52 ⟨by simp only [mTotal, if_neg c_8, e0], rfl⟩
  · -- c_8 False
    have c_8 : mWin t 0 20000 = 0 := out_1 c_8
    refine lv_bipush (v := (-2)) hx hb dX8_total_11 (by decide) ?_
    exact e_int X hP hD hS dX8_total_13 ⟨by simp only [mTotal, if_pos c_8], rfl⟩
set_option maxHeartbeats 4000000 in
set_option maxRecDepth 100000 in
theorem c_X8_leftOfAll (l : Launch) (D : va_G) (cI cZ cP : ClassId) (d : Nat) (hd : 2 ≤ d) {ws : va_W} {h p0 p1 ha n : Nat} {row : Nat → Option Nat} {pv : Nat → Nat} {sc : Nat → Int32} {ar : Nat → Nat → Int32} (hO : of_at cP ws h p0 p1 ha row pv sc ar n) (hI : mInv sc ar n)  : Ct l D (vTy cI cZ cP) yX8_leftOfAll cX8_leftOfAll 4 (some .int) d 0 0 [.ref h] ws (pI ws (mLeft sc ar)) := by
  obtain ⟨hn, h40, hday, hvs, hout⟩ := id hI
  refine ct_intro (by decide) (Nat.le_of_ble_eq_true rfl) ?_
  intro p e s m below meth c A L X hin hP hD hS hA hl
  have hl : lv_has L 4 [(0, .ref h)] := hl
  obtain ⟨hx, hb, hr, hml, hown, hts, hK, hlk, hxK⟩ := id X
  have hfr := of_fr_rf ws
  refine lv_iconst (v := 0) hx hb dX8_leftOfAll_0 (by decide) ?_
  refine lv_istore_n (lv' := [(1, .int 0), (0, .ref h)]) hx hb dX8_leftOfAll_1 rfl hl (by decide) rfl (fun L hl => ?_)
  refine lv_iconst (v := 0) hx hb dX8_leftOfAll_2 (by decide) ?_
  refine lv_istore_n (lv' := [(2, .int 0), (1, .int 0), (0, .ref h)]) hx hb dX8_leftOfAll_3 rfl hl (by decide) rfl (fun L hl => ?_)
  have e0 : min 40 n = mI (sc 1) := by rw [hn]; show min 40 n = (nI n).toNatClampNeg; rw [nI_clamp (by omega)]; omega
  refine lp_X8_leftOfAll (ws := ws) (by omega) X hA hO hI (fun H locs L hP hD hS hl => ?_) 40 0 (by omega) _ _ _ hP hD hS (by rw [Nat.zero_min]; exact lv_sub hl [0, 1, 2] rfl)
  refine lv_iload_n hx hb dX8_leftOfAll_33 rfl (lv_at hl 1 rfl) ?_
  exact e_int X hP hD hS dX8_leftOfAll_34 ⟨by simp only [mLeft, e0], rfl⟩
set_option maxHeartbeats 4000000 in
set_option maxRecDepth 100000 in
theorem c_X8_count (l : Launch) (D : va_G) (cI cZ cP : ClassId) (d : Nat) (hd : 3 ≤ d) {ws : va_W} {h p0 p1 ha n : Nat} {row : Nat → Option Nat} {pv : Nat → Nat} {sc : Nat → Int32} {ar : Nat → Nat → Int32} (hO : of_at cP ws h p0 p1 ha row pv sc ar n) (hI : mInv sc ar n) (w : Int32) : Ct l D (vTy cI cZ cP) yX8_count cX8_count 2 (some .int) d 0 0 [.ref h, .int w] ws (pI ws (mCount sc ar w)) := by
  obtain ⟨hn, h40, hday, hvs, hout⟩ := id hI
  refine ct_intro (by decide) (Nat.le_of_ble_eq_true rfl) ?_
  intro p e s m below meth c A L X hin hP hD hS hA hl
  have hl : lv_has L 2 [(0, .ref h), (1, .int w)] := hl
  obtain ⟨hx, hb, hr, hml, hown, hts, hK, hlk, hxK⟩ := id X
  have hfr := of_fr_rf ws
  refine lv_iload_n hx hb dX8_count_0 rfl (lv_at hl 1 rfl) ?_
  by_cases s_1 : w.toInt < 0 ∨ 6 < w.toInt
  · refine lv_tableOut (tgt := 79) hx hb dX8_count_1 s_1 (by decide) ?_
    refine lv_bipush (v := (-2)) hx hb dX8_count_79 (by decide) ?_
    exact e_int X hP hD hS dX8_count_81 ⟨by simp only [mCount, if_neg (sw_out (y := 0) s_1 (by decide)), if_neg (sw_out (y := 1) s_1 (by decide)), if_neg (sw_out (y := 2) s_1 (by decide)), if_neg (sw_out (y := 3) s_1 (by decide)), if_neg (sw_out (y := 4) s_1 (by decide)), if_neg (sw_out (y := 5) s_1 (by decide)), if_neg (sw_out (y := 6) s_1 (by decide))], rfl⟩
  · have e_1 : w = 0 ∨ w = 1 ∨ w = 2 ∨ w = 3 ∨ w = 4 ∨ w = 5 ∨ w = 6 := sw_7 s_1
    rcases e_1 with f_0 | f_1 | f_2 | f_3 | f_4 | f_5 | f_6
    · refine lv_tableIn (tgt := 44) (off := 43) hx hb dX8_count_1 (by rw [f_0]; decide) (by rw [f_0]; decide) (by rw [f_0]; rfl) (by decide) ?_
      refine lv_aload_n hx hb dX8_count_44 rfl (lv_at hl 0 rfl) ?_
      refine of_g0 X hP hO.1 mw_24 dX8_count_45 ?_
      exact e_int X hP hD hS dX8_count_48 ⟨by subst f_0; simp only [mCount, if_pos], rfl⟩
    · refine lv_tableIn (tgt := 49) (off := 48) hx hb dX8_count_1 (by rw [f_1]; decide) (by rw [f_1]; decide) (by rw [f_1]; rfl) (by decide) ?_
      refine lv_aload_n hx hb dX8_count_49 rfl (lv_at hl 0 rfl) ?_
      refine of_g1 X hP hO.1 mw_23 dX8_count_50 ?_
      exact e_int X hP hD hS dX8_count_53 ⟨by subst f_1; simp only [mCount, if_neg (by decide : ¬ (1 : Int32) = 0), if_pos], rfl⟩
    · refine lv_tableIn (tgt := 54) (off := 53) hx hb dX8_count_1 (by rw [f_2]; decide) (by rw [f_2]; decide) (by rw [f_2]; rfl) (by decide) ?_
      refine lv_aload_n hx hb dX8_count_54 rfl (lv_at hl 0 rfl) ?_
      refine of_g2 X hP hO.1 mw_25 dX8_count_55 ?_
      exact e_int X hP hD hS dX8_count_58 ⟨by subst f_2; simp only [mCount, if_neg (by decide : ¬ (2 : Int32) = 0), if_neg (by decide : ¬ (2 : Int32) = 1), if_pos], rfl⟩
    · refine lv_tableIn (tgt := 59) (off := 58) hx hb dX8_count_1 (by rw [f_3]; decide) (by rw [f_3]; decide) (by rw [f_3]; rfl) (by decide) ?_
      refine lv_aload_n hx hb dX8_count_59 rfl (lv_at hl 0 rfl) ?_
      refine of_g3 X hP hO.1 mw_26 dX8_count_60 ?_
      exact e_int X hP hD hS dX8_count_63 ⟨by subst f_3; simp only [mCount, if_neg (by decide : ¬ (3 : Int32) = 0), if_neg (by decide : ¬ (3 : Int32) = 1), if_neg (by decide : ¬ (3 : Int32) = 2), if_pos], rfl⟩
    · refine lv_tableIn (tgt := 64) (off := 63) hx hb dX8_count_1 (by rw [f_4]; decide) (by rw [f_4]; decide) (by rw [f_4]; rfl) (by decide) ?_
      refine lv_aload_n hx hb dX8_count_64 rfl (lv_at hl 0 rfl) ?_
      refine of_g4 X hP hO.1 mw_27 dX8_count_65 ?_
      exact e_int X hP hD hS dX8_count_68 ⟨by subst f_4; simp only [mCount, if_neg (by decide : ¬ (4 : Int32) = 0), if_neg (by decide : ¬ (4 : Int32) = 1), if_neg (by decide : ¬ (4 : Int32) = 2), if_neg (by decide : ¬ (4 : Int32) = 3), if_pos], rfl⟩
    · refine lv_tableIn (tgt := 69) (off := 68) hx hb dX8_count_1 (by rw [f_5]; decide) (by rw [f_5]; decide) (by rw [f_5]; rfl) (by decide) ?_
      refine lv_aload_n hx hb dX8_count_69 rfl (lv_at hl 0 rfl) ?_
      refine of_g5 X hP hO.1 mw_28 dX8_count_70 ?_
      exact e_int X hP hD hS dX8_count_73 ⟨by subst f_5; simp only [mCount, if_neg (by decide : ¬ (5 : Int32) = 0), if_neg (by decide : ¬ (5 : Int32) = 1), if_neg (by decide : ¬ (5 : Int32) = 2), if_neg (by decide : ¬ (5 : Int32) = 3), if_neg (by decide : ¬ (5 : Int32) = 4), if_pos], rfl⟩
    · refine lv_tableIn (tgt := 74) (off := 73) hx hb dX8_count_1 (by rw [f_6]; decide) (by rw [f_6]; decide) (by rw [f_6]; rfl) (by decide) ?_
      refine lv_aload_n hx hb dX8_count_74 rfl (lv_at hl 0 rfl) ?_
      refine g_priv (ci := 8) (cq := (RX8, TX8, 7)) (As := []) (rest := []) pw_X8_93 X (c_X8_leftOfAll l D cI cZ cP 2 (by decide) hO hI) hP hD hS hA hO.1 rfl rfl ⟨by show _ ≤ d; omega, by show _ ≤ 30 * d; omega⟩ rfl hl.1 rfl (Nat.le_of_ble_eq_true rfl) dX8_count_75 ⟨Nat.le_refl _, Nat.le_refl _⟩ (kI fun H locs hP hD hS => ?_)
      refine W.eq (g2 := F0 m 78 L [.int (mLeft sc ar)]) rfl ?_
      exact e_int X hP hD hS dX8_count_78 ⟨by subst f_6; simp only [mCount, if_neg (by decide : ¬ (6 : Int32) = 0), if_neg (by decide : ¬ (6 : Int32) = 1), if_neg (by decide : ¬ (6 : Int32) = 2), if_neg (by decide : ¬ (6 : Int32) = 3), if_neg (by decide : ¬ (6 : Int32) = 4), if_neg (by decide : ¬ (6 : Int32) = 5), if_pos], rfl⟩
set_option maxHeartbeats 4000000 in
set_option maxRecDepth 100000 in
theorem c_X8_lapse (l : Launch) (D : va_G) (cI cZ cP : ClassId) (d : Nat) (hd : 2 ≤ d) {ws : va_W} {h p0 p1 ha n : Nat} {row : Nat → Option Nat} {pv : Nat → Nat} {sc : Nat → Int32} {ar : Nat → Nat → Int32} (hO : of_at cP ws h p0 p1 ha row pv sc ar n) (hI : mInv sc ar n)  : Ct l D (vTy cI cZ cP) yX8_lapse cX8_lapse 4 (some .int) d 0 0 [.ref h] ws (pO cP h (mLapse sc ar) ws) := by
  obtain ⟨hn, h40, hday, hvs, hout⟩ := id hI
  refine ct_intro (by decide) (Nat.le_of_ble_eq_true rfl) ?_
  intro p e s m below meth c A L X hin hP hD hS hA hl
  have hl : lv_has L 4 [(0, .ref h)] := hl
  obtain ⟨hx, hb, hr, hml, hown, hts, hK, hlk, hxK⟩ := id X
  have hfr := of_fr_rf ws
  refine lv_iconst (v := 0) hx hb dX8_lapse_0 (by decide) ?_
  refine lv_istore_n (lv' := [(1, .int 0), (0, .ref h)]) hx hb dX8_lapse_1 rfl hl (by decide) rfl (fun L hl => ?_)
  refine lv_iconst (v := 0) hx hb dX8_lapse_2 (by decide) ?_
  refine lv_istore_n (lv' := [(2, .int 0), (1, .int 0), (0, .ref h)]) hx hb dX8_lapse_3 rfl hl (by decide) rfl (fun L hl => ?_)
  have e0 : min 40 n = mI (sc 1) := by rw [hn]; show min 40 n = (nI n).toNatClampNeg; rw [nI_clamp (by omega)]; omega
  refine lp_X8_lapse (by omega) X hA hI (fun ws H locs L hP hD hS hO hfr hl => ?_) 40 0 (by omega) _ _ _ _ hP hD hS (by rw [Nat.zero_min]; exact hO) hfr (by rw [Nat.zero_min]; exact lv_sub hl [0, 1, 2] rfl)
  rw [e0] at hO hl
  refine lv_aload_n hx hb dX8_lapse_37 rfl (lv_at hl 2 rfl) ?_
  refine lv_dup hx hb dX8_lapse_38 rfl ?_
  refine of_g5 X hP hO.1 mw_28 dX8_lapse_39 ?_
  refine lv_iload_n hx hb dX8_lapse_42 rfl (lv_at hl 1 rfl) ?_
  refine lv_iadd hx hb dX8_lapse_43 ?_
  refine of_p5 X hP hD hS hO.1 mw_28 dX8_lapse_44 (fun H locs hP hD hS => ?_)
  have hfr := of_fr_tr hfr (of_fr_set (y := (h, of_o (va_up sc 5 ((sc 5) + (mLap ar (sc 0) (mI (sc 1))).1)) ha)) hO.1 oo_nM)
  have hO := hO.put (va_up sc 5 ((sc 5) + (mLap ar (sc 0) (mI (sc 1))).1))
  refine lv_iload_n hx hb dX8_lapse_47 rfl (lv_at hl 1 rfl) ?_
  exact e_int X hP hD hS dX8_lapse_48 (pO_of hO hn hfr rfl)
set_option maxHeartbeats 4000000 in
set_option maxRecDepth 100000 in
theorem c_X8_merge (l : Launch) (D : va_G) (cI cZ cP : ClassId) (d : Nat) (hd : 2 ≤ d) {ws : va_W} {h p0 p1 ha n : Nat} {row : Nat → Option Nat} {pv : Nat → Nat} {sc : Nat → Int32} {ar : Nat → Nat → Int32} (hO : of_at cP ws h p0 p1 ha row pv sc ar n) (hI : mInv sc ar n) (v v2 : Int32) : Ct l D (vTy cI cZ cP) yX8_merge cX8_merge 5 (some .int) d 0 0 [.ref h, .int v, .int v2] ws (pO cP h (mMerge sc ar v v2) ws) := by
  obtain ⟨hn, h40, hday, hvs, hout⟩ := id hI
  refine ct_intro (by decide) (Nat.le_of_ble_eq_true rfl) ?_
  intro p e s m below meth c A L X hin hP hD hS hA hl
  have hl : lv_has L 5 [(0, .ref h), (1, .int v), (2, .int v2)] := hl
  obtain ⟨hx, hb, hr, hml, hown, hts, hK, hlk, hxK⟩ := id X
  have hfr := of_fr_rf ws
  refine lv_aload_n hx hb dX8_merge_0 rfl (lv_at hl 0 rfl) ?_
  refine lv_iload_n hx hb dX8_merge_1 rfl (lv_at hl 1 rfl) ?_
  refine g_priv (ci := 8) (cq := (RX8, TX8, 7)) (As := [.int v]) (rest := []) pw_X8_43 X (c_X8_find l D cI cZ cP 1 (by decide) hO hn h40 v) hP hD hS hA hO.1 rfl rfl ⟨by show _ ≤ d; omega, by show _ ≤ 30 * d; omega⟩ rfl hl.1 rfl (Nat.le_of_ble_eq_true rfl) dX8_merge_2 ⟨Nat.le_refl _, Nat.le_refl _⟩ (fun v1 ws1 H locs hq hP hD hS => ?_)
  obtain ⟨ew, hq⟩ := hq
  rw [ew] at hP hD
  rcases hq with ⟨hz_2, rfl⟩ | ⟨j_2, a_2, hj_2, ev_2, h6_2, hr_2, hz_2, rfl⟩
  · -- none
    refine W.eq (g2 := F0 m 5 L [.null]) rfl ?_
    refine lv_astore_nN (lv' := [(3, .null), (0, .ref h), (1, .int v), (2, .int v2)]) hx hb dX8_merge_5 rfl hl (by decide) rfl (fun L hl => ?_)
    refine lv_aload_n hx hb dX8_merge_6 rfl (lv_at hl 1 rfl) ?_
    refine lv_iload_n hx hb dX8_merge_7 rfl (lv_at hl 3 rfl) ?_
    refine g_priv (ci := 8) (cq := (RX8, TX8, 7)) (As := [.int v2]) (rest := []) pw_X8_43 X (c_X8_find l D cI cZ cP 1 (by decide) hO hn h40 v2) hP hD hS hA hO.1 rfl rfl ⟨by show _ ≤ d; omega, by show _ ≤ 30 * d; omega⟩ rfl hl.1 rfl (Nat.le_of_ble_eq_true rfl) dX8_merge_8 ⟨Nat.le_refl _, Nat.le_refl _⟩ (fun v1 ws1 H locs hq hP hD hS => ?_)
    obtain ⟨ew, hq⟩ := hq
    rw [ew] at hP hD
    rcases hq with ⟨hz_8, rfl⟩ | ⟨j_8, a_8, hj_8, ev_8, h6_8, hr_8, hz_8, rfl⟩
    · -- none
      refine W.eq (g2 := F0 m 11 L [.null]) rfl ?_
      refine lv_astoreN (lv' := [(4, .null), (3, .null), (0, .ref h), (1, .int v), (2, .int v2)]) hx hb dX8_merge_11 hl (by decide) rfl (fun L hl => ?_)
      refine lv_aload_nN hx hb dX8_merge_13 rfl (lv_at hl 1 rfl) ?_
      refine lv_ifnullN (tgt := 22) hx hb dX8_merge_14 (by decide) ?_
      refine lv_iconst (v := (-1)) hx hb dX8_merge_22 (by decide) ?_
      exact e_int X hP hD hS dX8_merge_23 (pO_of hO hn hfr (by simp only [mMerge, if_pos hz_2, if_pos hz_8]))
    · -- found
      refine W.eq (g2 := F0 m 11 L [.ref a_8]) rfl ?_
      have hc_8 := (hO.get (by omega) hr_8).2
      obtain ⟨k_8, hvI_8⟩ := hvs j_8 hj_8
      have ek_8 : mI (ar 0 j_8) = k_8 := by rw [hvI_8.2.1]; exact nI_clamp (by have := hvI_8.1; omega)
      have em_8 : mI v2 = j_8 := by rw [ev_8]; exact nI_clamp (by omega)
      rw [ofE, ek_8] at hc_8
      refine lv_astore (lv' := [(4, .ref a_8), (3, .null), (0, .ref h), (1, .int v), (2, .int v2)]) hx hb dX8_merge_11 hl (by decide) rfl (fun L hl => ?_)
      refine lv_aload_nN hx hb dX8_merge_13 rfl (lv_at hl 1 rfl) ?_
      refine lv_ifnullN (tgt := 22) hx hb dX8_merge_14 (by decide) ?_
      refine lv_iconst (v := (-1)) hx hb dX8_merge_22 (by decide) ?_
      exact e_int X hP hD hS dX8_merge_23 (pO_of hO hn hfr (by simp only [mMerge, if_pos hz_2, if_neg hz_8, em_8]))
  · -- found
    refine W.eq (g2 := F0 m 5 L [.ref a_2]) rfl ?_
    have hc_2 := (hO.get (by omega) hr_2).2
    obtain ⟨k_2, hvI_2⟩ := hvs j_2 hj_2
    have ek_2 : mI (ar 0 j_2) = k_2 := by rw [hvI_2.2.1]; exact nI_clamp (by have := hvI_2.1; omega)
    have em_2 : mI v = j_2 := by rw [ev_2]; exact nI_clamp (by omega)
    rw [ofE, ek_2] at hc_2
    refine lv_astore_n (lv' := [(3, .ref a_2), (0, .ref h), (1, .int v), (2, .int v2)]) hx hb dX8_merge_5 rfl hl (by decide) rfl (fun L hl => ?_)
    refine lv_aload_n hx hb dX8_merge_6 rfl (lv_at hl 1 rfl) ?_
    refine lv_iload_n hx hb dX8_merge_7 rfl (lv_at hl 3 rfl) ?_
    refine g_priv (ci := 8) (cq := (RX8, TX8, 7)) (As := [.int v2]) (rest := []) pw_X8_43 X (c_X8_find l D cI cZ cP 1 (by decide) hO hn h40 v2) hP hD hS hA hO.1 rfl rfl ⟨by show _ ≤ d; omega, by show _ ≤ 30 * d; omega⟩ rfl hl.1 rfl (Nat.le_of_ble_eq_true rfl) dX8_merge_8 ⟨Nat.le_refl _, Nat.le_refl _⟩ (fun v1 ws1 H locs hq hP hD hS => ?_)
    obtain ⟨ew, hq⟩ := hq
    rw [ew] at hP hD
    rcases hq with ⟨hz_8, rfl⟩ | ⟨j_8, a_8, hj_8, ev_8, h6_8, hr_8, hz_8, rfl⟩
    · -- none
      refine W.eq (g2 := F0 m 11 L [.null]) rfl ?_
      refine lv_astoreN (lv' := [(4, .null), (3, .ref a_2), (0, .ref h), (1, .int v), (2, .int v2)]) hx hb dX8_merge_11 hl (by decide) rfl (fun L hl => ?_)
      refine lv_aload_n hx hb dX8_merge_13 rfl (lv_at hl 1 rfl) ?_
      refine lv_ifnull hx hb dX8_merge_14 ?_
      refine lv_aloadN hx hb dX8_merge_17 (lv_at hl 0 rfl) ?_
      refine lv_ifnonnullN hx hb dX8_merge_19 ?_
      refine lv_iconst (v := (-1)) hx hb dX8_merge_22 (by decide) ?_
      exact e_int X hP hD hS dX8_merge_23 (pO_of hO hn hfr (by simp only [mMerge, if_neg hz_2, if_pos hz_8, em_2]))
    · -- found
      refine W.eq (g2 := F0 m 11 L [.ref a_8]) rfl ?_
      have hc_8 := (hO.get (by omega) hr_8).2
      obtain ⟨k_8, hvI_8⟩ := hvs j_8 hj_8
      have ek_8 : mI (ar 0 j_8) = k_8 := by rw [hvI_8.2.1]; exact nI_clamp (by have := hvI_8.1; omega)
      have em_8 : mI v2 = j_8 := by rw [ev_8]; exact nI_clamp (by omega)
      rw [ofE, ek_8] at hc_8
      refine lv_astore (lv' := [(4, .ref a_8), (3, .ref a_2), (0, .ref h), (1, .int v), (2, .int v2)]) hx hb dX8_merge_11 hl (by decide) rfl (fun L hl => ?_)
      refine lv_aload_n hx hb dX8_merge_13 rfl (lv_at hl 1 rfl) ?_
      refine lv_ifnull hx hb dX8_merge_14 ?_
      refine lv_aload hx hb dX8_merge_17 (lv_at hl 0 rfl) ?_
      refine lv_ifnonnull (tgt := 24) hx hb dX8_merge_19 (by decide) ?_
      refine lv_iload_n hx hb dX8_merge_24 rfl (lv_at hl 3 rfl) ?_
      refine lv_iload_n hx hb dX8_merge_25 rfl (lv_at hl 4 rfl) ?_
      refine lv_icmp_ne (tgt := 32) hx hb dX8_merge_26 (by decide) (fun c_26 => ?_) (fun c_26 => ?_)
      · -- c_26 True
        refine lv_aload_n hx hb dX8_merge_32 rfl (lv_at hl 1 rfl) ?_
        refine vo_gK X hP hc_2 mw_61 (Or.inl rfl) dX8_merge_33 ?_
        refine lv_aload hx hb dX8_merge_36 (lv_at hl 0 rfl) ?_
        refine vo_gK X hP hc_8 mw_61 (Or.inl rfl) dX8_merge_38 ?_
        refine lv_icmp_eq (tgt := 47) hx hb dX8_merge_41 (by decide) (fun c_41 => ?_) (fun c_41 => ?_)
        · -- c_41 True
          refine lv_aload_n hx hb dX8_merge_47 rfl (lv_at hl 1 rfl) ?_
          refine vo_gA X hP hc_2 mw_69 (Or.inl rfl) dX8_merge_48 ?_
          refine lv_aload hx hb dX8_merge_51 (lv_at hl 0 rfl) ?_
          refine vo_gA X hP hc_8 mw_69 (Or.inl rfl) dX8_merge_53 ?_
          refine lv_iadd hx hb dX8_merge_56 ?_
          refine lv_ldc (v := 100000) hx hb hown (hts _ mw_51) dX8_merge_57 ?_
          refine lv_icmp_le (tgt := 65) hx hb dX8_merge_59 (by decide) (fun c_59 => ?_) (fun c_59 => ?_)
          · -- c_59 True
            refine lv_aload_n hx hb dX8_merge_65 rfl (lv_at hl 1 rfl) ?_
            refine lv_aload hx hb dX8_merge_66 (lv_at hl 0 rfl) ?_
            have hjj : j_2 ≠ j_8 := fun z => c_26 (by rw [ev_2, ev_8, z])
            have hne : pv j_2 ≠ pv j_8 := pl_na hc_2 hc_8 (fun z => hjj (hO.2.2.2 j_2 j_8 a_2 (by omega) (by omega) hr_2 (by rw [z]; exact hr_8)))
            have ekk : k_2 = k_8 := (nI_eq (by have := hvI_2.1; omega) (by have := hvI_8.1; omega)).mp (by rw [← hvI_2.2.1, ← hvI_8.2.1]; exact c_41)
            subst ekk
            refine dv_takeIn (rest := []) X mw_364 hP hD hS hA hc_2 ⟨by show _ ≤ d; omega, by show _ ≤ 30 * d; omega⟩ hl.1 (Nat.le_of_ble_eq_true rfl) dX8_merge_68 ⟨Nat.le_refl _, Nat.le_refl _⟩ hc_8 hne (fun H locs hP hD hS => ?_)
            rw [mg_eq hjj.symm hvI_2 hvI_8] at hP hD
            obtain ⟨ar1, ear1⟩ : ∃ z, z = mSet (mSet (mSet (mSet ar 1 j_2 (ar 1 j_2 + ar 1 j_8)) 2 j_2 (ar 2 j_2 + ar 2 j_8)) 4 j_2 (ar 4 j_2 + ar 4 j_8)) 5 j_2 (if ar 5 j_8 ≤ ar 5 j_2 then ar 5 j_2 else ar 5 j_8) := ⟨_, rfl⟩
            rw [← ear1] at hP hD
            have h6a : ∀ v, ar1 6 v = ar 6 v := fun v => by rw [ear1, mS_j _ _ _ _ _ _ (by decide : (6 : Nat) ≠ 5), mS_j _ _ _ _ _ _ (by decide : (6 : Nat) ≠ 4), mS_j _ _ _ _ _ _ (by decide : (6 : Nat) ≠ 2), mS_j _ _ _ _ _ _ (by decide : (6 : Nat) ≠ 1)]
            have hEa : ∀ v, v ≠ j_2 → ofE ar1 v = ofE ar v := fun v hv => by rw [ear1, ofE_S _ _ _ _ _ hv, ofE_S _ _ _ _ _ hv, ofE_S _ _ _ _ _ hv, ofE_S _ _ _ _ _ hv]
            have hfr := of_fr_tr hfr (of_fr_set (y := (a_2, ofE ar1 j_2)) hc_2 (vo_nM _ _ _ _ _ _ _))
            have hc9 : (ws.set (pv j_2) (a_2, ofE ar1 j_2))[pv j_2]? = some (a_2, ofE ar1 j_2) := st_same hc_2
            have hO := hO.setV (by omega) hr_2 ar1 h6a hEa rfl
            refine W.eq (g2 := F0 m 71 L []) rfl ?_
            refine lv_aload_n hx hb dX8_merge_71 rfl (lv_at hl 2 rfl) ?_
            refine of_gV X hP hO.1 mw_22 dX8_merge_72 ?_
            refine lv_iload_n hx hb dX8_merge_75 rfl (lv_at hl 4 rfl) ?_
            refine lv_null hx hb dX8_merge_76 ?_
            have hv2 : vp_in v2 40 := by rw [ev_8]; exact vp_in_nI (by omega) (by decide)
            refine va_astqN hx hb hK hP hD hS p1 2 hO.2.1 rfl hv2 dX8_merge_77 (fun H locs hP hD hS => ?_)
            have e99 : v2.toNatClampNeg = j_8 := em_8
            rw [e99] at hP hD
            have hfr := of_fr_tr hfr (of_fr_set (y := (ha, of_r cP (va_up row j_8 none))) hO.2.1 rr_nM)
            have hc9 := st_other (y := (ha, of_r cP (va_up row j_8 none))) (pl_ne hO.2.1 hc9 vo_nr.symm) hc9
            have hO := hO.drop (j := j_8) (mSet ar1 6 j_8 1) (fun v hv => mS_i _ _ _ _ _ _ hv) (by rw [mS_at]; decide) (fun v _ => ofE_6 _ _ _ _)
            rw [ofE] at hc9
            refine lv_aload_n hx hb dX8_merge_78 rfl (lv_at hl 1 rfl) ?_
            refine vo_gA X hP hc9 mw_69 (Or.inl rfl) dX8_merge_79 ?_
            exact e_int X hP hD hS dX8_merge_82 (pO_of hO hn hfr (by simp only [mMerge, if_neg hz_2, if_neg hz_8, em_2, em_8, if_neg c_26, if_pos c_41, if_pos c_59, ear1, mS_at, mS_j _ _ _ _ _ _ (by decide : (1 : Nat) ≠ 5), mS_j _ _ _ _ _ _ (by decide : (1 : Nat) ≠ 4), mS_j _ _ _ _ _ _ (by decide : (1 : Nat) ≠ 2)]))
          · -- c_59 False
            refine lv_bipush (v := (-4)) hx hb dX8_merge_62 (by decide) ?_
            exact e_int X hP hD hS dX8_merge_64 (pO_of hO hn hfr (by simp only [mMerge, if_neg hz_2, if_neg hz_8, em_2, em_8, if_neg c_26, if_pos c_41, if_neg c_59]))
        · -- c_41 False
          refine lv_bipush (v := (-3)) hx hb dX8_merge_44 (by decide) ?_
          exact e_int X hP hD hS dX8_merge_46 (pO_of hO hn hfr (by simp only [mMerge, if_neg hz_2, if_neg hz_8, em_2, em_8, if_neg c_26, if_neg c_41]))
      · -- c_26 False
        refine lv_bipush (v := (-2)) hx hb dX8_merge_29 (by decide) ?_
        exact e_int X hP hD hS dX8_merge_31 (pO_of hO hn hfr (by simp only [mMerge, if_neg hz_2, if_neg hz_8, em_2, em_8, if_pos c_26]))
end
section
theorem iw_X8_96 : IW RX8 96 yX4_init cX4_init 4 3 := ⟨mw_56, mw_57, mw_3, mw_58, rfl, by decide +kernel⟩
theorem iw_X8_101 : IW RX8 101 yX2_init cX2_init 4 3 := ⟨mw_85, mw_86, mw_4, mw_87, rfl, by decide +kernel⟩
theorem iw_X8_104 : IW RX8 104 yX6_init cX6_init 4 3 := ⟨mw_96, mw_97, mw_5, mw_98, rfl, by decide +kernel⟩
theorem iw_X8_107 : IW RX8 107 yX7_init cX7_init 4 3 := ⟨mw_107, mw_108, mw_6, mw_109, rfl, by decide +kernel⟩
theorem iw_X8_110 : IW RX8 110 yX5_init cX5_init 4 3 := ⟨mw_121, mw_122, mw_7, mw_123, rfl, by decide +kernel⟩
theorem iw_X8_113 : IW RX8 113 yX0_init cX0_init 4 3 := ⟨mw_132, mw_133, mw_8, mw_134, rfl, by decide +kernel⟩
theorem iw_X8_116 : IW RX8 116 yX3_init cX3_init 4 3 := ⟨mw_143, mw_144, mw_9, mw_145, rfl, by decide +kernel⟩
theorem iw_X8_119 : IW RX8 119 yX1_init cX1_init 4 3 := ⟨mw_159, mw_160, mw_10, mw_161, rfl, by decide +kernel⟩
theorem sw_X8_39 : SW RX8 39 yX8_newVoucher cX8_newVoucher 3 (some (.object "VoucherOffice$Plain")) 3 := ⟨mw_52, mw_53, mw_1, mw_54, by decide +kernel⟩
theorem ap_up {ws : va_W} {x y : Nat × va_E} {i : Nat} (h : ws[i]? = some x) : (ws ++ [y])[i]? = some x := by
  rw [List.getElem?_append_left (List.getElem?_eq_some_iff.mp h).1]; exact h
theorem ap_new (ws : va_W) (y : Nat × va_E) : (ws ++ [y])[ws.length]? = some y := by simp
theorem ap_set (ws : va_W) (x y : Nat × va_E) : (ws ++ [x]).set ws.length y = ws ++ [y] := by
  simp
def pN (K : Nat) (am fr : Int32) (ws : va_W) : Option Value → va_W → Prop := fun r w => ∃ q, r = some (.ref q) ∧ w = ws ++ [(q, vo_E K (nI K) fr am am 0 (-1))]
/-- a voucher may lie in the office's row -/
theorem as_any {s : State} {H : Heap} {D : va_G} {tys : List (ClassId × FieldType)} {ws : va_W} {a q0 k : Nat} {kd fr am le po ls : Int32} (hK : va_K D vwCl tys s) (hxK : xK s) (hP : va_P D vwCl ws H) (he : ws[q0]? = some (a, vo_E k kd fr am le po ls)) : va_Any "VoucherOffice$Plain" s H a := by
  have cst : ∀ {C : String}, va_Nw (.castable C "VoucherOffice$Plain") s → ∀ comp c0 : ClassId, s.vm.findClass "VoucherOffice$Plain" = some comp → s.vm.findClass C = some c0 → s.vm.assignable c0 comp = true := by
    intro C h comp c0 h1 h2
    obtain ⟨c, t, g1, g2, g3⟩ := Cond.castable_spec h
    cases h1.symm.trans g2
    cases h2.symm.trans g1
    exact g3
  obtain ⟨-, x1, x2, x3, x4, x5, x6, x7⟩ := hxK
  match k, he with
  | 0, he =>
    refine va_rAny (ci := 4) (r := (RX4, TX4, 4)) hK hP he rfl ?_
    intro comp c0 h1 h2
    have h3 := hK.1 4 _ rfl
    cases h1.symm.trans h2
    cases h1.symm.trans h3.2.1
    exact va_assign h3.2
  | 1, he => exact va_rAny (ci := 2) (r := (RX2, TX2, 4)) hK hP he rfl (cst x1)
  | 2, he => exact va_rAny (ci := 6) (r := (RX6, TX6, 4)) hK hP he rfl (cst x2)
  | 3, he => exact va_rAny (ci := 7) (r := (RX7, TX7, 5)) hK hP he rfl (cst x3)
  | 4, he => exact va_rAny (ci := 5) (r := (RX5, TX5, 4)) hK hP he rfl (cst x4)
  | 5, he => exact va_rAny (ci := 0) (r := (RX0, TX0, 4)) hK hP he rfl (cst x5)
  | 6, he => exact va_rAny (ci := 3) (r := (RX3, TX3, 5)) hK hP he rfl (cst x6)
  | n + 7, he => exact va_rAny (ci := 1) (r := (RX1, TX1, 5)) hK hP he rfl (cst x7)
theorem in_7 {k : Int32} (h : ¬ mWin k 0 7 = 0) : ∃ K : Nat, K ≤ 7 ∧ k = nI K := by
  obtain ⟨h1, h2⟩ := win_ii h
  obtain ⟨j, hj, rfl⟩ := nI_of h1
  refine ⟨j, ?_, rfl⟩
  rcases Nat.lt_or_ge 7 j with q | q
  · exact absurd (nI_lt q hj) h2
  · exact q
set_option maxHeartbeats 4000000 in
set_option maxRecDepth 100000 in
theorem c_nv_0 (l : Launch) (D : va_G) (cI cZ cP : ClassId) (d : Nat) (hd : 6 ≤ d) (ws : va_W) (am fr : Int32) : Ct l D (vTy cI cZ cP) yX8_newVoucher cX8_newVoucher 3 (some (.object "VoucherOffice$Plain")) d 1 5 [.int (nI 0), .int am, .int fr] ws (pN 0 am fr ws) := by
  refine ct_intro (by decide) (Nat.le_of_ble_eq_true rfl) ?_
  intro p e s m below meth c A L X hin hP hD hS hA hl
  have hl : lv_has L 3 [(0, .int (nI 0)), (1, .int am), (2, .int fr)] := hl
  obtain ⟨hx, hb, hr, hml, hown, hts, hK, hlk, hxK⟩ := id X
  refine lv_iload_n hx hb dX8_newVoucher_0 rfl (lv_at hl 0 rfl) ?_
  refine lv_tableIn (tgt := 44) (off := 43) hx hb dX8_newVoucher_1 (by decide) (by decide) (by rfl) (by decide) ?_
  refine va_new (ci := 4) (fs := [.int 0, .int 0, .int 0, .int 0]) (C := RX4) (T := TX4) (N := 4) hx hb hts in_X4 tyX4 tyX4_ok hown (hts _ mw_20) (hts _ mw_55) (hts _ mw_3) hK hP hD hS hA rfl (fun j hj => by rcases (show j = 0 ∨ j = 1 ∨ j = 2 ∨ j = 3 by omega) with rfl | rfl | rfl | rfl <;> rfl) (Nat.le_of_ble_eq_true rfl) (Nat.le_of_ble_eq_true rfl) dX8_newVoucher_44 (fun q H hP hD hS => ?_)
  have hP : va_P D vwCl (ws ++ [(q, vo_E 0 0 0 0 0 0 0)]) H := hP
  have hD : va_D A (ws ++ [(q, vo_E 0 0 0 0 0 0 0)]) := hD
  have he : (ws ++ [(q, vo_E 0 0 0 0 0 0 0)])[ws.length]? = some (q, vo_E 0 0 0 0 0 0 0) := ap_new _ _
  refine lv_dup hx hb dX8_newVoucher_47 rfl ?_
  refine lv_iload_n hx hb dX8_newVoucher_48 rfl (lv_at hl 0 rfl) ?_
  refine lv_iload_n hx hb dX8_newVoucher_49 rfl (lv_at hl 1 rfl) ?_
  refine lv_iload_n hx hb dX8_newVoucher_50 rfl (lv_at hl 2 rfl) ?_
  refine g_ctor (As := [.int (nI 0), .int am, .int fr]) (rest := [.ref q]) iw_X8_96 X (c_X4_init l D (vTy cI cZ cP) 1 (by decide) he (nI 0) am fr) hP hD hS hA ⟨by show _ ≤ d; omega, by show _ ≤ 30 * d; omega⟩ rfl hl.1 rfl (Nat.le_of_ble_eq_true rfl) dX8_newVoucher_51 ⟨(Nat.le_of_ble_eq_true rfl), (Nat.le_of_ble_eq_true rfl)⟩ (kW fun H locs hP hD hS => ?_)
  rw [ap_set] at hP hD
  refine W.eq (g2 := F0 m 54 L [.ref q]) rfl ?_
  refine W.widen (k := 1) (n := 5) (Nat.le_of_ble_eq_true rfl) (Nat.le_of_ble_eq_true rfl) ?_
  exact e_ref X hP hD hS dX8_newVoucher_54 (Or.inr ⟨_, rfl⟩) ⟨q, rfl, rfl⟩
set_option maxHeartbeats 4000000 in
set_option maxRecDepth 100000 in
theorem c_nv_1 (l : Launch) (D : va_G) (cI cZ cP : ClassId) (d : Nat) (hd : 6 ≤ d) (ws : va_W) (am fr : Int32) : Ct l D (vTy cI cZ cP) yX8_newVoucher cX8_newVoucher 3 (some (.object "VoucherOffice$Plain")) d 1 5 [.int (nI 1), .int am, .int fr] ws (pN 1 am fr ws) := by
  refine ct_intro (by decide) (Nat.le_of_ble_eq_true rfl) ?_
  intro p e s m below meth c A L X hin hP hD hS hA hl
  have hl : lv_has L 3 [(0, .int (nI 1)), (1, .int am), (2, .int fr)] := hl
  obtain ⟨hx, hb, hr, hml, hown, hts, hK, hlk, hxK⟩ := id X
  refine lv_iload_n hx hb dX8_newVoucher_0 rfl (lv_at hl 0 rfl) ?_
  refine lv_tableIn (tgt := 55) (off := 54) hx hb dX8_newVoucher_1 (by decide) (by decide) (by rfl) (by decide) ?_
  refine va_new (ci := 2) (fs := [.int 0, .int 0, .int 0, .int 0]) (C := RX2) (T := TX2) (N := 4) hx hb hts in_X2 tyX2 tyX2_ok hown (hts _ mw_83) (hts _ mw_84) (hts _ mw_4) hK hP hD hS hA rfl (fun j hj => by rcases (show j = 0 ∨ j = 1 ∨ j = 2 ∨ j = 3 by omega) with rfl | rfl | rfl | rfl <;> rfl) (Nat.le_of_ble_eq_true rfl) (Nat.le_of_ble_eq_true rfl) dX8_newVoucher_55 (fun q H hP hD hS => ?_)
  have hP : va_P D vwCl (ws ++ [(q, vo_E 1 0 0 0 0 0 0)]) H := hP
  have hD : va_D A (ws ++ [(q, vo_E 1 0 0 0 0 0 0)]) := hD
  have he : (ws ++ [(q, vo_E 1 0 0 0 0 0 0)])[ws.length]? = some (q, vo_E 1 0 0 0 0 0 0) := ap_new _ _
  refine lv_dup hx hb dX8_newVoucher_58 rfl ?_
  refine lv_iload_n hx hb dX8_newVoucher_59 rfl (lv_at hl 0 rfl) ?_
  refine lv_iload_n hx hb dX8_newVoucher_60 rfl (lv_at hl 1 rfl) ?_
  refine lv_iload_n hx hb dX8_newVoucher_61 rfl (lv_at hl 2 rfl) ?_
  refine g_ctor (As := [.int (nI 1), .int am, .int fr]) (rest := [.ref q]) iw_X8_101 X (c_X2_init l D (vTy cI cZ cP) 2 (by decide) he (nI 1) am fr) hP hD hS hA ⟨by show _ ≤ d; omega, by show _ ≤ 30 * d; omega⟩ rfl hl.1 rfl (Nat.le_of_ble_eq_true rfl) dX8_newVoucher_62 ⟨(Nat.le_of_ble_eq_true rfl), (Nat.le_of_ble_eq_true rfl)⟩ (kW fun H locs hP hD hS => ?_)
  rw [ap_set] at hP hD
  refine W.eq (g2 := F0 m 65 L [.ref q]) rfl ?_
  refine W.widen (k := 1) (n := 5) (Nat.le_of_ble_eq_true rfl) (Nat.le_of_ble_eq_true rfl) ?_
  exact e_ref X hP hD hS dX8_newVoucher_65 (Or.inr ⟨_, rfl⟩) ⟨q, rfl, rfl⟩
set_option maxHeartbeats 4000000 in
set_option maxRecDepth 100000 in
theorem c_nv_2 (l : Launch) (D : va_G) (cI cZ cP : ClassId) (d : Nat) (hd : 6 ≤ d) (ws : va_W) (am fr : Int32) : Ct l D (vTy cI cZ cP) yX8_newVoucher cX8_newVoucher 3 (some (.object "VoucherOffice$Plain")) d 1 5 [.int (nI 2), .int am, .int fr] ws (pN 2 am fr ws) := by
  refine ct_intro (by decide) (Nat.le_of_ble_eq_true rfl) ?_
  intro p e s m below meth c A L X hin hP hD hS hA hl
  have hl : lv_has L 3 [(0, .int (nI 2)), (1, .int am), (2, .int fr)] := hl
  obtain ⟨hx, hb, hr, hml, hown, hts, hK, hlk, hxK⟩ := id X
  refine lv_iload_n hx hb dX8_newVoucher_0 rfl (lv_at hl 0 rfl) ?_
  refine lv_tableIn (tgt := 66) (off := 65) hx hb dX8_newVoucher_1 (by decide) (by decide) (by rfl) (by decide) ?_
  refine va_new (ci := 6) (fs := [.int 0, .int 0, .int 0, .int 0]) (C := RX6) (T := TX6) (N := 4) hx hb hts in_X6 tyX6 tyX6_ok hown (hts _ mw_94) (hts _ mw_95) (hts _ mw_5) hK hP hD hS hA rfl (fun j hj => by rcases (show j = 0 ∨ j = 1 ∨ j = 2 ∨ j = 3 by omega) with rfl | rfl | rfl | rfl <;> rfl) (Nat.le_of_ble_eq_true rfl) (Nat.le_of_ble_eq_true rfl) dX8_newVoucher_66 (fun q H hP hD hS => ?_)
  have hP : va_P D vwCl (ws ++ [(q, vo_E 2 0 0 0 0 0 0)]) H := hP
  have hD : va_D A (ws ++ [(q, vo_E 2 0 0 0 0 0 0)]) := hD
  have he : (ws ++ [(q, vo_E 2 0 0 0 0 0 0)])[ws.length]? = some (q, vo_E 2 0 0 0 0 0 0) := ap_new _ _
  refine lv_dup hx hb dX8_newVoucher_69 rfl ?_
  refine lv_iload_n hx hb dX8_newVoucher_70 rfl (lv_at hl 0 rfl) ?_
  refine lv_iload_n hx hb dX8_newVoucher_71 rfl (lv_at hl 1 rfl) ?_
  refine lv_iload_n hx hb dX8_newVoucher_72 rfl (lv_at hl 2 rfl) ?_
  refine g_ctor (As := [.int (nI 2), .int am, .int fr]) (rest := [.ref q]) iw_X8_104 X (c_X6_init l D (vTy cI cZ cP) 3 (by decide) he (nI 2) am fr) hP hD hS hA ⟨by show _ ≤ d; omega, by show _ ≤ 30 * d; omega⟩ rfl hl.1 rfl (Nat.le_of_ble_eq_true rfl) dX8_newVoucher_73 ⟨(Nat.le_of_ble_eq_true rfl), (Nat.le_of_ble_eq_true rfl)⟩ (kW fun H locs hP hD hS => ?_)
  rw [ap_set] at hP hD
  refine W.eq (g2 := F0 m 76 L [.ref q]) rfl ?_
  refine W.widen (k := 1) (n := 5) (Nat.le_of_ble_eq_true rfl) (Nat.le_of_ble_eq_true rfl) ?_
  exact e_ref X hP hD hS dX8_newVoucher_76 (Or.inr ⟨_, rfl⟩) ⟨q, rfl, rfl⟩
set_option maxHeartbeats 4000000 in
set_option maxRecDepth 100000 in
theorem c_nv_3 (l : Launch) (D : va_G) (cI cZ cP : ClassId) (d : Nat) (hd : 6 ≤ d) (ws : va_W) (am fr : Int32) : Ct l D (vTy cI cZ cP) yX8_newVoucher cX8_newVoucher 3 (some (.object "VoucherOffice$Plain")) d 1 5 [.int (nI 3), .int am, .int fr] ws (pN 3 am fr ws) := by
  refine ct_intro (by decide) (Nat.le_of_ble_eq_true rfl) ?_
  intro p e s m below meth c A L X hin hP hD hS hA hl
  have hl : lv_has L 3 [(0, .int (nI 3)), (1, .int am), (2, .int fr)] := hl
  obtain ⟨hx, hb, hr, hml, hown, hts, hK, hlk, hxK⟩ := id X
  refine lv_iload_n hx hb dX8_newVoucher_0 rfl (lv_at hl 0 rfl) ?_
  refine lv_tableIn (tgt := 77) (off := 76) hx hb dX8_newVoucher_1 (by decide) (by decide) (by rfl) (by decide) ?_
  refine va_new (ci := 7) (fs := [.int 0, .int 0, .int 0, .int 0, .int 0]) (C := RX7) (T := TX7) (N := 5) hx hb hts in_X7 tyX7 tyX7_ok hown (hts _ mw_105) (hts _ mw_106) (hts _ mw_6) hK hP hD hS hA rfl (fun j hj => by rcases (show j = 0 ∨ j = 1 ∨ j = 2 ∨ j = 3 ∨ j = 4 by omega) with rfl | rfl | rfl | rfl | rfl <;> rfl) (Nat.le_of_ble_eq_true rfl) (Nat.le_of_ble_eq_true rfl) dX8_newVoucher_77 (fun q H hP hD hS => ?_)
  have hP : va_P D vwCl (ws ++ [(q, vo_E 3 0 0 0 0 0 0)]) H := hP
  have hD : va_D A (ws ++ [(q, vo_E 3 0 0 0 0 0 0)]) := hD
  have he : (ws ++ [(q, vo_E 3 0 0 0 0 0 0)])[ws.length]? = some (q, vo_E 3 0 0 0 0 0 0) := ap_new _ _
  refine lv_dup hx hb dX8_newVoucher_80 rfl ?_
  refine lv_iload_n hx hb dX8_newVoucher_81 rfl (lv_at hl 0 rfl) ?_
  refine lv_iload_n hx hb dX8_newVoucher_82 rfl (lv_at hl 1 rfl) ?_
  refine lv_iload_n hx hb dX8_newVoucher_83 rfl (lv_at hl 2 rfl) ?_
  refine g_ctor (As := [.int (nI 3), .int am, .int fr]) (rest := [.ref q]) iw_X8_107 X (c_X7_init l D (vTy cI cZ cP) 4 (by decide) he rfl (nI 3) am fr) hP hD hS hA ⟨by show _ ≤ d; omega, by show _ ≤ 30 * d; omega⟩ rfl hl.1 rfl (Nat.le_of_ble_eq_true rfl) dX8_newVoucher_84 ⟨(Nat.le_of_ble_eq_true rfl), (Nat.le_of_ble_eq_true rfl)⟩ (kW fun H locs hP hD hS => ?_)
  rw [ap_set] at hP hD
  refine W.eq (g2 := F0 m 87 L [.ref q]) rfl ?_
  refine W.widen (k := 1) (n := 5) (Nat.le_of_ble_eq_true rfl) (Nat.le_of_ble_eq_true rfl) ?_
  exact e_ref X hP hD hS dX8_newVoucher_87 (Or.inr ⟨_, rfl⟩) ⟨q, rfl, rfl⟩
set_option maxHeartbeats 4000000 in
set_option maxRecDepth 100000 in
theorem c_nv_4 (l : Launch) (D : va_G) (cI cZ cP : ClassId) (d : Nat) (hd : 6 ≤ d) (ws : va_W) (am fr : Int32) : Ct l D (vTy cI cZ cP) yX8_newVoucher cX8_newVoucher 3 (some (.object "VoucherOffice$Plain")) d 1 5 [.int (nI 4), .int am, .int fr] ws (pN 4 am fr ws) := by
  refine ct_intro (by decide) (Nat.le_of_ble_eq_true rfl) ?_
  intro p e s m below meth c A L X hin hP hD hS hA hl
  have hl : lv_has L 3 [(0, .int (nI 4)), (1, .int am), (2, .int fr)] := hl
  obtain ⟨hx, hb, hr, hml, hown, hts, hK, hlk, hxK⟩ := id X
  refine lv_iload_n hx hb dX8_newVoucher_0 rfl (lv_at hl 0 rfl) ?_
  refine lv_tableIn (tgt := 88) (off := 87) hx hb dX8_newVoucher_1 (by decide) (by decide) (by rfl) (by decide) ?_
  refine va_new (ci := 5) (fs := [.int 0, .int 0, .int 0, .int 0]) (C := RX5) (T := TX5) (N := 4) hx hb hts in_X5 tyX5 tyX5_ok hown (hts _ mw_119) (hts _ mw_120) (hts _ mw_7) hK hP hD hS hA rfl (fun j hj => by rcases (show j = 0 ∨ j = 1 ∨ j = 2 ∨ j = 3 by omega) with rfl | rfl | rfl | rfl <;> rfl) (Nat.le_of_ble_eq_true rfl) (Nat.le_of_ble_eq_true rfl) dX8_newVoucher_88 (fun q H hP hD hS => ?_)
  have hP : va_P D vwCl (ws ++ [(q, vo_E 4 0 0 0 0 0 0)]) H := hP
  have hD : va_D A (ws ++ [(q, vo_E 4 0 0 0 0 0 0)]) := hD
  have he : (ws ++ [(q, vo_E 4 0 0 0 0 0 0)])[ws.length]? = some (q, vo_E 4 0 0 0 0 0 0) := ap_new _ _
  refine lv_dup hx hb dX8_newVoucher_91 rfl ?_
  refine lv_iload_n hx hb dX8_newVoucher_92 rfl (lv_at hl 0 rfl) ?_
  refine lv_iload_n hx hb dX8_newVoucher_93 rfl (lv_at hl 1 rfl) ?_
  refine lv_iload_n hx hb dX8_newVoucher_94 rfl (lv_at hl 2 rfl) ?_
  refine g_ctor (As := [.int (nI 4), .int am, .int fr]) (rest := [.ref q]) iw_X8_110 X (c_X5_init l D (vTy cI cZ cP) 2 (by decide) he (nI 4) am fr) hP hD hS hA ⟨by show _ ≤ d; omega, by show _ ≤ 30 * d; omega⟩ rfl hl.1 rfl (Nat.le_of_ble_eq_true rfl) dX8_newVoucher_95 ⟨(Nat.le_of_ble_eq_true rfl), (Nat.le_of_ble_eq_true rfl)⟩ (kW fun H locs hP hD hS => ?_)
  rw [ap_set] at hP hD
  refine W.eq (g2 := F0 m 98 L [.ref q]) rfl ?_
  refine W.widen (k := 1) (n := 5) (Nat.le_of_ble_eq_true rfl) (Nat.le_of_ble_eq_true rfl) ?_
  exact e_ref X hP hD hS dX8_newVoucher_98 (Or.inr ⟨_, rfl⟩) ⟨q, rfl, rfl⟩
set_option maxHeartbeats 4000000 in
set_option maxRecDepth 100000 in
theorem c_nv_5 (l : Launch) (D : va_G) (cI cZ cP : ClassId) (d : Nat) (hd : 6 ≤ d) (ws : va_W) (am fr : Int32) : Ct l D (vTy cI cZ cP) yX8_newVoucher cX8_newVoucher 3 (some (.object "VoucherOffice$Plain")) d 1 5 [.int (nI 5), .int am, .int fr] ws (pN 5 am fr ws) := by
  refine ct_intro (by decide) (Nat.le_of_ble_eq_true rfl) ?_
  intro p e s m below meth c A L X hin hP hD hS hA hl
  have hl : lv_has L 3 [(0, .int (nI 5)), (1, .int am), (2, .int fr)] := hl
  obtain ⟨hx, hb, hr, hml, hown, hts, hK, hlk, hxK⟩ := id X
  refine lv_iload_n hx hb dX8_newVoucher_0 rfl (lv_at hl 0 rfl) ?_
  refine lv_tableIn (tgt := 99) (off := 98) hx hb dX8_newVoucher_1 (by decide) (by decide) (by rfl) (by decide) ?_
  refine va_new (ci := 0) (fs := [.int 0, .int 0, .int 0, .int 0]) (C := RX0) (T := TX0) (N := 4) hx hb hts in_X0 tyX0 tyX0_ok hown (hts _ mw_130) (hts _ mw_131) (hts _ mw_8) hK hP hD hS hA rfl (fun j hj => by rcases (show j = 0 ∨ j = 1 ∨ j = 2 ∨ j = 3 by omega) with rfl | rfl | rfl | rfl <;> rfl) (Nat.le_of_ble_eq_true rfl) (Nat.le_of_ble_eq_true rfl) dX8_newVoucher_99 (fun q H hP hD hS => ?_)
  have hP : va_P D vwCl (ws ++ [(q, vo_E 5 0 0 0 0 0 0)]) H := hP
  have hD : va_D A (ws ++ [(q, vo_E 5 0 0 0 0 0 0)]) := hD
  have he : (ws ++ [(q, vo_E 5 0 0 0 0 0 0)])[ws.length]? = some (q, vo_E 5 0 0 0 0 0 0) := ap_new _ _
  refine lv_dup hx hb dX8_newVoucher_102 rfl ?_
  refine lv_iload_n hx hb dX8_newVoucher_103 rfl (lv_at hl 0 rfl) ?_
  refine lv_iload_n hx hb dX8_newVoucher_104 rfl (lv_at hl 1 rfl) ?_
  refine lv_iload_n hx hb dX8_newVoucher_105 rfl (lv_at hl 2 rfl) ?_
  refine g_ctor (As := [.int (nI 5), .int am, .int fr]) (rest := [.ref q]) iw_X8_113 X (c_X0_init l D (vTy cI cZ cP) 3 (by decide) he (nI 5) am fr) hP hD hS hA ⟨by show _ ≤ d; omega, by show _ ≤ 30 * d; omega⟩ rfl hl.1 rfl (Nat.le_of_ble_eq_true rfl) dX8_newVoucher_106 ⟨(Nat.le_of_ble_eq_true rfl), (Nat.le_of_ble_eq_true rfl)⟩ (kW fun H locs hP hD hS => ?_)
  rw [ap_set] at hP hD
  refine W.eq (g2 := F0 m 109 L [.ref q]) rfl ?_
  refine W.widen (k := 1) (n := 5) (Nat.le_of_ble_eq_true rfl) (Nat.le_of_ble_eq_true rfl) ?_
  exact e_ref X hP hD hS dX8_newVoucher_109 (Or.inr ⟨_, rfl⟩) ⟨q, rfl, rfl⟩
set_option maxHeartbeats 4000000 in
set_option maxRecDepth 100000 in
theorem c_nv_6 (l : Launch) (D : va_G) (cI cZ cP : ClassId) (d : Nat) (hd : 6 ≤ d) (ws : va_W) (am fr : Int32) : Ct l D (vTy cI cZ cP) yX8_newVoucher cX8_newVoucher 3 (some (.object "VoucherOffice$Plain")) d 1 5 [.int (nI 6), .int am, .int fr] ws (pN 6 am fr ws) := by
  refine ct_intro (by decide) (Nat.le_of_ble_eq_true rfl) ?_
  intro p e s m below meth c A L X hin hP hD hS hA hl
  have hl : lv_has L 3 [(0, .int (nI 6)), (1, .int am), (2, .int fr)] := hl
  obtain ⟨hx, hb, hr, hml, hown, hts, hK, hlk, hxK⟩ := id X
  refine lv_iload_n hx hb dX8_newVoucher_0 rfl (lv_at hl 0 rfl) ?_
  refine lv_tableIn (tgt := 110) (off := 109) hx hb dX8_newVoucher_1 (by decide) (by decide) (by rfl) (by decide) ?_
  refine va_new (ci := 3) (fs := [.int 0, .int 0, .int 0, .int 0, .int 0]) (C := RX3) (T := TX3) (N := 5) hx hb hts in_X3 tyX3 tyX3_ok hown (hts _ mw_141) (hts _ mw_142) (hts _ mw_9) hK hP hD hS hA rfl (fun j hj => by rcases (show j = 0 ∨ j = 1 ∨ j = 2 ∨ j = 3 ∨ j = 4 by omega) with rfl | rfl | rfl | rfl | rfl <;> rfl) (Nat.le_of_ble_eq_true rfl) (Nat.le_of_ble_eq_true rfl) dX8_newVoucher_110 (fun q H hP hD hS => ?_)
  have hP : va_P D vwCl (ws ++ [(q, vo_E 6 0 0 0 0 0 0)]) H := hP
  have hD : va_D A (ws ++ [(q, vo_E 6 0 0 0 0 0 0)]) := hD
  have he : (ws ++ [(q, vo_E 6 0 0 0 0 0 0)])[ws.length]? = some (q, vo_E 6 0 0 0 0 0 0) := ap_new _ _
  refine lv_dup hx hb dX8_newVoucher_113 rfl ?_
  refine lv_iload_n hx hb dX8_newVoucher_114 rfl (lv_at hl 0 rfl) ?_
  refine lv_iload_n hx hb dX8_newVoucher_115 rfl (lv_at hl 1 rfl) ?_
  refine lv_iload_n hx hb dX8_newVoucher_116 rfl (lv_at hl 2 rfl) ?_
  refine g_ctor (As := [.int (nI 6), .int am, .int fr]) (rest := [.ref q]) iw_X8_116 X (c_X3_init l D (vTy cI cZ cP) 4 (by decide) he (by decide) (nI 6) am fr) hP hD hS hA ⟨by show _ ≤ d; omega, by show _ ≤ 30 * d; omega⟩ rfl hl.1 rfl (Nat.le_of_ble_eq_true rfl) dX8_newVoucher_117 ⟨(Nat.le_of_ble_eq_true rfl), (Nat.le_of_ble_eq_true rfl)⟩ (kW fun H locs hP hD hS => ?_)
  rw [ap_set] at hP hD
  refine W.eq (g2 := F0 m 120 L [.ref q]) rfl ?_
  refine W.widen (k := 1) (n := 5) (Nat.le_of_ble_eq_true rfl) (Nat.le_of_ble_eq_true rfl) ?_
  exact e_ref X hP hD hS dX8_newVoucher_120 (Or.inr ⟨_, rfl⟩) ⟨q, rfl, rfl⟩
set_option maxHeartbeats 4000000 in
set_option maxRecDepth 100000 in
theorem c_nv_7 (l : Launch) (D : va_G) (cI cZ cP : ClassId) (d : Nat) (hd : 6 ≤ d) (ws : va_W) (am fr : Int32) : Ct l D (vTy cI cZ cP) yX8_newVoucher cX8_newVoucher 3 (some (.object "VoucherOffice$Plain")) d 1 5 [.int (nI 7), .int am, .int fr] ws (pN 7 am fr ws) := by
  refine ct_intro (by decide) (Nat.le_of_ble_eq_true rfl) ?_
  intro p e s m below meth c A L X hin hP hD hS hA hl
  have hl : lv_has L 3 [(0, .int (nI 7)), (1, .int am), (2, .int fr)] := hl
  obtain ⟨hx, hb, hr, hml, hown, hts, hK, hlk, hxK⟩ := id X
  refine lv_iload_n hx hb dX8_newVoucher_0 rfl (lv_at hl 0 rfl) ?_
  refine lv_tableOut (tgt := 121) hx hb dX8_newVoucher_1 (Or.inr (by decide)) (by decide) ?_
  refine va_new (ci := 1) (fs := [.int 0, .int 0, .int 0, .int 0, .int 0]) (C := RX1) (T := TX1) (N := 5) hx hb hts in_X1 tyX1 tyX1_ok hown (hts _ mw_157) (hts _ mw_158) (hts _ mw_10) hK hP hD hS hA rfl (fun j hj => by rcases (show j = 0 ∨ j = 1 ∨ j = 2 ∨ j = 3 ∨ j = 4 by omega) with rfl | rfl | rfl | rfl | rfl <;> rfl) (Nat.le_of_ble_eq_true rfl) (Nat.le_of_ble_eq_true rfl) dX8_newVoucher_121 (fun q H hP hD hS => ?_)
  have hP : va_P D vwCl (ws ++ [(q, vo_E 7 0 0 0 0 0 0)]) H := hP
  have hD : va_D A (ws ++ [(q, vo_E 7 0 0 0 0 0 0)]) := hD
  have he : (ws ++ [(q, vo_E 7 0 0 0 0 0 0)])[ws.length]? = some (q, vo_E 7 0 0 0 0 0 0) := ap_new _ _
  refine lv_dup hx hb dX8_newVoucher_124 rfl ?_
  refine lv_iload_n hx hb dX8_newVoucher_125 rfl (lv_at hl 0 rfl) ?_
  refine lv_iload_n hx hb dX8_newVoucher_126 rfl (lv_at hl 1 rfl) ?_
  refine lv_iload_n hx hb dX8_newVoucher_127 rfl (lv_at hl 2 rfl) ?_
  refine g_ctor (As := [.int (nI 7), .int am, .int fr]) (rest := [.ref q]) iw_X8_119 X (c_X1_init l D (vTy cI cZ cP) 5 (by decide) he (by decide) (nI 7) am fr) hP hD hS hA ⟨by show _ ≤ d; omega, by show _ ≤ 30 * d; omega⟩ rfl hl.1 rfl (Nat.le_of_ble_eq_true rfl) dX8_newVoucher_128 ⟨(Nat.le_of_ble_eq_true rfl), (Nat.le_of_ble_eq_true rfl)⟩ (kW fun H locs hP hD hS => ?_)
  rw [ap_set] at hP hD
  refine W.eq (g2 := F0 m 131 L [.ref q]) rfl ?_
  refine W.widen (k := 1) (n := 5) (Nat.le_of_ble_eq_true rfl) (Nat.le_of_ble_eq_true rfl) ?_
  exact e_ref X hP hD hS dX8_newVoucher_131 (Or.inr ⟨_, rfl⟩) ⟨q, rfl, rfl⟩
theorem c_X8_newVoucher (l : Launch) (D : va_G) (cI cZ cP : ClassId) (d : Nat) (hd : 6 ≤ d) (ws : va_W) {K : Nat} (hK : K ≤ 7) (am fr : Int32) : Ct l D (vTy cI cZ cP) yX8_newVoucher cX8_newVoucher 3 (some (.object "VoucherOffice$Plain")) d 1 5 [.int (nI K), .int am, .int fr] ws (pN K am fr ws) := by
  rcases k_cases hK with rfl | rfl | rfl | rfl | rfl | rfl | rfl | rfl
  · exact c_nv_0 l D cI cZ cP d hd ws am fr
  · exact c_nv_1 l D cI cZ cP d hd ws am fr
  · exact c_nv_2 l D cI cZ cP d hd ws am fr
  · exact c_nv_3 l D cI cZ cP d hd ws am fr
  · exact c_nv_4 l D cI cZ cP d hd ws am fr
  · exact c_nv_5 l D cI cZ cP d hd ws am fr
  · exact c_nv_6 l D cI cZ cP d hd ws am fr
  · exact c_nv_7 l D cI cZ cP d hd ws am fr
theorem is40 {x : Int32} {n : Nat} (hn : x = nI n) (h40 : n ≤ 40) (h : ¬ x < 40) : x = 40 := by
  rcases Nat.lt_or_ge n 40 with q | q
  · exact absurd (by rw [hn]; exact nI_lt (b := 40) q (by decide)) h
  · rw [hn, show n = 40 by omega]; rfl
set_option maxHeartbeats 4000000 in
set_option maxRecDepth 100000 in
theorem c_X8_issue (l : Launch) (D : va_G) (cI cZ cP : ClassId) (d : Nat) (hd : 7 ≤ d) {ws : va_W} {h p0 p1 ha n : Nat} {row : Nat → Option Nat} {pv : Nat → Nat} {sc : Nat → Int32} {ar : Nat → Nat → Int32} (hO : of_at cP ws h p0 p1 ha row pv sc ar n) (hI : mInv sc ar n) (k am : Int32) : Ct l D (vTy cI cZ cP) yX8_issue cX8_issue 4 (some .int) d 1 5 [.ref h, .int k, .int am] ws (pO cP h (mIssue sc ar k am) ws) := by
  obtain ⟨hn, h40, hday, hvs, hout⟩ := id hI
  refine ct_intro (by decide) (Nat.le_of_ble_eq_true rfl) ?_
  intro p e s m below meth c A L X hin hP hD hS hA hl
  have hl : lv_has L 4 [(0, .ref h), (1, .int k), (2, .int am)] := hl
  obtain ⟨hx, hb, hr, hml, hown, hts, hK, hlk, hxK⟩ := id X
  have hfr := of_fr_rf ws
  refine lv_iload_n hx hb dX8_issue_0 rfl (lv_at hl 1 rfl) ?_
  refine lv_iconst (v := 0) hx hb dX8_issue_1 (by decide) ?_
  refine lv_bipush (v := 7) hx hb dX8_issue_2 (by decide) ?_
  refine g_static (As := [.int k, .int 0, .int 7]) (rest := []) sw_X8_34 X (c_X8_isOutside l D (vTy cI cZ cP) 0 (by decide) ws k 0 7) hP hD hS hA ⟨by show _ ≤ d; omega, by show _ ≤ 30 * d; omega⟩ rfl hl.1 rfl (Nat.le_of_ble_eq_true rfl) dX8_issue_4 ⟨(Nat.le_of_ble_eq_true rfl), (Nat.le_of_ble_eq_true rfl)⟩ (kI fun H locs hP hD hS => ?_)
  refine W.eq (g2 := F0 m 7 L [.int (mOut k 0 7)]) rfl ?_
  refine lv_if_ne (tgt := 20) hx hb dX8_issue_7 (by decide) (fun c_7 => ?_) (fun c_7 => ?_)
  · -- c_7 True
    have c_7 : mWin k 0 7 = 0 := out_1 c_7
    refine lv_bipush (v := (-2)) hx hb dX8_issue_20 (by decide) ?_
    refine W.widen (k := 1) (n := 5) (Nat.le_of_ble_eq_true rfl) (Nat.le_of_ble_eq_true rfl) ?_
    exact e_int X hP hD hS dX8_issue_22 (pO_of hO hn hfr (by simp only [mIssue, if_pos c_7]))
  · -- c_7 False
    have c_7 : ¬ mWin k 0 7 = 0 := out_0 c_7
    refine lv_iload_n hx hb dX8_issue_10 rfl (lv_at hl 2 rfl) ?_
    refine lv_iconst (v := 1) hx hb dX8_issue_11 (by decide) ?_
    refine lv_ldc (v := 100000) hx hb hown (hts _ mw_51) dX8_issue_12 ?_
    refine g_static (As := [.int am, .int 1, .int 100000]) (rest := []) sw_X8_34 X (c_X8_isOutside l D (vTy cI cZ cP) 0 (by decide) ws am 1 100000) hP hD hS hA ⟨by show _ ≤ d; omega, by show _ ≤ 30 * d; omega⟩ rfl hl.1 rfl (Nat.le_of_ble_eq_true rfl) dX8_issue_14 ⟨(Nat.le_of_ble_eq_true rfl), (Nat.le_of_ble_eq_true rfl)⟩ (kI fun H locs hP hD hS => ?_)
    refine W.eq (g2 := F0 m 17 L [.int (mOut am 1 100000)]) rfl ?_
    refine lv_if_eq (tgt := 23) hx hb dX8_issue_17 (by decide) (fun c_17 => ?_) (fun c_17 => ?_)
    · -- c_17 True
      have c_17 : ¬ mWin am 1 100000 = 0 := out_0 c_17
      refine lv_aload_n hx hb dX8_issue_23 rfl (lv_at hl 0 rfl) ?_
      refine of_g1 X hP hO.1 mw_23 dX8_issue_24 ?_
      refine lv_bipush (v := 40) hx hb dX8_issue_27 (by decide) ?_
      refine lv_icmp_lt (tgt := 35) hx hb dX8_issue_29 (by decide) (fun c_29 => ?_) (fun c_29 => ?_)
      · -- c_29 True
        refine lv_aload_n hx hb dX8_issue_35 rfl (lv_at hl 0 rfl) ?_
        refine of_g1 X hP hO.1 mw_23 dX8_issue_36 ?_
        refine lv_istore_n (lv' := [(3, .int (sc 1)), (0, .ref h), (1, .int k), (2, .int am)]) hx hb dX8_issue_39 rfl hl (by decide) rfl (fun L hl => ?_)
        refine lv_aload_n hx hb dX8_issue_40 rfl (lv_at hl 1 rfl) ?_
        refine of_gV X hP hO.1 mw_22 dX8_issue_41 ?_
        refine lv_iload_n hx hb dX8_issue_44 rfl (lv_at hl 0 rfl) ?_
        refine lv_iload_n hx hb dX8_issue_45 rfl (lv_at hl 2 rfl) ?_
        refine lv_iload_n hx hb dX8_issue_46 rfl (lv_at hl 3 rfl) ?_
        refine lv_aload_n hx hb dX8_issue_47 rfl (lv_at hl 1 rfl) ?_
        refine of_g0 X hP hO.1 mw_24 dX8_issue_48 ?_
        obtain ⟨K, hK7, eK⟩ := in_7 c_7
        subst eK
        have hn40 : n < 40 := by
          rw [hn] at c_29
          exact (nI_ltI (b := 40) (by omega) (by decide)).mp c_29
        have e99 : (sc 1).toNatClampNeg = n := by rw [hn]; exact nI_clamp (by omega)
        have hv : vp_in (sc 1) 40 := by rw [hn]; exact vp_in_nI hn40 (by decide)
        have c40 : ¬ sc 1 = 40 := fun z => absurd c_29 (by rw [z]; decide)
        refine g_static (As := [.int (nI K), .int am, .int (sc 0)]) (rest := [.int (sc 1), .ref ha]) sw_X8_39 X (c_X8_newVoucher l D cI cZ cP 6 (by decide) ws hK7 am (sc 0)) hP hD hS hA ⟨by show _ ≤ d; omega, by show _ ≤ 30 * d; omega⟩ rfl hl.1 rfl (Nat.le_of_ble_eq_true rfl) dX8_issue_51 ⟨(Nat.le_of_ble_eq_true rfl), (Nat.le_of_ble_eq_true rfl)⟩ (fun v1 ws1 H locs hq hP hD hS => ?_)
        obtain ⟨q, ev1, ew⟩ := hq
        subst ev1
        rw [ew] at hP hD
        refine W.eq (g2 := F0 m 54 L [.ref q, .int (sc 1), .ref ha]) rfl ?_
        have hD0 := hD
        refine va_astqM hx hb hK hP hD hS p1 2 (ap_up hO.2.1) rfl (as_any hK hxK hP (ap_new _ _)) hv dX8_issue_54 (fun H locs hP hD hS => ?_)
        rw [e99] at hP hD
        have hfresh : ∀ v, v < 40 → row v ≠ some q := fun v hv9 hr9 => by
          have g2 := (hO.get hv9 hr9).2
          have g3 := hD0.1 (pv v) ws.length _ _ (ap_up g2) (ap_new _ _) rfl
          have g4 := (List.getElem?_eq_some_iff.mp g2).1
          omega
        obtain ⟨o4, o5, o6⟩ := hout n (Nat.le_refl n)
        obtain ⟨ar1, ear1⟩ : ∃ z, z = mSet (mSet (mSet (mSet ar 0 n (nI K)) 1 n am) 2 n am) 3 n (sc 0) := ⟨_, rfl⟩
        have h6a : ∀ v, ar1 6 v = ar 6 v := fun v => by rw [ear1, mS_j _ _ _ _ _ _ (by decide : (6 : Nat) ≠ 3), mS_j _ _ _ _ _ _ (by decide : (6 : Nat) ≠ 2), mS_j _ _ _ _ _ _ (by decide : (6 : Nat) ≠ 1), mS_j _ _ _ _ _ _ (by decide : (6 : Nat) ≠ 0)]
        have hEa : ∀ v, v ≠ n → ofE ar1 v = ofE ar v := fun v hv => by rw [ear1, ofE_S _ _ _ _ _ hv, ofE_S _ _ _ _ _ hv, ofE_S _ _ _ _ _ hv, ofE_S _ _ _ _ _ hv]
        have hEn : vo_E K (nI K) (sc 0) am am 0 (-1) = ofE ar1 n := by
          simp only [ear1, ofE, mS_at, mS_j _ _ _ _ _ _ (by decide : (0 : Nat) ≠ 3), mS_j _ _ _ _ _ _ (by decide : (1 : Nat) ≠ 3), mS_j _ _ _ _ _ _ (by decide : (2 : Nat) ≠ 3), mS_j _ _ _ _ _ _ (by decide : (4 : Nat) ≠ 3), mS_j _ _ _ _ _ _ (by decide : (5 : Nat) ≠ 3), mS_j _ _ _ _ _ _ (by decide : (0 : Nat) ≠ 2), mS_j _ _ _ _ _ _ (by decide : (1 : Nat) ≠ 2), mS_j _ _ _ _ _ _ (by decide : (4 : Nat) ≠ 2), mS_j _ _ _ _ _ _ (by decide : (5 : Nat) ≠ 2), mS_j _ _ _ _ _ _ (by decide : (0 : Nat) ≠ 1), mS_j _ _ _ _ _ _ (by decide : (4 : Nat) ≠ 1), mS_j _ _ _ _ _ _ (by decide : (5 : Nat) ≠ 1), mS_j _ _ _ _ _ _ (by decide : (4 : Nat) ≠ 0), mS_j _ _ _ _ _ _ (by decide : (5 : Nat) ≠ 0), o4, o5]
          rw [show mI (nI K) = K from nI_clamp (by omega)]
          rfl
        have hfr := of_fr_tr hfr (of_fr_tr (of_fr_app ws (q, vo_E K (nI K) (sc 0) am am 0 (-1))) (of_fr_set (y := (ha, of_r cP (va_up row n (some q)))) (ap_up hO.2.1) rr_nM))
        have hO := hO.add hn40 ar1 h6a (by rw [h6a]; exact o6) hEa hEn hfresh
        refine lv_aload_n hx hb dX8_issue_55 rfl (lv_at hl 1 rfl) ?_
        refine lv_iload_n hx hb dX8_issue_56 rfl (lv_at hl 0 rfl) ?_
        refine lv_iconst (v := 1) hx hb dX8_issue_57 (by decide) ?_
        refine lv_iadd hx hb dX8_issue_58 ?_
        refine of_p1 X hP hD hS hO.1 mw_23 dX8_issue_59 (fun H locs hP hD hS => ?_)
        have hfr := of_fr_tr hfr (of_fr_set (y := (h, of_o (va_up sc 1 ((sc 1) + 1)) ha)) hO.1 oo_nM)
        have hO := hO.put (va_up sc 1 ((sc 1) + 1))
        refine lv_aload_n hx hb dX8_issue_62 rfl (lv_at hl 1 rfl) ?_
        refine lv_dup hx hb dX8_issue_63 rfl ?_
        refine of_g2 X hP hO.1 mw_25 dX8_issue_64 ?_
        refine lv_iload_n hx hb dX8_issue_67 rfl (lv_at hl 3 rfl) ?_
        refine lv_iadd hx hb dX8_issue_68 ?_
        refine of_p2 X hP hD hS hO.1 mw_25 dX8_issue_69 (fun H locs hP hD hS => ?_)
        have hfr := of_fr_tr hfr (of_fr_set (y := (h, of_o (va_up (va_up sc 1 ((sc 1) + 1)) 2 (((va_up sc 1 ((sc 1) + 1)) 2) + am)) ha)) hO.1 oo_nM)
        have hO := hO.put (va_up (va_up sc 1 ((sc 1) + 1)) 2 (((va_up sc 1 ((sc 1) + 1)) 2) + am))
        refine lv_iload_n hx hb dX8_issue_72 rfl (lv_at hl 0 rfl) ?_
        exact e_int X hP hD hS dX8_issue_73 (pO_of hO (by show sc 1 + 1 = nI (n + 1); rw [hn, nI_1]) hfr (by simp only [mIssue, if_neg c_7, if_neg c_17, if_neg c40, mI, e99, ear1]; rfl))
      · -- c_29 False
        refine lv_bipush (v := (-4)) hx hb dX8_issue_32 (by decide) ?_
        refine W.widen (k := 1) (n := 5) (Nat.le_of_ble_eq_true rfl) (Nat.le_of_ble_eq_true rfl) ?_
        exact e_int X hP hD hS dX8_issue_34 (pO_of hO hn hfr (by simp only [mIssue, if_neg c_7, if_neg c_17, if_pos (is40 hn h40 c_29)]))
    · -- c_17 False
      have c_17 : mWin am 1 100000 = 0 := out_1 c_17
      refine lv_bipush (v := (-2)) hx hb dX8_issue_20 (by decide) ?_
      refine W.widen (k := 1) (n := 5) (Nat.le_of_ble_eq_true rfl) (Nat.le_of_ble_eq_true rfl) ?_
      exact e_int X hP hD hS dX8_issue_22 (pO_of hO hn hfr (by simp only [mIssue, if_neg c_7, if_pos c_17]))
theorem ty_eq {D : va_G} {cl : List vw_C} {cI cZ cP cA : ClassId} {s : State} (h : va_K D cl (vTy cI cZ cP ++ [(cA, .int)]) s) : cA = cI := by
  have h1 : s.vm.findClass ("[" ++ (FieldType.int).toString) = some cI := (h.2 0 _ rfl).2
  have h2 : s.vm.findClass ("[" ++ (FieldType.int).toString) = some cA := (h.2 3 _ rfl).2
  exact Option.some.inj (h2.symm.trans h1)
theorem ty_eqZ {D : va_G} {cl : List vw_C} {cI cZ cP cA : ClassId} {s : State} (h : va_K D cl (vTy cI cZ cP ++ [(cA, .boolean)]) s) : cA = cZ := by
  have h1 : s.vm.findClass ("[" ++ (FieldType.boolean).toString) = some cZ := (h.2 1 _ rfl).2
  have h2 : s.vm.findClass ("[" ++ (FieldType.boolean).toString) = some cA := (h.2 3 _ rfl).2
  exact Option.some.inj (h2.symm.trans h1)
theorem ty_eqP {D : va_G} {cl : List vw_C} {cI cZ cP cA : ClassId} {s : State} (h : va_K D cl (vTy cI cZ cP ++ [(cA, .object "VoucherOffice$Plain")]) s) : cA = cP := by
  obtain ⟨-, -, -, -, -, h1⟩ := (h.2 2 _ rfl).2
  obtain ⟨-, -, -, -, -, h2⟩ := (h.2 3 _ rfl).2
  exact Option.some.inj (h2.symm.trans h1)
theorem mo_fr_app (ws : va_W) (x : Nat × va_E) : mo_fr ws (ws ++ [x]) := fun i a e hi _ => by
  rw [List.getElem?_append_left (List.getElem?_eq_some_iff.mp hi).1]
  exact hi
theorem pl_inj {q0 n : Nat} (h : q0 < n) : ∀ i j : Nat, i < 8 → j < 8 → (if i = 0 then q0 else n + (i - 1)) = (if j = 0 then q0 else n + (j - 1)) → i = j := by
  intro i j hi hj hq
  by_cases h1 : i = 0
  · by_cases h2 : j = 0
    · omega
    · rw [if_pos h1, if_neg h2] at hq; omega
  · by_cases h2 : j = 0
    · rw [if_neg h1, if_pos h2] at hq; omega
    · rw [if_neg h1, if_neg h2] at hq; omega
theorem ap_len (ws : va_W) (q : Nat) (y : Nat × va_E) : (ws.set q y).length = ws.length := by simp
set_option maxHeartbeats 4000000 in
set_option maxRecDepth 100000 in
theorem c_X8_init (l : Launch) (D : va_G) (cI cZ cP : ClassId) (d : Nat) (hd : 1 ≤ d) {ws : va_W} {h q0 : Nat} (he : ws[q0]? = some (h, .inr (8, [.null, .int 0, .int 0, .int 0, .int 0, .int 0, .int 0]))) : Ct l D (vTy cI cZ cP) yX8_init cX8_init 1 none d 1 40 [.ref h] ws (fun v w => v = none ∧ (∃ (p0 p1 ha : Nat) (row : Nat → Option Nat) (pv : Nat → Nat), of_at cP w h p0 p1 ha row pv (fun _ => 0) (fun _ _ => 0) 0) ∧ of_fr ws w) := by
  refine ct_intro (by decide) (Nat.le_of_ble_eq_true rfl) ?_
  intro p e s m below meth c A L X hin hP hD hS hA hl
  have hl : lv_has L 1 [(0, .ref h)] := hl
  obtain ⟨hx, hb, hr, hml, hown, hts, hK, hlk, hxK⟩ := id X
  refine lv_aload_n hx hb dX8_init_0 rfl (lv_at hl 0 rfl) ?_
  refine W.objInit hx hb hown (hts _ mw_17) (hts _ mw_18) (hts _ mw_19) rfl (by rw [hml]; exact hl.1) rfl dX8_init_1 (by show _ ≤ d; omega) (by show 0 + 12 ≤ 30 * d; omega) ?_
  refine W.eq (g2 := F0 m 4 L []) rfl ?_
  refine lv_aload_n hx hb dX8_init_4 rfl (lv_at hl 0 rfl) ?_
  refine lv_bipush (v := 40) hx hb dX8_init_5 (by decide) ?_
  refine va_newq (C := "VoucherOffice$Plain") (N' := 40) hx hb hown (hts _ mw_20) hxK.1 hK hP hD hS hA (by decide) (by decide) (by decide) (Nat.le_of_ble_eq_true rfl) (Nat.le_of_ble_eq_true rfl) dX8_init_7 (fun ha cA H hK2 hP hD hS => ?_)
  have ecA := ty_eqP hK2
  subst ecA
  have he := ap_up (y := (ha, of_r cA (fun _ => none))) he
  have hw := ap_new ws (ha, of_r cA (fun _ => none))
  have hP : va_P D vwCl (ws ++ [(ha, of_r cA (fun _ => none))]) H := hP
  have hD : va_D A (ws ++ [(ha, of_r cA (fun _ => none))]) := hD
  have hfr := of_fr_app ws (ha, of_r cA (fun _ => none))
  have hnq : ws.length ≠ q0 := pl_ne hw he (fun z => by cases z)
  refine va_putF (ci := 8) (v := .ref ha) (ty := .array (.object "VoucherOffice$Plain")) (C := RX8) (T := TX8) (N := 7) hx hb hts in_X8 tyX8 tyX8_ok nmX8 hown hK hP hD hS q0 he rfl 0 (by decide) (hts _ mw_22) (fun _ h9 => h9) rfl hin rfl (by decide +kernel) rfl rfl (Nat.le_of_ble_eq_true rfl) dX8_init_10 (fun H locs hP hD hS => ?_)
  have hP : va_P D vwCl ((ws ++ [(ha, of_r cA (fun _ => none))]).set q0 (h, of_o (fun _ => 0) ha)) H := hP
  have hD : va_D A ((ws ++ [(ha, of_r cA (fun _ => none))]).set q0 (h, of_o (fun _ => 0) ha)) := hD
  have hfr := of_fr_tr hfr (of_fr_set (y := (h, of_o (fun _ => 0) ha)) he (fun z => by have z : (8 : Nat) = 9 := z; omega))
  have hO : of_at cA ((ws ++ [(ha, of_r cA (fun _ => none))]).set q0 (h, of_o (fun _ => 0) ha)) h q0 ws.length ha (fun _ => none) (fun _ => 0) (fun _ => 0) (fun _ _ => 0) 0 := ⟨st_same he, st_other hnq.symm hw, fun v _ => Or.inr ⟨fun z => absurd z.1 (by omega), rfl⟩, fun v w a _ _ z _ => by cases z⟩
  obtain ⟨sc, esc⟩ : ∃ z : Nat → Int32, z = fun _ => 0 := ⟨_, rfl⟩
  rw [← esc] at hP hD hO
  refine lv_aload_n hx hb dX8_init_13 rfl (lv_at hl 0 rfl) ?_
  refine lv_iconst (v := 0) hx hb dX8_init_14 (by decide) ?_
  refine of_p1 X hP hD hS hO.1 mw_23 dX8_init_15 (fun H locs hP hD hS => ?_)
  have ez1 : va_up sc 1 0 = sc := by rw [esc]; funext z; simp [va_up]
  rw [ez1, st_self hO.1] at hP hD
  refine lv_aload_n hx hb dX8_init_18 rfl (lv_at hl 0 rfl) ?_
  refine lv_iconst (v := 0) hx hb dX8_init_19 (by decide) ?_
  refine of_p0 X hP hD hS hO.1 mw_24 dX8_init_20 (fun H locs hP hD hS => ?_)
  have ez0 : va_up sc 0 0 = sc := by rw [esc]; funext z; simp [va_up]
  rw [ez0, st_self hO.1] at hP hD
  refine lv_aload_n hx hb dX8_init_23 rfl (lv_at hl 0 rfl) ?_
  refine lv_iconst (v := 0) hx hb dX8_init_24 (by decide) ?_
  refine of_p2 X hP hD hS hO.1 mw_25 dX8_init_25 (fun H locs hP hD hS => ?_)
  have ez2 : va_up sc 2 0 = sc := by rw [esc]; funext z; simp [va_up]
  rw [ez2, st_self hO.1] at hP hD
  refine lv_aload_n hx hb dX8_init_28 rfl (lv_at hl 0 rfl) ?_
  refine lv_iconst (v := 0) hx hb dX8_init_29 (by decide) ?_
  refine of_p3 X hP hD hS hO.1 mw_26 dX8_init_30 (fun H locs hP hD hS => ?_)
  have ez3 : va_up sc 3 0 = sc := by rw [esc]; funext z; simp [va_up]
  rw [ez3, st_self hO.1] at hP hD
  refine lv_aload_n hx hb dX8_init_33 rfl (lv_at hl 0 rfl) ?_
  refine lv_iconst (v := 0) hx hb dX8_init_34 (by decide) ?_
  refine of_p4 X hP hD hS hO.1 mw_27 dX8_init_35 (fun H locs hP hD hS => ?_)
  have ez4 : va_up sc 4 0 = sc := by rw [esc]; funext z; simp [va_up]
  rw [ez4, st_self hO.1] at hP hD
  refine lv_aload_n hx hb dX8_init_38 rfl (lv_at hl 0 rfl) ?_
  refine lv_iconst (v := 0) hx hb dX8_init_39 (by decide) ?_
  refine of_p5 X hP hD hS hO.1 mw_28 dX8_init_40 (fun H locs hP hD hS => ?_)
  have ez5 : va_up sc 5 0 = sc := by rw [esc]; funext z; simp [va_up]
  rw [ez5, st_self hO.1] at hP hD
  rw [esc] at hO hP hD
  exact e_void X hP hD hS dX8_init_43 ⟨rfl, ⟨_, _, _, _, _, hO⟩, hfr⟩
set_option maxHeartbeats 4000000 in
set_option maxRecDepth 100000 in
theorem c_X9_init (l : Launch) (D : va_G) (cI cZ cP : ClassId) (d : Nat) (hd : 1 ≤ d) {ws : va_W} {h q0 : Nat} (he : ws[q0]? = some (h, .inr (9, [.int 0, .int 0, .int 0, .int 0, .int 0, .int 0, .null, .null, .null, .null, .null, .null, .null]))) : Ct l D (vTy cI cZ cP) yX9_init cX9_init 1 none d 7 280 [.ref h] ws (fun v w => v = none ∧ (∃ (q ad : Nat → Nat), mo_at cI cZ w h q ad (fun _ => 0) (fun _ _ => 0)) ∧ mo_fr ws w) := by
  refine ct_intro (by decide) (Nat.le_of_ble_eq_true rfl) ?_
  intro p e s m below meth c A L X hin hP hD hS hA hl
  have hl : lv_has L 1 [(0, .ref h)] := hl
  obtain ⟨hx, hb, hr, hml, hown, hts, hK, hlk, hxK⟩ := id X
  refine lv_aload_n hx hb dX9_init_0 rfl (lv_at hl 0 rfl) ?_
  refine W.objInit hx hb hown (hts _ mw_448) (hts _ mw_18) (hts _ mw_19) rfl (by rw [hml]; exact hl.1) rfl dX9_init_1 (by show _ ≤ d; omega) (by show 0 + 12 ≤ 30 * d; omega) ?_
  refine W.eq (g2 := F0 m 4 L []) rfl ?_
  have hfr := mo_fr_rf ws
  have hlen : ws.length = ws.length + 0 := rfl
  have hq0 := (List.getElem?_eq_some_iff.mp he).1
  refine lv_aload_n hx hb dX9_init_4 rfl (lv_at hl 0 rfl) ?_
  refine lv_bipush (v := 40) hx hb dX9_init_5 (by decide) ?_
  refine va_newa (atype := .int) (ty := .int) (N' := 40) (a0 := (40, .inl (fun _ => 0))) hx hb (hts _ mw_489) rfl hK hP hD hS hA (fun _ => rfl) (by decide) (by decide) (by decide) (Nat.le_of_ble_eq_true rfl) (Nat.le_of_ble_eq_true rfl) dX9_init_7 (fun a0 cA H hK2 hP hD hS => ?_)
  have ecA := ty_eq hK2
  rw [ecA] at hP hD
  clear ecA hK2
  obtain ⟨w0, ew0⟩ : ∃ z, z = (ws ++ [(a0, .inl (cI, 40, .inl (fun _ => 0)))] : va_W) := ⟨_, rfl⟩
  rw [← ew0] at hP hD
  have he : w0[q0]? = some (h, .inr (9, [.int 0, .int 0, .int 0, .int 0, .int 0, .int 0, .null, .null, .null, .null, .null, .null, .null])) := by rw [ew0]; exact ap_up he
  have r0 : w0[ws.length + 0]? = some (a0, .inl (cI, 40, .inl (fun _ => 0))) := by rw [ew0, ← hlen]; exact ap_new _ _
  have hfr : mo_fr ws w0 := by rw [ew0]; exact mo_fr_tr hfr (mo_fr_app _ _)
  have hlen : w0.length = ws.length + 1 := by rw [ew0, List.length_append, hlen]; rfl
  refine va_putF (ci := 9) (v := .ref a0) (ty := .array .int) (C := RX9) (T := TX9) (N := 13) hx hb hts in_X9 tyX9 tyX9_ok nmX9 hown hK hP hD hS q0 he rfl 6 (by decide) (hts _ mw_455) (fun _ h9 => h9) rfl hin rfl (by decide +kernel) rfl rfl (Nat.le_of_ble_eq_true rfl) dX9_init_9 (fun H locs hP hD hS => ?_)
  obtain ⟨v0, ev0⟩ : ∃ z, z = w0.set q0 (h, .inr (9, [.int 0, .int 0, .int 0, .int 0, .int 0, .int 0, .ref a0, .null, .null, .null, .null, .null, .null])) := ⟨_, rfl⟩
  have hfr : mo_fr ws v0 := by rw [ev0]; exact mo_fr_tr hfr (mo_fr_set he rfl)
  have r0 : v0[ws.length + 0]? = some (a0, .inl (cI, 40, .inl (fun _ => 0))) := by rw [ev0]; exact st_other (pl_ne he r0 (fun z => by cases z)) r0
  have he : v0[q0]? = some (h, .inr (9, [.int 0, .int 0, .int 0, .int 0, .int 0, .int 0, .ref a0, .null, .null, .null, .null, .null, .null])) := by rw [ev0]; exact st_same he
  have hlen : v0.length = ws.length + 1 := by rw [ev0, List.length_set, hlen]
  have hP : va_P D vwCl v0 H := by rw [ev0]; exact hP
  have hD : va_D A v0 := by rw [ev0]; exact hD
  clear ew0 ev0
  refine lv_aload_n hx hb dX9_init_12 rfl (lv_at hl 0 rfl) ?_
  refine lv_bipush (v := 40) hx hb dX9_init_13 (by decide) ?_
  refine va_newa (atype := .int) (ty := .int) (N' := 40) (a0 := (40, .inl (fun _ => 0))) hx hb (hts _ mw_489) rfl hK hP hD hS hA (fun _ => rfl) (by decide) (by decide) (by decide) (Nat.le_of_ble_eq_true rfl) (Nat.le_of_ble_eq_true rfl) dX9_init_15 (fun a1 cA H hK2 hP hD hS => ?_)
  have ecA := ty_eq hK2
  rw [ecA] at hP hD
  clear ecA hK2
  obtain ⟨w1, ew1⟩ : ∃ z, z = (v0 ++ [(a1, .inl (cI, 40, .inl (fun _ => 0)))] : va_W) := ⟨_, rfl⟩
  rw [← ew1] at hP hD
  have he : w1[q0]? = some (h, .inr (9, [.int 0, .int 0, .int 0, .int 0, .int 0, .int 0, .ref a0, .null, .null, .null, .null, .null, .null])) := by rw [ew1]; exact ap_up he
  have r0 : w1[ws.length + 0]? = some (a0, .inl (cI, 40, .inl (fun _ => 0))) := by rw [ew1]; exact ap_up r0
  have r1 : w1[ws.length + 1]? = some (a1, .inl (cI, 40, .inl (fun _ => 0))) := by rw [ew1, ← hlen]; exact ap_new _ _
  have hfr : mo_fr ws w1 := by rw [ew1]; exact mo_fr_tr hfr (mo_fr_app _ _)
  have hlen : w1.length = ws.length + 2 := by rw [ew1, List.length_append, hlen]; rfl
  refine va_putF (ci := 9) (v := .ref a1) (ty := .array .int) (C := RX9) (T := TX9) (N := 13) hx hb hts in_X9 tyX9 tyX9_ok nmX9 hown hK hP hD hS q0 he rfl 7 (by decide) (hts _ mw_456) (fun _ h9 => h9) rfl hin rfl (by decide +kernel) rfl rfl (Nat.le_of_ble_eq_true rfl) dX9_init_17 (fun H locs hP hD hS => ?_)
  obtain ⟨v1, ev1⟩ : ∃ z, z = w1.set q0 (h, .inr (9, [.int 0, .int 0, .int 0, .int 0, .int 0, .int 0, .ref a0, .ref a1, .null, .null, .null, .null, .null])) := ⟨_, rfl⟩
  have hfr : mo_fr ws v1 := by rw [ev1]; exact mo_fr_tr hfr (mo_fr_set he rfl)
  have r0 : v1[ws.length + 0]? = some (a0, .inl (cI, 40, .inl (fun _ => 0))) := by rw [ev1]; exact st_other (pl_ne he r0 (fun z => by cases z)) r0
  have r1 : v1[ws.length + 1]? = some (a1, .inl (cI, 40, .inl (fun _ => 0))) := by rw [ev1]; exact st_other (pl_ne he r1 (fun z => by cases z)) r1
  have he : v1[q0]? = some (h, .inr (9, [.int 0, .int 0, .int 0, .int 0, .int 0, .int 0, .ref a0, .ref a1, .null, .null, .null, .null, .null])) := by rw [ev1]; exact st_same he
  have hlen : v1.length = ws.length + 2 := by rw [ev1, List.length_set, hlen]
  have hP : va_P D vwCl v1 H := by rw [ev1]; exact hP
  have hD : va_D A v1 := by rw [ev1]; exact hD
  clear ew1 ev1
  refine lv_aload_n hx hb dX9_init_20 rfl (lv_at hl 0 rfl) ?_
  refine lv_bipush (v := 40) hx hb dX9_init_21 (by decide) ?_
  refine va_newa (atype := .int) (ty := .int) (N' := 40) (a0 := (40, .inl (fun _ => 0))) hx hb (hts _ mw_489) rfl hK hP hD hS hA (fun _ => rfl) (by decide) (by decide) (by decide) (Nat.le_of_ble_eq_true rfl) (Nat.le_of_ble_eq_true rfl) dX9_init_23 (fun a2 cA H hK2 hP hD hS => ?_)
  have ecA := ty_eq hK2
  rw [ecA] at hP hD
  clear ecA hK2
  obtain ⟨w2, ew2⟩ : ∃ z, z = (v1 ++ [(a2, .inl (cI, 40, .inl (fun _ => 0)))] : va_W) := ⟨_, rfl⟩
  rw [← ew2] at hP hD
  have he : w2[q0]? = some (h, .inr (9, [.int 0, .int 0, .int 0, .int 0, .int 0, .int 0, .ref a0, .ref a1, .null, .null, .null, .null, .null])) := by rw [ew2]; exact ap_up he
  have r0 : w2[ws.length + 0]? = some (a0, .inl (cI, 40, .inl (fun _ => 0))) := by rw [ew2]; exact ap_up r0
  have r1 : w2[ws.length + 1]? = some (a1, .inl (cI, 40, .inl (fun _ => 0))) := by rw [ew2]; exact ap_up r1
  have r2 : w2[ws.length + 2]? = some (a2, .inl (cI, 40, .inl (fun _ => 0))) := by rw [ew2, ← hlen]; exact ap_new _ _
  have hfr : mo_fr ws w2 := by rw [ew2]; exact mo_fr_tr hfr (mo_fr_app _ _)
  have hlen : w2.length = ws.length + 3 := by rw [ew2, List.length_append, hlen]; rfl
  refine va_putF (ci := 9) (v := .ref a2) (ty := .array .int) (C := RX9) (T := TX9) (N := 13) hx hb hts in_X9 tyX9 tyX9_ok nmX9 hown hK hP hD hS q0 he rfl 8 (by decide) (hts _ mw_457) (fun _ h9 => h9) rfl hin rfl (by decide +kernel) rfl rfl (Nat.le_of_ble_eq_true rfl) dX9_init_25 (fun H locs hP hD hS => ?_)
  obtain ⟨v2, ev2⟩ : ∃ z, z = w2.set q0 (h, .inr (9, [.int 0, .int 0, .int 0, .int 0, .int 0, .int 0, .ref a0, .ref a1, .ref a2, .null, .null, .null, .null])) := ⟨_, rfl⟩
  have hfr : mo_fr ws v2 := by rw [ev2]; exact mo_fr_tr hfr (mo_fr_set he rfl)
  have r0 : v2[ws.length + 0]? = some (a0, .inl (cI, 40, .inl (fun _ => 0))) := by rw [ev2]; exact st_other (pl_ne he r0 (fun z => by cases z)) r0
  have r1 : v2[ws.length + 1]? = some (a1, .inl (cI, 40, .inl (fun _ => 0))) := by rw [ev2]; exact st_other (pl_ne he r1 (fun z => by cases z)) r1
  have r2 : v2[ws.length + 2]? = some (a2, .inl (cI, 40, .inl (fun _ => 0))) := by rw [ev2]; exact st_other (pl_ne he r2 (fun z => by cases z)) r2
  have he : v2[q0]? = some (h, .inr (9, [.int 0, .int 0, .int 0, .int 0, .int 0, .int 0, .ref a0, .ref a1, .ref a2, .null, .null, .null, .null])) := by rw [ev2]; exact st_same he
  have hlen : v2.length = ws.length + 3 := by rw [ev2, List.length_set, hlen]
  have hP : va_P D vwCl v2 H := by rw [ev2]; exact hP
  have hD : va_D A v2 := by rw [ev2]; exact hD
  clear ew2 ev2
  refine lv_aload_n hx hb dX9_init_28 rfl (lv_at hl 0 rfl) ?_
  refine lv_bipush (v := 40) hx hb dX9_init_29 (by decide) ?_
  refine va_newa (atype := .int) (ty := .int) (N' := 40) (a0 := (40, .inl (fun _ => 0))) hx hb (hts _ mw_489) rfl hK hP hD hS hA (fun _ => rfl) (by decide) (by decide) (by decide) (Nat.le_of_ble_eq_true rfl) (Nat.le_of_ble_eq_true rfl) dX9_init_31 (fun a3 cA H hK2 hP hD hS => ?_)
  have ecA := ty_eq hK2
  rw [ecA] at hP hD
  clear ecA hK2
  obtain ⟨w3, ew3⟩ : ∃ z, z = (v2 ++ [(a3, .inl (cI, 40, .inl (fun _ => 0)))] : va_W) := ⟨_, rfl⟩
  rw [← ew3] at hP hD
  have he : w3[q0]? = some (h, .inr (9, [.int 0, .int 0, .int 0, .int 0, .int 0, .int 0, .ref a0, .ref a1, .ref a2, .null, .null, .null, .null])) := by rw [ew3]; exact ap_up he
  have r0 : w3[ws.length + 0]? = some (a0, .inl (cI, 40, .inl (fun _ => 0))) := by rw [ew3]; exact ap_up r0
  have r1 : w3[ws.length + 1]? = some (a1, .inl (cI, 40, .inl (fun _ => 0))) := by rw [ew3]; exact ap_up r1
  have r2 : w3[ws.length + 2]? = some (a2, .inl (cI, 40, .inl (fun _ => 0))) := by rw [ew3]; exact ap_up r2
  have r3 : w3[ws.length + 3]? = some (a3, .inl (cI, 40, .inl (fun _ => 0))) := by rw [ew3, ← hlen]; exact ap_new _ _
  have hfr : mo_fr ws w3 := by rw [ew3]; exact mo_fr_tr hfr (mo_fr_app _ _)
  have hlen : w3.length = ws.length + 4 := by rw [ew3, List.length_append, hlen]; rfl
  refine va_putF (ci := 9) (v := .ref a3) (ty := .array .int) (C := RX9) (T := TX9) (N := 13) hx hb hts in_X9 tyX9 tyX9_ok nmX9 hown hK hP hD hS q0 he rfl 9 (by decide) (hts _ mw_458) (fun _ h9 => h9) rfl hin rfl (by decide +kernel) rfl rfl (Nat.le_of_ble_eq_true rfl) dX9_init_33 (fun H locs hP hD hS => ?_)
  obtain ⟨v3, ev3⟩ : ∃ z, z = w3.set q0 (h, .inr (9, [.int 0, .int 0, .int 0, .int 0, .int 0, .int 0, .ref a0, .ref a1, .ref a2, .ref a3, .null, .null, .null])) := ⟨_, rfl⟩
  have hfr : mo_fr ws v3 := by rw [ev3]; exact mo_fr_tr hfr (mo_fr_set he rfl)
  have r0 : v3[ws.length + 0]? = some (a0, .inl (cI, 40, .inl (fun _ => 0))) := by rw [ev3]; exact st_other (pl_ne he r0 (fun z => by cases z)) r0
  have r1 : v3[ws.length + 1]? = some (a1, .inl (cI, 40, .inl (fun _ => 0))) := by rw [ev3]; exact st_other (pl_ne he r1 (fun z => by cases z)) r1
  have r2 : v3[ws.length + 2]? = some (a2, .inl (cI, 40, .inl (fun _ => 0))) := by rw [ev3]; exact st_other (pl_ne he r2 (fun z => by cases z)) r2
  have r3 : v3[ws.length + 3]? = some (a3, .inl (cI, 40, .inl (fun _ => 0))) := by rw [ev3]; exact st_other (pl_ne he r3 (fun z => by cases z)) r3
  have he : v3[q0]? = some (h, .inr (9, [.int 0, .int 0, .int 0, .int 0, .int 0, .int 0, .ref a0, .ref a1, .ref a2, .ref a3, .null, .null, .null])) := by rw [ev3]; exact st_same he
  have hlen : v3.length = ws.length + 4 := by rw [ev3, List.length_set, hlen]
  have hP : va_P D vwCl v3 H := by rw [ev3]; exact hP
  have hD : va_D A v3 := by rw [ev3]; exact hD
  clear ew3 ev3
  refine lv_aload_n hx hb dX9_init_36 rfl (lv_at hl 0 rfl) ?_
  refine lv_bipush (v := 40) hx hb dX9_init_37 (by decide) ?_
  refine va_newa (atype := .int) (ty := .int) (N' := 40) (a0 := (40, .inl (fun _ => 0))) hx hb (hts _ mw_489) rfl hK hP hD hS hA (fun _ => rfl) (by decide) (by decide) (by decide) (Nat.le_of_ble_eq_true rfl) (Nat.le_of_ble_eq_true rfl) dX9_init_39 (fun a4 cA H hK2 hP hD hS => ?_)
  have ecA := ty_eq hK2
  rw [ecA] at hP hD
  clear ecA hK2
  obtain ⟨w4, ew4⟩ : ∃ z, z = (v3 ++ [(a4, .inl (cI, 40, .inl (fun _ => 0)))] : va_W) := ⟨_, rfl⟩
  rw [← ew4] at hP hD
  have he : w4[q0]? = some (h, .inr (9, [.int 0, .int 0, .int 0, .int 0, .int 0, .int 0, .ref a0, .ref a1, .ref a2, .ref a3, .null, .null, .null])) := by rw [ew4]; exact ap_up he
  have r0 : w4[ws.length + 0]? = some (a0, .inl (cI, 40, .inl (fun _ => 0))) := by rw [ew4]; exact ap_up r0
  have r1 : w4[ws.length + 1]? = some (a1, .inl (cI, 40, .inl (fun _ => 0))) := by rw [ew4]; exact ap_up r1
  have r2 : w4[ws.length + 2]? = some (a2, .inl (cI, 40, .inl (fun _ => 0))) := by rw [ew4]; exact ap_up r2
  have r3 : w4[ws.length + 3]? = some (a3, .inl (cI, 40, .inl (fun _ => 0))) := by rw [ew4]; exact ap_up r3
  have r4 : w4[ws.length + 4]? = some (a4, .inl (cI, 40, .inl (fun _ => 0))) := by rw [ew4, ← hlen]; exact ap_new _ _
  have hfr : mo_fr ws w4 := by rw [ew4]; exact mo_fr_tr hfr (mo_fr_app _ _)
  have hlen : w4.length = ws.length + 5 := by rw [ew4, List.length_append, hlen]; rfl
  refine va_putF (ci := 9) (v := .ref a4) (ty := .array .int) (C := RX9) (T := TX9) (N := 13) hx hb hts in_X9 tyX9 tyX9_ok nmX9 hown hK hP hD hS q0 he rfl 10 (by decide) (hts _ mw_459) (fun _ h9 => h9) rfl hin rfl (by decide +kernel) rfl rfl (Nat.le_of_ble_eq_true rfl) dX9_init_41 (fun H locs hP hD hS => ?_)
  obtain ⟨v4, ev4⟩ : ∃ z, z = w4.set q0 (h, .inr (9, [.int 0, .int 0, .int 0, .int 0, .int 0, .int 0, .ref a0, .ref a1, .ref a2, .ref a3, .ref a4, .null, .null])) := ⟨_, rfl⟩
  have hfr : mo_fr ws v4 := by rw [ev4]; exact mo_fr_tr hfr (mo_fr_set he rfl)
  have r0 : v4[ws.length + 0]? = some (a0, .inl (cI, 40, .inl (fun _ => 0))) := by rw [ev4]; exact st_other (pl_ne he r0 (fun z => by cases z)) r0
  have r1 : v4[ws.length + 1]? = some (a1, .inl (cI, 40, .inl (fun _ => 0))) := by rw [ev4]; exact st_other (pl_ne he r1 (fun z => by cases z)) r1
  have r2 : v4[ws.length + 2]? = some (a2, .inl (cI, 40, .inl (fun _ => 0))) := by rw [ev4]; exact st_other (pl_ne he r2 (fun z => by cases z)) r2
  have r3 : v4[ws.length + 3]? = some (a3, .inl (cI, 40, .inl (fun _ => 0))) := by rw [ev4]; exact st_other (pl_ne he r3 (fun z => by cases z)) r3
  have r4 : v4[ws.length + 4]? = some (a4, .inl (cI, 40, .inl (fun _ => 0))) := by rw [ev4]; exact st_other (pl_ne he r4 (fun z => by cases z)) r4
  have he : v4[q0]? = some (h, .inr (9, [.int 0, .int 0, .int 0, .int 0, .int 0, .int 0, .ref a0, .ref a1, .ref a2, .ref a3, .ref a4, .null, .null])) := by rw [ev4]; exact st_same he
  have hlen : v4.length = ws.length + 5 := by rw [ev4, List.length_set, hlen]
  have hP : va_P D vwCl v4 H := by rw [ev4]; exact hP
  have hD : va_D A v4 := by rw [ev4]; exact hD
  clear ew4 ev4
  refine lv_aload_n hx hb dX9_init_44 rfl (lv_at hl 0 rfl) ?_
  refine lv_bipush (v := 40) hx hb dX9_init_45 (by decide) ?_
  refine va_newa (atype := .int) (ty := .int) (N' := 40) (a0 := (40, .inl (fun _ => 0))) hx hb (hts _ mw_489) rfl hK hP hD hS hA (fun _ => rfl) (by decide) (by decide) (by decide) (Nat.le_of_ble_eq_true rfl) (Nat.le_of_ble_eq_true rfl) dX9_init_47 (fun a5 cA H hK2 hP hD hS => ?_)
  have ecA := ty_eq hK2
  rw [ecA] at hP hD
  clear ecA hK2
  obtain ⟨w5, ew5⟩ : ∃ z, z = (v4 ++ [(a5, .inl (cI, 40, .inl (fun _ => 0)))] : va_W) := ⟨_, rfl⟩
  rw [← ew5] at hP hD
  have he : w5[q0]? = some (h, .inr (9, [.int 0, .int 0, .int 0, .int 0, .int 0, .int 0, .ref a0, .ref a1, .ref a2, .ref a3, .ref a4, .null, .null])) := by rw [ew5]; exact ap_up he
  have r0 : w5[ws.length + 0]? = some (a0, .inl (cI, 40, .inl (fun _ => 0))) := by rw [ew5]; exact ap_up r0
  have r1 : w5[ws.length + 1]? = some (a1, .inl (cI, 40, .inl (fun _ => 0))) := by rw [ew5]; exact ap_up r1
  have r2 : w5[ws.length + 2]? = some (a2, .inl (cI, 40, .inl (fun _ => 0))) := by rw [ew5]; exact ap_up r2
  have r3 : w5[ws.length + 3]? = some (a3, .inl (cI, 40, .inl (fun _ => 0))) := by rw [ew5]; exact ap_up r3
  have r4 : w5[ws.length + 4]? = some (a4, .inl (cI, 40, .inl (fun _ => 0))) := by rw [ew5]; exact ap_up r4
  have r5 : w5[ws.length + 5]? = some (a5, .inl (cI, 40, .inl (fun _ => 0))) := by rw [ew5, ← hlen]; exact ap_new _ _
  have hfr : mo_fr ws w5 := by rw [ew5]; exact mo_fr_tr hfr (mo_fr_app _ _)
  have hlen : w5.length = ws.length + 6 := by rw [ew5, List.length_append, hlen]; rfl
  refine va_putF (ci := 9) (v := .ref a5) (ty := .array .int) (C := RX9) (T := TX9) (N := 13) hx hb hts in_X9 tyX9 tyX9_ok nmX9 hown hK hP hD hS q0 he rfl 11 (by decide) (hts _ mw_460) (fun _ h9 => h9) rfl hin rfl (by decide +kernel) rfl rfl (Nat.le_of_ble_eq_true rfl) dX9_init_49 (fun H locs hP hD hS => ?_)
  obtain ⟨v5, ev5⟩ : ∃ z, z = w5.set q0 (h, .inr (9, [.int 0, .int 0, .int 0, .int 0, .int 0, .int 0, .ref a0, .ref a1, .ref a2, .ref a3, .ref a4, .ref a5, .null])) := ⟨_, rfl⟩
  have hfr : mo_fr ws v5 := by rw [ev5]; exact mo_fr_tr hfr (mo_fr_set he rfl)
  have r0 : v5[ws.length + 0]? = some (a0, .inl (cI, 40, .inl (fun _ => 0))) := by rw [ev5]; exact st_other (pl_ne he r0 (fun z => by cases z)) r0
  have r1 : v5[ws.length + 1]? = some (a1, .inl (cI, 40, .inl (fun _ => 0))) := by rw [ev5]; exact st_other (pl_ne he r1 (fun z => by cases z)) r1
  have r2 : v5[ws.length + 2]? = some (a2, .inl (cI, 40, .inl (fun _ => 0))) := by rw [ev5]; exact st_other (pl_ne he r2 (fun z => by cases z)) r2
  have r3 : v5[ws.length + 3]? = some (a3, .inl (cI, 40, .inl (fun _ => 0))) := by rw [ev5]; exact st_other (pl_ne he r3 (fun z => by cases z)) r3
  have r4 : v5[ws.length + 4]? = some (a4, .inl (cI, 40, .inl (fun _ => 0))) := by rw [ev5]; exact st_other (pl_ne he r4 (fun z => by cases z)) r4
  have r5 : v5[ws.length + 5]? = some (a5, .inl (cI, 40, .inl (fun _ => 0))) := by rw [ev5]; exact st_other (pl_ne he r5 (fun z => by cases z)) r5
  have he : v5[q0]? = some (h, .inr (9, [.int 0, .int 0, .int 0, .int 0, .int 0, .int 0, .ref a0, .ref a1, .ref a2, .ref a3, .ref a4, .ref a5, .null])) := by rw [ev5]; exact st_same he
  have hlen : v5.length = ws.length + 6 := by rw [ev5, List.length_set, hlen]
  have hP : va_P D vwCl v5 H := by rw [ev5]; exact hP
  have hD : va_D A v5 := by rw [ev5]; exact hD
  clear ew5 ev5
  refine lv_aload_n hx hb dX9_init_52 rfl (lv_at hl 0 rfl) ?_
  refine lv_bipush (v := 40) hx hb dX9_init_53 (by decide) ?_
  refine va_newa (atype := .boolean) (ty := .boolean) (N' := 40) (a0 := (40, .inl (fun _ => 0))) hx hb (hts _ mw_490) rfl hK hP hD hS hA (fun _ => rfl) (by decide) (by decide) (by decide) (Nat.le_of_ble_eq_true rfl) (Nat.le_of_ble_eq_true rfl) dX9_init_55 (fun a6 cA H hK2 hP hD hS => ?_)
  have ecA := ty_eqZ hK2
  rw [ecA] at hP hD
  clear ecA hK2
  obtain ⟨w6, ew6⟩ : ∃ z, z = (v5 ++ [(a6, .inl (cZ, 40, .inl (fun _ => 0)))] : va_W) := ⟨_, rfl⟩
  rw [← ew6] at hP hD
  have he : w6[q0]? = some (h, .inr (9, [.int 0, .int 0, .int 0, .int 0, .int 0, .int 0, .ref a0, .ref a1, .ref a2, .ref a3, .ref a4, .ref a5, .null])) := by rw [ew6]; exact ap_up he
  have r0 : w6[ws.length + 0]? = some (a0, .inl (cI, 40, .inl (fun _ => 0))) := by rw [ew6]; exact ap_up r0
  have r1 : w6[ws.length + 1]? = some (a1, .inl (cI, 40, .inl (fun _ => 0))) := by rw [ew6]; exact ap_up r1
  have r2 : w6[ws.length + 2]? = some (a2, .inl (cI, 40, .inl (fun _ => 0))) := by rw [ew6]; exact ap_up r2
  have r3 : w6[ws.length + 3]? = some (a3, .inl (cI, 40, .inl (fun _ => 0))) := by rw [ew6]; exact ap_up r3
  have r4 : w6[ws.length + 4]? = some (a4, .inl (cI, 40, .inl (fun _ => 0))) := by rw [ew6]; exact ap_up r4
  have r5 : w6[ws.length + 5]? = some (a5, .inl (cI, 40, .inl (fun _ => 0))) := by rw [ew6]; exact ap_up r5
  have r6 : w6[ws.length + 6]? = some (a6, .inl (cZ, 40, .inl (fun _ => 0))) := by rw [ew6, ← hlen]; exact ap_new _ _
  have hfr : mo_fr ws w6 := by rw [ew6]; exact mo_fr_tr hfr (mo_fr_app _ _)
  have hlen : w6.length = ws.length + 7 := by rw [ew6, List.length_append, hlen]; rfl
  refine va_putF (ci := 9) (v := .ref a6) (ty := .array .boolean) (C := RX9) (T := TX9) (N := 13) hx hb hts in_X9 tyX9 tyX9_ok nmX9 hown hK hP hD hS q0 he rfl 12 (by decide) (hts _ mw_461) (fun _ h9 => h9) rfl hin rfl (by decide +kernel) rfl rfl (Nat.le_of_ble_eq_true rfl) dX9_init_57 (fun H locs hP hD hS => ?_)
  obtain ⟨v6, ev6⟩ : ∃ z, z = w6.set q0 (h, .inr (9, [.int 0, .int 0, .int 0, .int 0, .int 0, .int 0, .ref a0, .ref a1, .ref a2, .ref a3, .ref a4, .ref a5, .ref a6])) := ⟨_, rfl⟩
  have hfr : mo_fr ws v6 := by rw [ev6]; exact mo_fr_tr hfr (mo_fr_set he rfl)
  have r0 : v6[ws.length + 0]? = some (a0, .inl (cI, 40, .inl (fun _ => 0))) := by rw [ev6]; exact st_other (pl_ne he r0 (fun z => by cases z)) r0
  have r1 : v6[ws.length + 1]? = some (a1, .inl (cI, 40, .inl (fun _ => 0))) := by rw [ev6]; exact st_other (pl_ne he r1 (fun z => by cases z)) r1
  have r2 : v6[ws.length + 2]? = some (a2, .inl (cI, 40, .inl (fun _ => 0))) := by rw [ev6]; exact st_other (pl_ne he r2 (fun z => by cases z)) r2
  have r3 : v6[ws.length + 3]? = some (a3, .inl (cI, 40, .inl (fun _ => 0))) := by rw [ev6]; exact st_other (pl_ne he r3 (fun z => by cases z)) r3
  have r4 : v6[ws.length + 4]? = some (a4, .inl (cI, 40, .inl (fun _ => 0))) := by rw [ev6]; exact st_other (pl_ne he r4 (fun z => by cases z)) r4
  have r5 : v6[ws.length + 5]? = some (a5, .inl (cI, 40, .inl (fun _ => 0))) := by rw [ev6]; exact st_other (pl_ne he r5 (fun z => by cases z)) r5
  have r6 : v6[ws.length + 6]? = some (a6, .inl (cZ, 40, .inl (fun _ => 0))) := by rw [ev6]; exact st_other (pl_ne he r6 (fun z => by cases z)) r6
  have he : v6[q0]? = some (h, .inr (9, [.int 0, .int 0, .int 0, .int 0, .int 0, .int 0, .ref a0, .ref a1, .ref a2, .ref a3, .ref a4, .ref a5, .ref a6])) := by rw [ev6]; exact st_same he
  have hlen : v6.length = ws.length + 7 := by rw [ev6, List.length_set, hlen]
  have hP : va_P D vwCl v6 H := by rw [ev6]; exact hP
  have hD : va_D A v6 := by rw [ev6]; exact hD
  clear ew6 ev6
  exact e_void X hP hD hS dX9_init_60 ⟨rfl, ⟨fun i => if i = 0 then q0 else ws.length + (i - 1), fun i => if i = 0 then a0 else if i = 1 then a1 else if i = 2 then a2 else if i = 3 then a3 else if i = 4 then a4 else if i = 5 then a5 else a6, he, r0, r1, r2, r3, r4, r5, r6, pl_inj hq0⟩, hfr⟩
end
section
/-! THE CLAIM OUT OF ONE WALK OF THE LAW'S BODY. Your part is whole_start (and what it stands on); all else here is the same for every law, but numbers. -/
def R_law : String := "VoucherOfficeLaw"
def lw_P (b : Addr) (xs : List Int32) (args : Array Value) (s : State) : Prop := args = #[.ref b] ∧ s.IntsAt b xs ∧ xs.length ≤ 1536 ∧ (Jvm.Cond.and given_1 narrow_1).before args s = true
def lw_Q (_ : Array Value) (s : State) (o : Outcome) (t : State) : Prop := o = .returned (some (.int 1)) ∧ Framed s o t [] 667234 7100547
def lw_Z (below : List Frame) (a : Array Value) (s : State) : State → Prop := fun t => ∃ o, t.status = .running ∧ Ended t below o ∧ lw_Q a s o t
/-- the law's own end, with 1 on the stack, nothing written that was there before, its room as the claim has it -/
theorem lw_ret {p : Program} {l : Launch} {e : Env} {s : State} {m : MethodId} {below : List Frame} {meth : Method} {c : Code} {b : Nat} (hx : p.tables.exec = Jvm.exec) (hb : c.code = code) (hr : meth.sig.returnType = ret) (hlocks : meth.locks = false) {pc : Nat} {H : Heap} {ls : Array Slot} (hdg : decode code pc = .ok (.ireturn, 1)) : W p l e room_1 s m #[Value.ref b] below meth c H [] 667234 7100547 (lw_Z below #[Value.ref b] s) (F0 m pc ls [.int 1]) := by
  intro T hT X
  obtain ⟨fs, hret, hrun, hended, hW, hframe⟩ := X.leave (v := some (.int 1)) (hlocks := hlocks) (fun h => by rw [hr] at h; cases h)
  have hmeth' : T.vm.method? m = some meth := X.method'
  refine ⟨T.setFrames fs, ?_, .returned (some (.int 1)), hrun, hended, rfl, ⟨_, rfl⟩, hW, hframe⟩
  jvm_step X.here [X.here.top, hx, hb, hdg, hmeth', hr, ret, narrow_b1]
  (try refine ⟨rfl, ?_⟩); (try refine ⟨rfl, ?_⟩)
  first | (intro acts; rw [hret _ acts rfl rfl rfl]) | rw [hret _ _ rfl rfl rfl]
  exact Steps.refl _
/-- what holds at the law's entry: the machine, the code, the tables' words (any of lw_tbl by 'hts w (by decide +kernel)'), the script of L ints xs at the cell b, what the Statement gives of the start (any of its parts by flat_of_before) -/
def lw_At (p : Program) (s : State) (m : MethodId) (meth : Method) (c : Code) (b L : Nat) (xs : Nat → Int32) : Prop :=
  p.tables.exec = Jvm.exec ∧ c.code = code ∧ meth.sig.returnType = ret ∧ c.maxLocals = 4 ∧ s.vm.findClass R_law = some m.cls ∧ (∀ w ∈ lw_tbl, w.before #[Value.ref b] s = true) ∧ va_X b L xs s s.heap ∧ b < s.heap.size ∧ meth.locks = false ∧ (Jvm.Cond.and given_1 narrow_1).before #[Value.ref b] s = true
theorem pwL_13 : PW RL 13 "VoucherOffice" yX8_issue cX8_issue 4 (some .int) 2 := ⟨mw_44, mw_45, mw_46, mw_1, mw_47, by decide +kernel⟩
theorem pwL_17 : PW RL 17 "VoucherOfficeModel" yX9_issue cX9_issue 4 (some .int) 2 := ⟨mw_491, mw_492, mw_493, mw_2, mw_494, by decide +kernel⟩
theorem pwL_18 : PW RL 18 "VoucherOffice" yX8_pass cX8_pass 2 (some .int) 1 := ⟨mw_169, mw_170, mw_171, mw_1, mw_172, by decide +kernel⟩
theorem pwL_22 : PW RL 22 "VoucherOfficeModel" yX9_pass cX9_pass 2 (some .int) 1 := ⟨mw_499, mw_500, mw_501, mw_2, mw_502, by decide +kernel⟩
theorem pwL_23 : PW RL 23 "VoucherOffice" yX8_value cX8_value 4 (some .int) 2 := ⟨mw_173, mw_174, mw_175, mw_1, mw_176, by decide +kernel⟩
theorem pwL_26 : PW RL 26 "VoucherOfficeModel" yX9_value cX9_value 3 (some .int) 2 := ⟨mw_503, mw_504, mw_505, mw_2, mw_506, by decide +kernel⟩
theorem pwL_27 : PW RL 27 "VoucherOffice" yX8_fee cX8_fee 4 (some .int) 2 := ⟨mw_220, mw_221, mw_222, mw_1, mw_223, by decide +kernel⟩
theorem pwL_30 : PW RL 30 "VoucherOfficeModel" yX9_fee cX9_fee 3 (some .int) 2 := ⟨mw_527, mw_528, mw_529, mw_2, mw_530, by decide +kernel⟩
theorem pwL_31 : PW RL 31 "VoucherOffice" yX8_spend cX8_spend 6 (some .int) 2 := ⟨mw_248, mw_249, mw_250, mw_1, mw_251, by decide +kernel⟩
theorem pwL_34 : PW RL 34 "VoucherOfficeModel" yX9_spend cX9_spend 4 (some .int) 2 := ⟨mw_535, mw_536, mw_537, mw_2, mw_538, by decide +kernel⟩
theorem pwL_35 : PW RL 35 "VoucherOffice" yX8_seal cX8_seal 3 (some .int) 1 := ⟨mw_275, mw_276, mw_277, mw_1, mw_278, by decide +kernel⟩
theorem pwL_38 : PW RL 38 "VoucherOfficeModel" yX9_seal cX9_seal 2 (some .int) 1 := ⟨mw_539, mw_540, mw_541, mw_2, mw_542, by decide +kernel⟩
theorem pwL_39 : PW RL 39 "VoucherOffice" yX8_mark cX8_mark 4 (some .int) 2 := ⟨mw_300, mw_301, mw_302, mw_1, mw_303, by decide +kernel⟩
theorem pwL_42 : PW RL 42 "VoucherOfficeModel" yX9_mark cX9_mark 3 (some .int) 2 := ⟨mw_547, mw_548, mw_549, mw_2, mw_550, by decide +kernel⟩
theorem pwL_43 : PW RL 43 "VoucherOffice" yX8_daysLeft cX8_daysLeft 4 (some .int) 2 := ⟨mw_323, mw_324, mw_325, mw_1, mw_326, by decide +kernel⟩
theorem pwL_46 : PW RL 46 "VoucherOfficeModel" yX9_daysLeft cX9_daysLeft 4 (some .int) 2 := ⟨mw_551, mw_552, mw_553, mw_2, mw_554, by decide +kernel⟩
theorem pwL_47 : PW RL 47 "VoucherOffice" yX8_lapse cX8_lapse 4 (some .int) 0 := ⟨mw_342, mw_343, mw_344, mw_1, mw_345, by decide +kernel⟩
theorem pwL_51 : PW RL 51 "VoucherOfficeModel" yX9_lapse cX9_lapse 3 (some .int) 0 := ⟨mw_555, mw_556, mw_557, mw_2, mw_558, by decide +kernel⟩
theorem pwL_52 : PW RL 52 "VoucherOffice" yX8_merge cX8_merge 5 (some .int) 2 := ⟨mw_360, mw_361, mw_362, mw_1, mw_363, by decide +kernel⟩
theorem pwL_55 : PW RL 55 "VoucherOfficeModel" yX9_merge cX9_merge 3 (some .int) 2 := ⟨mw_559, mw_560, mw_561, mw_2, mw_562, by decide +kernel⟩
theorem pwL_56 : PW RL 56 "VoucherOffice" yX8_total cX8_total 5 (some .int) 1 := ⟨mw_414, mw_415, mw_416, mw_1, mw_417, by decide +kernel⟩
theorem pwL_59 : PW RL 59 "VoucherOfficeModel" yX9_total cX9_total 4 (some .int) 1 := ⟨mw_563, mw_564, mw_565, mw_2, mw_566, by decide +kernel⟩
theorem pwL_60 : PW RL 60 "VoucherOffice" yX8_paper cX8_paper 4 (some .int) 2 := ⟨mw_418, mw_419, mw_420, mw_1, mw_421, by decide +kernel⟩
theorem pwL_63 : PW RL 63 "VoucherOfficeModel" yX9_paper cX9_paper 3 (some .int) 2 := ⟨mw_567, mw_568, mw_569, mw_2, mw_570, by decide +kernel⟩
theorem pwL_64 : PW RL 64 "VoucherOffice" yX8_count cX8_count 2 (some .int) 1 := ⟨mw_435, mw_436, mw_437, mw_1, mw_438, by decide +kernel⟩
theorem pwL_67 : PW RL 67 "VoucherOfficeModel" yX9_count cX9_count 2 (some .int) 1 := ⟨mw_571, mw_572, mw_573, mw_2, mw_574, by decide +kernel⟩
theorem mo_at_fr {cI cZ : ClassId} {ws w : va_W} {h : Nat} {q ad : Nat → Nat} {sc : Nat → Int32} {ar : Nat → Nat → Int32} (hm : mo_at cI cZ ws h q ad sc ar) (hf : of_fr ws w) : mo_at cI cZ w h q ad sc ar := by
  obtain ⟨h0, h1, h2, h3, h4, h5, h6, h7, hq⟩ := hm
  exact ⟨hf _ _ _ h0 rfl, hf _ _ _ h1 trivial, hf _ _ _ h2 trivial, hf _ _ _ h3 trivial, hf _ _ _ h4 trivial, hf _ _ _ h5 trivial, hf _ _ _ h6 trivial, hf _ _ _ h7 trivial, hq⟩
theorem of_at_fr {cP : ClassId} {ws w : va_W} {h p0 p1 ha n : Nat} {row : Nat → Option Nat} {pv : Nat → Nat} {sc : Nat → Int32} {ar : Nat → Nat → Int32} (hO : of_at cP ws h p0 p1 ha row pv sc ar n) (hf : mo_fr ws w) : of_at cP w h p0 p1 ha row pv sc ar n := by
  obtain ⟨h0, h1, h2, h3⟩ := hO
  refine ⟨hf _ _ _ h0 oo_nM, hf _ _ _ h1 rr_nM, fun v hv => ?_, h3⟩
  rcases h2 v hv with ⟨g1, a, g2, g3⟩ | g
  · exact Or.inl ⟨g1, a, g2, hf _ _ _ g3 (vo_nM _ _ _ _ _ _ _)⟩
  · exact Or.inr g
/-- both sides stand in the world, at one state -/
def lwI (cI cZ cP : ClassId) (D : va_G) (s : State) (h0 h1 : Nat) (ws : va_W) (H : Heap) (locs : List Loc) : Prop :=
  va_P D vwCl ws H ∧ va_D (fun q => s.heap.size ≤ q) ws ∧ va_S (fun q => s.heap.size ≤ q) s.heap H locs ∧ ∃ (p0 p1 ha : Nat) (row : Nat → Option Nat) (pv q ad : Nat → Nat) (sc : Nat → Int32) (ar : Nat → Nat → Int32) (n : Nat), of_at cP ws h0 p0 p1 ha row pv sc ar n ∧ mo_at cI cZ ws h1 q ad sc ar ∧ mInv sc ar n
theorem n_one {x : Int32} {a b : Nat} (ha : x = nI a) (hb : x = nI b) (h1 : a ≤ 40) (h2 : b ≤ 40) : a = b := (nI_eq (by omega) (by omega)).mp (ha.symm.trans hb)
section LC
variable {p : Program} {l : Launch} {e : Env} {s : State} {m : MethodId} {below : List Frame} {meth : Method} {c : Code} {b Ls : Nat} {xs : Nat → Int32} {D : va_G} {cI cZ cP : ClassId} {h0 h1 i cells slots : Nat} {Q : State → Prop} {ws : va_W} {H : Heap} {locs : List Loc} {L : Array Slot} {rt : Option FieldType}
set_option maxHeartbeats 4000000 in
set_option maxRecDepth 100000 in
theorem lw_c0 (X : Cx p m c meth s #[Value.ref b] RL code 4 rt D (vTy cI cZ cP)) (hX : va_X b Ls xs s s.heap) (hbl : b < s.heap.size) (hL : Ls ≤ 1536) (hi : i + 3 ≤ Ls) (hc1 : cells + 1 ≤ 667234) (hs1 : slots + 5 ≤ 7100547) (hl : lv_has L 4 [(3, .int (nI i)), (2, .ref h1), (1, .ref h0), (0, .ref b)]) (hW : lwI cI cZ cP D s h0 h1 ws H locs) (kk : ∀ (ws : va_W) (H : Heap) (locs : List Loc), lwI cI cZ cP D s h0 h1 ws H locs → W p l e room_1 s m #[Value.ref b] below meth c H locs (cells + 1) (slots + 5) Q (F0 m 469 L [])) : W p l e room_1 s m #[Value.ref b] below meth c H locs cells slots Q (F0 m 100 L []) := by
  obtain ⟨hx, hb, hr, hml, hown, hts, hK, hlk, hxK⟩ := id X
  obtain ⟨hP, hD, hS, p0, p1, ha, row, pv, q, ad, sc, ar, n, hO, hm, hI⟩ := hW
  have hA : ∀ q : Nat, s.heap.size ≤ q → (fun q : Nat => s.heap.size ≤ q) q := fun _ h => h
  have hbA : ¬ (fun q : Nat => s.heap.size ≤ q) b := Nat.not_le.mpr hbl
  have hin1 : vp_in (nI i + 1) Ls := by rw [nI_1]; exact vp_in_nI (by omega) (by omega)
  have hin2 : vp_in (nI i + 2) Ls := by rw [show (2 : Int32) = nI 2 from rfl, nI_add]; exact vp_in_nI (by omega) (by omega)
  refine lv_aload_n hx hb dL_law_100 rfl (lv_at hl 2 rfl) ?_
  refine lv_aload_n hx hb dL_law_101 rfl (lv_at hl 3 rfl) ?_
  refine lv_iload_n hx hb dL_law_102 rfl (lv_at hl 0 rfl) ?_
  refine lv_iconst (v := 1) hx hb dL_law_103 (by decide) ?_
  refine lv_iadd hx hb dL_law_104 ?_
  refine va_sld hx hb hX hbl hbA hS hin1 dL_law_105 ?_
  refine lv_aload_n hx hb dL_law_106 rfl (lv_at hl 3 rfl) ?_
  refine lv_iload_n hx hb dL_law_107 rfl (lv_at hl 0 rfl) ?_
  refine lv_iconst (v := 2) hx hb dL_law_108 (by decide) ?_
  refine lv_iadd hx hb dL_law_109 ?_
  refine va_sld hx hb hX hbl hbA hS hin2 dL_law_110 ?_
  refine g_priv (ci := 8) (cq := (RX8, TX8, 7)) (As := [.int (xs (((nI i) + 1)).toNatClampNeg), .int (xs (((nI i) + 2)).toNatClampNeg)]) (rest := []) pwL_13 X (c_X8_issue l D cI cZ cP 7 (by decide) hO hI (xs (((nI i) + 1)).toNatClampNeg) (xs (((nI i) + 2)).toNatClampNeg)) hP hD hS hA hO.1 rfl rfl ⟨by show _ ≤ 10; omega, by show _ ≤ 344; omega⟩ rfl hl.1 rfl (Nat.le_of_ble_eq_true rfl) dL_law_111 ⟨by show _ ≤ 667234; omega, by show _ ≤ 7100547; omega⟩ (fun v9 ws9 H locs hq hP hD hS => ?_)
  obtain ⟨ev9, ⟨p0, p1, ha, n9, row, pv, hO9, hn9, h409⟩, hfr⟩ := hq
  subst ev9
  have hm := mo_at_fr hm hfr
  refine W.eq (g2 := F0 m 114 L [.int (mIssue sc ar (xs (((nI i) + 1)).toNatClampNeg) (xs (((nI i) + 2)).toNatClampNeg)).1]) rfl ?_
  refine lv_aload_n hx hb dL_law_114 rfl (lv_at hl 1 rfl) ?_
  refine lv_aload_n hx hb dL_law_115 rfl (lv_at hl 3 rfl) ?_
  refine lv_iload_n hx hb dL_law_116 rfl (lv_at hl 0 rfl) ?_
  refine lv_iconst (v := 1) hx hb dL_law_117 (by decide) ?_
  refine lv_iadd hx hb dL_law_118 ?_
  refine va_sld hx hb hX hbl hbA hS hin1 dL_law_119 ?_
  refine lv_aload_n hx hb dL_law_120 rfl (lv_at hl 3 rfl) ?_
  refine lv_iload_n hx hb dL_law_121 rfl (lv_at hl 0 rfl) ?_
  refine lv_iconst (v := 2) hx hb dL_law_122 (by decide) ?_
  refine lv_iadd hx hb dL_law_123 ?_
  refine va_sld hx hb hX hbl hbA hS hin2 dL_law_124 ?_
  refine g_priv (ci := 9) (cq := (RX9, TX9, 13)) (As := [.int (xs (((nI i) + 1)).toNatClampNeg), .int (xs (((nI i) + 2)).toNatClampNeg)]) (rest := [.int (mIssue sc ar (xs (((nI i) + 1)).toNatClampNeg) (xs (((nI i) + 2)).toNatClampNeg)).1]) pwL_17 X (c_X9_issue l D cI cZ cP 1 (by decide) hm hI.1 hI.2.1 (xs (((nI i) + 1)).toNatClampNeg) (xs (((nI i) + 2)).toNatClampNeg)) hP hD hS hA hm.1 rfl rfl ⟨by show _ ≤ 10; omega, by show _ ≤ 344; omega⟩ rfl hl.1 rfl (Nat.le_of_ble_eq_true rfl) dL_law_125 ⟨by show _ ≤ 667234; omega, by show _ ≤ 7100547; omega⟩ (fun v9 ws9 H locs hq hP hD hS => ?_)
  obtain ⟨ev8, hm8, hfr8⟩ := hq
  subst ev8
  have hO8 := of_at_fr hO9 hfr8
  refine W.eq (g2 := F0 m 128 L [.int (mIssue sc ar (xs (((nI i) + 1)).toNatClampNeg) (xs (((nI i) + 2)).toNatClampNeg)).1, .int (mIssue sc ar (xs (((nI i) + 1)).toNatClampNeg) (xs (((nI i) + 2)).toNatClampNeg)).1]) rfl ?_
  refine lv_icmp_eq (tgt := 469) hx hb dL_law_128 (by decide) (fun _ => ?_) (fun c9 => absurd rfl c9)
  refine W.widen (k := cells + 1) (n := slots + 5) (by omega) (by omega) ?_
  obtain ⟨n7, hI7⟩ := inv_issue hI (xs (((nI i) + 1)).toNatClampNeg) (xs (((nI i) + 2)).toNatClampNeg)
  have en := n_one hI7.1 hn9 hI7.2.1 h409
  subst en
  exact kk _ H locs ⟨hP, hD, hS, p0, p1, ha, row, pv, q, ad, _, _, n7, hO8, hm8, hI7⟩
set_option maxHeartbeats 4000000 in
set_option maxRecDepth 100000 in
theorem lw_c1 (X : Cx p m c meth s #[Value.ref b] RL code 4 rt D (vTy cI cZ cP)) (hX : va_X b Ls xs s s.heap) (hbl : b < s.heap.size) (hL : Ls ≤ 1536) (hi : i + 3 ≤ Ls) (hc1 : cells + 1 ≤ 667234) (hs1 : slots + 5 ≤ 7100547) (hl : lv_has L 4 [(3, .int (nI i)), (2, .ref h1), (1, .ref h0), (0, .ref b)]) (hW : lwI cI cZ cP D s h0 h1 ws H locs) (kk : ∀ (ws : va_W) (H : Heap) (locs : List Loc), lwI cI cZ cP D s h0 h1 ws H locs → W p l e room_1 s m #[Value.ref b] below meth c H locs (cells + 1) (slots + 5) Q (F0 m 469 L [])) : W p l e room_1 s m #[Value.ref b] below meth c H locs cells slots Q (F0 m 133 L []) := by
  obtain ⟨hx, hb, hr, hml, hown, hts, hK, hlk, hxK⟩ := id X
  obtain ⟨hP, hD, hS, p0, p1, ha, row, pv, q, ad, sc, ar, n, hO, hm, hI⟩ := hW
  have hA : ∀ q : Nat, s.heap.size ≤ q → (fun q : Nat => s.heap.size ≤ q) q := fun _ h => h
  have hbA : ¬ (fun q : Nat => s.heap.size ≤ q) b := Nat.not_le.mpr hbl
  have hin1 : vp_in (nI i + 1) Ls := by rw [nI_1]; exact vp_in_nI (by omega) (by omega)
  have hin2 : vp_in (nI i + 2) Ls := by rw [show (2 : Int32) = nI 2 from rfl, nI_add]; exact vp_in_nI (by omega) (by omega)
  refine lv_aload_n hx hb dL_law_133 rfl (lv_at hl 2 rfl) ?_
  refine lv_aload_n hx hb dL_law_134 rfl (lv_at hl 3 rfl) ?_
  refine lv_iload_n hx hb dL_law_135 rfl (lv_at hl 0 rfl) ?_
  refine lv_iconst (v := 1) hx hb dL_law_136 (by decide) ?_
  refine lv_iadd hx hb dL_law_137 ?_
  refine va_sld hx hb hX hbl hbA hS hin1 dL_law_138 ?_
  refine g_priv (ci := 8) (cq := (RX8, TX8, 7)) (As := [.int (xs (((nI i) + 1)).toNatClampNeg)]) (rest := []) pwL_18 X (c_X8_pass l D cI cZ cP 1 (by decide) hO hI (xs (((nI i) + 1)).toNatClampNeg)) hP hD hS hA hO.1 rfl rfl ⟨by show _ ≤ 10; omega, by show _ ≤ 344; omega⟩ rfl hl.1 rfl (Nat.le_of_ble_eq_true rfl) dL_law_139 ⟨by show _ ≤ 667234; omega, by show _ ≤ 7100547; omega⟩ (fun v9 ws9 H locs hq hP hD hS => ?_)
  obtain ⟨ev9, ⟨p0, p1, ha, n9, row, pv, hO9, hn9, h409⟩, hfr⟩ := hq
  subst ev9
  have hm := mo_at_fr hm hfr
  refine W.eq (g2 := F0 m 142 L [.int (mPass sc ar (xs (((nI i) + 1)).toNatClampNeg)).1]) rfl ?_
  refine lv_aload_n hx hb dL_law_142 rfl (lv_at hl 1 rfl) ?_
  refine lv_aload_n hx hb dL_law_143 rfl (lv_at hl 3 rfl) ?_
  refine lv_iload_n hx hb dL_law_144 rfl (lv_at hl 0 rfl) ?_
  refine lv_iconst (v := 1) hx hb dL_law_145 (by decide) ?_
  refine lv_iadd hx hb dL_law_146 ?_
  refine va_sld hx hb hX hbl hbA hS hin1 dL_law_147 ?_
  refine g_priv (ci := 9) (cq := (RX9, TX9, 13)) (As := [.int (xs (((nI i) + 1)).toNatClampNeg)]) (rest := [.int (mPass sc ar (xs (((nI i) + 1)).toNatClampNeg)).1]) pwL_22 X (c_X9_pass l D cI cZ cP 1 (by decide) hm (xs (((nI i) + 1)).toNatClampNeg)) hP hD hS hA hm.1 rfl rfl ⟨by show _ ≤ 10; omega, by show _ ≤ 344; omega⟩ rfl hl.1 rfl (Nat.le_of_ble_eq_true rfl) dL_law_148 ⟨by show _ ≤ 667234; omega, by show _ ≤ 7100547; omega⟩ (fun v9 ws9 H locs hq hP hD hS => ?_)
  obtain ⟨ev8, hm8, hfr8⟩ := hq
  subst ev8
  have hO8 := of_at_fr hO9 hfr8
  refine W.eq (g2 := F0 m 151 L [.int (mPass sc ar (xs (((nI i) + 1)).toNatClampNeg)).1, .int (mPass sc ar (xs (((nI i) + 1)).toNatClampNeg)).1]) rfl ?_
  refine lv_icmp_eq (tgt := 469) hx hb dL_law_151 (by decide) (fun _ => ?_) (fun c9 => absurd rfl c9)
  refine W.widen (k := cells + 1) (n := slots + 5) (by omega) (by omega) ?_
  have hI7 := inv_pass hI (xs (((nI i) + 1)).toNatClampNeg)
  have en := n_one hI7.1 hn9 hI7.2.1 h409
  subst en
  exact kk _ H locs ⟨hP, hD, hS, p0, p1, ha, row, pv, q, ad, _, _, n, hO8, hm8, hI7⟩
set_option maxHeartbeats 4000000 in
set_option maxRecDepth 100000 in
theorem lw_c2 (X : Cx p m c meth s #[Value.ref b] RL code 4 rt D (vTy cI cZ cP)) (hX : va_X b Ls xs s s.heap) (hbl : b < s.heap.size) (hL : Ls ≤ 1536) (hi : i + 3 ≤ Ls) (hc1 : cells + 1 ≤ 667234) (hs1 : slots + 5 ≤ 7100547) (hl : lv_has L 4 [(3, .int (nI i)), (2, .ref h1), (1, .ref h0), (0, .ref b)]) (hW : lwI cI cZ cP D s h0 h1 ws H locs) (kk : ∀ (ws : va_W) (H : Heap) (locs : List Loc), lwI cI cZ cP D s h0 h1 ws H locs → W p l e room_1 s m #[Value.ref b] below meth c H locs (cells + 1) (slots + 5) Q (F0 m 469 L [])) : W p l e room_1 s m #[Value.ref b] below meth c H locs cells slots Q (F0 m 156 L []) := by
  obtain ⟨hx, hb, hr, hml, hown, hts, hK, hlk, hxK⟩ := id X
  obtain ⟨hP, hD, hS, p0, p1, ha, row, pv, q, ad, sc, ar, n, hO, hm, hI⟩ := hW
  have hA : ∀ q : Nat, s.heap.size ≤ q → (fun q : Nat => s.heap.size ≤ q) q := fun _ h => h
  have hbA : ¬ (fun q : Nat => s.heap.size ≤ q) b := Nat.not_le.mpr hbl
  have hin1 : vp_in (nI i + 1) Ls := by rw [nI_1]; exact vp_in_nI (by omega) (by omega)
  have hin2 : vp_in (nI i + 2) Ls := by rw [show (2 : Int32) = nI 2 from rfl, nI_add]; exact vp_in_nI (by omega) (by omega)
  refine lv_aload_n hx hb dL_law_156 rfl (lv_at hl 2 rfl) ?_
  refine lv_aload_n hx hb dL_law_157 rfl (lv_at hl 3 rfl) ?_
  refine lv_iload_n hx hb dL_law_158 rfl (lv_at hl 0 rfl) ?_
  refine lv_iconst (v := 1) hx hb dL_law_159 (by decide) ?_
  refine lv_iadd hx hb dL_law_160 ?_
  refine va_sld hx hb hX hbl hbA hS hin1 dL_law_161 ?_
  refine lv_aload_n hx hb dL_law_162 rfl (lv_at hl 3 rfl) ?_
  refine lv_iload_n hx hb dL_law_163 rfl (lv_at hl 0 rfl) ?_
  refine lv_iconst (v := 2) hx hb dL_law_164 (by decide) ?_
  refine lv_iadd hx hb dL_law_165 ?_
  refine va_sld hx hb hX hbl hbA hS hin2 dL_law_166 ?_
  refine g_priv (ci := 8) (cq := (RX8, TX8, 7)) (As := [.int (xs (((nI i) + 1)).toNatClampNeg), .int (xs (((nI i) + 2)).toNatClampNeg)]) (rest := []) pwL_23 X (c_X8_value l D cI cZ cP 4 (by decide) hO hI (xs (((nI i) + 1)).toNatClampNeg) (xs (((nI i) + 2)).toNatClampNeg)) hP hD hS hA hO.1 rfl rfl ⟨by show _ ≤ 10; omega, by show _ ≤ 344; omega⟩ rfl hl.1 rfl (Nat.le_of_ble_eq_true rfl) dL_law_167 ⟨by show _ ≤ 667234; omega, by show _ ≤ 7100547; omega⟩ (kI fun H locs hP hD hS => ?_)
  refine W.eq (g2 := F0 m 170 L [.int (mValue sc ar (xs (((nI i) + 1)).toNatClampNeg) (xs (((nI i) + 2)).toNatClampNeg))]) rfl ?_
  refine lv_aload_n hx hb dL_law_170 rfl (lv_at hl 1 rfl) ?_
  refine lv_aload_n hx hb dL_law_171 rfl (lv_at hl 3 rfl) ?_
  refine lv_iload_n hx hb dL_law_172 rfl (lv_at hl 0 rfl) ?_
  refine lv_iconst (v := 1) hx hb dL_law_173 (by decide) ?_
  refine lv_iadd hx hb dL_law_174 ?_
  refine va_sld hx hb hX hbl hbA hS hin1 dL_law_175 ?_
  refine lv_aload_n hx hb dL_law_176 rfl (lv_at hl 3 rfl) ?_
  refine lv_iload_n hx hb dL_law_177 rfl (lv_at hl 0 rfl) ?_
  refine lv_iconst (v := 2) hx hb dL_law_178 (by decide) ?_
  refine lv_iadd hx hb dL_law_179 ?_
  refine va_sld hx hb hX hbl hbA hS hin2 dL_law_180 ?_
  refine g_priv (ci := 9) (cq := (RX9, TX9, 13)) (As := [.int (xs (((nI i) + 1)).toNatClampNeg), .int (xs (((nI i) + 2)).toNatClampNeg)]) (rest := [.int (mValue sc ar (xs (((nI i) + 1)).toNatClampNeg) (xs (((nI i) + 2)).toNatClampNeg))]) pwL_26 X (c_X9_value l D cI cZ cP 2 (by decide) hm hI.1 hI.2.1 (xs (((nI i) + 1)).toNatClampNeg) (xs (((nI i) + 2)).toNatClampNeg)) hP hD hS hA hm.1 rfl rfl ⟨by show _ ≤ 10; omega, by show _ ≤ 344; omega⟩ rfl hl.1 rfl (Nat.le_of_ble_eq_true rfl) dL_law_181 ⟨by show _ ≤ 667234; omega, by show _ ≤ 7100547; omega⟩ (kI fun H locs hP hD hS => ?_)
  refine W.eq (g2 := F0 m 184 L [.int (mValue sc ar (xs (((nI i) + 1)).toNatClampNeg) (xs (((nI i) + 2)).toNatClampNeg)), .int (mValue sc ar (xs (((nI i) + 1)).toNatClampNeg) (xs (((nI i) + 2)).toNatClampNeg))]) rfl ?_
  refine lv_icmp_eq (tgt := 469) hx hb dL_law_184 (by decide) (fun _ => ?_) (fun c9 => absurd rfl c9)
  refine W.widen (k := cells + 1) (n := slots + 5) (by omega) (by omega) ?_
  exact kk ws H locs ⟨hP, hD, hS, p0, p1, ha, row, pv, q, ad, sc, ar, n, hO, hm, hI⟩
set_option maxHeartbeats 4000000 in
set_option maxRecDepth 100000 in
theorem lw_c3 (X : Cx p m c meth s #[Value.ref b] RL code 4 rt D (vTy cI cZ cP)) (hX : va_X b Ls xs s s.heap) (hbl : b < s.heap.size) (hL : Ls ≤ 1536) (hi : i + 3 ≤ Ls) (hc1 : cells + 1 ≤ 667234) (hs1 : slots + 5 ≤ 7100547) (hl : lv_has L 4 [(3, .int (nI i)), (2, .ref h1), (1, .ref h0), (0, .ref b)]) (hW : lwI cI cZ cP D s h0 h1 ws H locs) (kk : ∀ (ws : va_W) (H : Heap) (locs : List Loc), lwI cI cZ cP D s h0 h1 ws H locs → W p l e room_1 s m #[Value.ref b] below meth c H locs (cells + 1) (slots + 5) Q (F0 m 469 L [])) : W p l e room_1 s m #[Value.ref b] below meth c H locs cells slots Q (F0 m 189 L []) := by
  obtain ⟨hx, hb, hr, hml, hown, hts, hK, hlk, hxK⟩ := id X
  obtain ⟨hP, hD, hS, p0, p1, ha, row, pv, q, ad, sc, ar, n, hO, hm, hI⟩ := hW
  have hA : ∀ q : Nat, s.heap.size ≤ q → (fun q : Nat => s.heap.size ≤ q) q := fun _ h => h
  have hbA : ¬ (fun q : Nat => s.heap.size ≤ q) b := Nat.not_le.mpr hbl
  have hin1 : vp_in (nI i + 1) Ls := by rw [nI_1]; exact vp_in_nI (by omega) (by omega)
  have hin2 : vp_in (nI i + 2) Ls := by rw [show (2 : Int32) = nI 2 from rfl, nI_add]; exact vp_in_nI (by omega) (by omega)
  refine lv_aload_n hx hb dL_law_189 rfl (lv_at hl 2 rfl) ?_
  refine lv_aload_n hx hb dL_law_190 rfl (lv_at hl 3 rfl) ?_
  refine lv_iload_n hx hb dL_law_191 rfl (lv_at hl 0 rfl) ?_
  refine lv_iconst (v := 1) hx hb dL_law_192 (by decide) ?_
  refine lv_iadd hx hb dL_law_193 ?_
  refine va_sld hx hb hX hbl hbA hS hin1 dL_law_194 ?_
  refine lv_aload_n hx hb dL_law_195 rfl (lv_at hl 3 rfl) ?_
  refine lv_iload_n hx hb dL_law_196 rfl (lv_at hl 0 rfl) ?_
  refine lv_iconst (v := 2) hx hb dL_law_197 (by decide) ?_
  refine lv_iadd hx hb dL_law_198 ?_
  refine va_sld hx hb hX hbl hbA hS hin2 dL_law_199 ?_
  refine g_priv (ci := 8) (cq := (RX8, TX8, 7)) (As := [.int (xs (((nI i) + 1)).toNatClampNeg), .int (xs (((nI i) + 2)).toNatClampNeg)]) (rest := []) pwL_27 X (c_X8_fee l D cI cZ cP 2 (by decide) hO hI (xs (((nI i) + 1)).toNatClampNeg) (xs (((nI i) + 2)).toNatClampNeg)) hP hD hS hA hO.1 rfl rfl ⟨by show _ ≤ 10; omega, by show _ ≤ 344; omega⟩ rfl hl.1 rfl (Nat.le_of_ble_eq_true rfl) dL_law_200 ⟨by show _ ≤ 667234; omega, by show _ ≤ 7100547; omega⟩ (kI fun H locs hP hD hS => ?_)
  refine W.eq (g2 := F0 m 203 L [.int (mFeeP sc ar (xs (((nI i) + 1)).toNatClampNeg) (xs (((nI i) + 2)).toNatClampNeg))]) rfl ?_
  refine lv_aload_n hx hb dL_law_203 rfl (lv_at hl 1 rfl) ?_
  refine lv_aload_n hx hb dL_law_204 rfl (lv_at hl 3 rfl) ?_
  refine lv_iload_n hx hb dL_law_205 rfl (lv_at hl 0 rfl) ?_
  refine lv_iconst (v := 1) hx hb dL_law_206 (by decide) ?_
  refine lv_iadd hx hb dL_law_207 ?_
  refine va_sld hx hb hX hbl hbA hS hin1 dL_law_208 ?_
  refine lv_aload_n hx hb dL_law_209 rfl (lv_at hl 3 rfl) ?_
  refine lv_iload_n hx hb dL_law_210 rfl (lv_at hl 0 rfl) ?_
  refine lv_iconst (v := 2) hx hb dL_law_211 (by decide) ?_
  refine lv_iadd hx hb dL_law_212 ?_
  refine va_sld hx hb hX hbl hbA hS hin2 dL_law_213 ?_
  refine g_priv (ci := 9) (cq := (RX9, TX9, 13)) (As := [.int (xs (((nI i) + 1)).toNatClampNeg), .int (xs (((nI i) + 2)).toNatClampNeg)]) (rest := [.int (mFeeP sc ar (xs (((nI i) + 1)).toNatClampNeg) (xs (((nI i) + 2)).toNatClampNeg))]) pwL_30 X (c_X9_fee l D cI cZ cP 2 (by decide) hm hI.1 hI.2.1 (xs (((nI i) + 1)).toNatClampNeg) (xs (((nI i) + 2)).toNatClampNeg)) hP hD hS hA hm.1 rfl rfl ⟨by show _ ≤ 10; omega, by show _ ≤ 344; omega⟩ rfl hl.1 rfl (Nat.le_of_ble_eq_true rfl) dL_law_214 ⟨by show _ ≤ 667234; omega, by show _ ≤ 7100547; omega⟩ (kI fun H locs hP hD hS => ?_)
  refine W.eq (g2 := F0 m 217 L [.int (mFeeP sc ar (xs (((nI i) + 1)).toNatClampNeg) (xs (((nI i) + 2)).toNatClampNeg)), .int (mFeeP sc ar (xs (((nI i) + 1)).toNatClampNeg) (xs (((nI i) + 2)).toNatClampNeg))]) rfl ?_
  refine lv_icmp_eq (tgt := 469) hx hb dL_law_217 (by decide) (fun _ => ?_) (fun c9 => absurd rfl c9)
  refine W.widen (k := cells + 1) (n := slots + 5) (by omega) (by omega) ?_
  exact kk ws H locs ⟨hP, hD, hS, p0, p1, ha, row, pv, q, ad, sc, ar, n, hO, hm, hI⟩
set_option maxHeartbeats 4000000 in
set_option maxRecDepth 100000 in
theorem lw_c4 (X : Cx p m c meth s #[Value.ref b] RL code 4 rt D (vTy cI cZ cP)) (hX : va_X b Ls xs s s.heap) (hbl : b < s.heap.size) (hL : Ls ≤ 1536) (hi : i + 3 ≤ Ls) (hc1 : cells + 1 ≤ 667234) (hs1 : slots + 5 ≤ 7100547) (hl : lv_has L 4 [(3, .int (nI i)), (2, .ref h1), (1, .ref h0), (0, .ref b)]) (hW : lwI cI cZ cP D s h0 h1 ws H locs) (kk : ∀ (ws : va_W) (H : Heap) (locs : List Loc), lwI cI cZ cP D s h0 h1 ws H locs → W p l e room_1 s m #[Value.ref b] below meth c H locs (cells + 1) (slots + 5) Q (F0 m 469 L [])) : W p l e room_1 s m #[Value.ref b] below meth c H locs cells slots Q (F0 m 222 L []) := by
  obtain ⟨hx, hb, hr, hml, hown, hts, hK, hlk, hxK⟩ := id X
  obtain ⟨hP, hD, hS, p0, p1, ha, row, pv, q, ad, sc, ar, n, hO, hm, hI⟩ := hW
  have hA : ∀ q : Nat, s.heap.size ≤ q → (fun q : Nat => s.heap.size ≤ q) q := fun _ h => h
  have hbA : ¬ (fun q : Nat => s.heap.size ≤ q) b := Nat.not_le.mpr hbl
  have hin1 : vp_in (nI i + 1) Ls := by rw [nI_1]; exact vp_in_nI (by omega) (by omega)
  have hin2 : vp_in (nI i + 2) Ls := by rw [show (2 : Int32) = nI 2 from rfl, nI_add]; exact vp_in_nI (by omega) (by omega)
  refine lv_aload_n hx hb dL_law_222 rfl (lv_at hl 2 rfl) ?_
  refine lv_aload_n hx hb dL_law_223 rfl (lv_at hl 3 rfl) ?_
  refine lv_iload_n hx hb dL_law_224 rfl (lv_at hl 0 rfl) ?_
  refine lv_iconst (v := 1) hx hb dL_law_225 (by decide) ?_
  refine lv_iadd hx hb dL_law_226 ?_
  refine va_sld hx hb hX hbl hbA hS hin1 dL_law_227 ?_
  refine lv_aload_n hx hb dL_law_228 rfl (lv_at hl 3 rfl) ?_
  refine lv_iload_n hx hb dL_law_229 rfl (lv_at hl 0 rfl) ?_
  refine lv_iconst (v := 2) hx hb dL_law_230 (by decide) ?_
  refine lv_iadd hx hb dL_law_231 ?_
  refine va_sld hx hb hX hbl hbA hS hin2 dL_law_232 ?_
  refine g_priv (ci := 8) (cq := (RX8, TX8, 7)) (As := [.int (xs (((nI i) + 1)).toNatClampNeg), .int (xs (((nI i) + 2)).toNatClampNeg)]) (rest := []) pwL_31 X (c_X8_spend l D cI cZ cP 6 (by decide) hO hI (xs (((nI i) + 1)).toNatClampNeg) (xs (((nI i) + 2)).toNatClampNeg)) hP hD hS hA hO.1 rfl rfl ⟨by show _ ≤ 10; omega, by show _ ≤ 344; omega⟩ rfl hl.1 rfl (Nat.le_of_ble_eq_true rfl) dL_law_233 ⟨by show _ ≤ 667234; omega, by show _ ≤ 7100547; omega⟩ (fun v9 ws9 H locs hq hP hD hS => ?_)
  obtain ⟨ev9, ⟨p0, p1, ha, n9, row, pv, hO9, hn9, h409⟩, hfr⟩ := hq
  subst ev9
  have hm := mo_at_fr hm hfr
  refine W.eq (g2 := F0 m 236 L [.int (mSpend sc ar (xs (((nI i) + 1)).toNatClampNeg) (xs (((nI i) + 2)).toNatClampNeg)).1]) rfl ?_
  refine lv_aload_n hx hb dL_law_236 rfl (lv_at hl 1 rfl) ?_
  refine lv_aload_n hx hb dL_law_237 rfl (lv_at hl 3 rfl) ?_
  refine lv_iload_n hx hb dL_law_238 rfl (lv_at hl 0 rfl) ?_
  refine lv_iconst (v := 1) hx hb dL_law_239 (by decide) ?_
  refine lv_iadd hx hb dL_law_240 ?_
  refine va_sld hx hb hX hbl hbA hS hin1 dL_law_241 ?_
  refine lv_aload_n hx hb dL_law_242 rfl (lv_at hl 3 rfl) ?_
  refine lv_iload_n hx hb dL_law_243 rfl (lv_at hl 0 rfl) ?_
  refine lv_iconst (v := 2) hx hb dL_law_244 (by decide) ?_
  refine lv_iadd hx hb dL_law_245 ?_
  refine va_sld hx hb hX hbl hbA hS hin2 dL_law_246 ?_
  refine g_priv (ci := 9) (cq := (RX9, TX9, 13)) (As := [.int (xs (((nI i) + 1)).toNatClampNeg), .int (xs (((nI i) + 2)).toNatClampNeg)]) (rest := [.int (mSpend sc ar (xs (((nI i) + 1)).toNatClampNeg) (xs (((nI i) + 2)).toNatClampNeg)).1]) pwL_34 X (c_X9_spend l D cI cZ cP 2 (by decide) hm hI.1 hI.2.1 (xs (((nI i) + 1)).toNatClampNeg) (xs (((nI i) + 2)).toNatClampNeg)) hP hD hS hA hm.1 rfl rfl ⟨by show _ ≤ 10; omega, by show _ ≤ 344; omega⟩ rfl hl.1 rfl (Nat.le_of_ble_eq_true rfl) dL_law_247 ⟨by show _ ≤ 667234; omega, by show _ ≤ 7100547; omega⟩ (fun v9 ws9 H locs hq hP hD hS => ?_)
  obtain ⟨ev8, hm8, hfr8⟩ := hq
  subst ev8
  have hO8 := of_at_fr hO9 hfr8
  refine W.eq (g2 := F0 m 250 L [.int (mSpend sc ar (xs (((nI i) + 1)).toNatClampNeg) (xs (((nI i) + 2)).toNatClampNeg)).1, .int (mSpend sc ar (xs (((nI i) + 1)).toNatClampNeg) (xs (((nI i) + 2)).toNatClampNeg)).1]) rfl ?_
  refine lv_icmp_eq (tgt := 469) hx hb dL_law_250 (by decide) (fun _ => ?_) (fun c9 => absurd rfl c9)
  refine W.widen (k := cells + 1) (n := slots + 5) (by omega) (by omega) ?_
  have hI7 := inv_spend hI (xs (((nI i) + 1)).toNatClampNeg) (xs (((nI i) + 2)).toNatClampNeg)
  have en := n_one hI7.1 hn9 hI7.2.1 h409
  subst en
  exact kk _ H locs ⟨hP, hD, hS, p0, p1, ha, row, pv, q, ad, _, _, n, hO8, hm8, hI7⟩
set_option maxHeartbeats 4000000 in
set_option maxRecDepth 100000 in
theorem lw_c5 (X : Cx p m c meth s #[Value.ref b] RL code 4 rt D (vTy cI cZ cP)) (hX : va_X b Ls xs s s.heap) (hbl : b < s.heap.size) (hL : Ls ≤ 1536) (hi : i + 3 ≤ Ls) (hc1 : cells + 1 ≤ 667234) (hs1 : slots + 5 ≤ 7100547) (hl : lv_has L 4 [(3, .int (nI i)), (2, .ref h1), (1, .ref h0), (0, .ref b)]) (hW : lwI cI cZ cP D s h0 h1 ws H locs) (kk : ∀ (ws : va_W) (H : Heap) (locs : List Loc), lwI cI cZ cP D s h0 h1 ws H locs → W p l e room_1 s m #[Value.ref b] below meth c H locs (cells + 1) (slots + 5) Q (F0 m 469 L [])) : W p l e room_1 s m #[Value.ref b] below meth c H locs cells slots Q (F0 m 255 L []) := by
  obtain ⟨hx, hb, hr, hml, hown, hts, hK, hlk, hxK⟩ := id X
  obtain ⟨hP, hD, hS, p0, p1, ha, row, pv, q, ad, sc, ar, n, hO, hm, hI⟩ := hW
  have hA : ∀ q : Nat, s.heap.size ≤ q → (fun q : Nat => s.heap.size ≤ q) q := fun _ h => h
  have hbA : ¬ (fun q : Nat => s.heap.size ≤ q) b := Nat.not_le.mpr hbl
  have hin1 : vp_in (nI i + 1) Ls := by rw [nI_1]; exact vp_in_nI (by omega) (by omega)
  have hin2 : vp_in (nI i + 2) Ls := by rw [show (2 : Int32) = nI 2 from rfl, nI_add]; exact vp_in_nI (by omega) (by omega)
  refine lv_aload_n hx hb dL_law_255 rfl (lv_at hl 2 rfl) ?_
  refine lv_aload_n hx hb dL_law_256 rfl (lv_at hl 3 rfl) ?_
  refine lv_iload_n hx hb dL_law_257 rfl (lv_at hl 0 rfl) ?_
  refine lv_iconst (v := 1) hx hb dL_law_258 (by decide) ?_
  refine lv_iadd hx hb dL_law_259 ?_
  refine va_sld hx hb hX hbl hbA hS hin1 dL_law_260 ?_
  refine g_priv (ci := 8) (cq := (RX8, TX8, 7)) (As := [.int (xs (((nI i) + 1)).toNatClampNeg)]) (rest := []) pwL_35 X (c_X8_seal l D cI cZ cP 2 (by decide) hO hI (xs (((nI i) + 1)).toNatClampNeg)) hP hD hS hA hO.1 rfl rfl ⟨by show _ ≤ 10; omega, by show _ ≤ 344; omega⟩ rfl hl.1 rfl (Nat.le_of_ble_eq_true rfl) dL_law_261 ⟨by show _ ≤ 667234; omega, by show _ ≤ 7100547; omega⟩ (kI fun H locs hP hD hS => ?_)
  refine W.eq (g2 := F0 m 264 L [.int (mSealP sc ar (xs (((nI i) + 1)).toNatClampNeg))]) rfl ?_
  refine lv_aload_n hx hb dL_law_264 rfl (lv_at hl 1 rfl) ?_
  refine lv_aload_n hx hb dL_law_265 rfl (lv_at hl 3 rfl) ?_
  refine lv_iload_n hx hb dL_law_266 rfl (lv_at hl 0 rfl) ?_
  refine lv_iconst (v := 1) hx hb dL_law_267 (by decide) ?_
  refine lv_iadd hx hb dL_law_268 ?_
  refine va_sld hx hb hX hbl hbA hS hin1 dL_law_269 ?_
  refine g_priv (ci := 9) (cq := (RX9, TX9, 13)) (As := [.int (xs (((nI i) + 1)).toNatClampNeg)]) (rest := [.int (mSealP sc ar (xs (((nI i) + 1)).toNatClampNeg))]) pwL_38 X (c_X9_seal l D cI cZ cP 2 (by decide) hm hI.1 hI.2.1 (xs (((nI i) + 1)).toNatClampNeg)) hP hD hS hA hm.1 rfl rfl ⟨by show _ ≤ 10; omega, by show _ ≤ 344; omega⟩ rfl hl.1 rfl (Nat.le_of_ble_eq_true rfl) dL_law_270 ⟨by show _ ≤ 667234; omega, by show _ ≤ 7100547; omega⟩ (kI fun H locs hP hD hS => ?_)
  refine W.eq (g2 := F0 m 273 L [.int (mSealP sc ar (xs (((nI i) + 1)).toNatClampNeg)), .int (mSealP sc ar (xs (((nI i) + 1)).toNatClampNeg))]) rfl ?_
  refine lv_icmp_eq (tgt := 469) hx hb dL_law_273 (by decide) (fun _ => ?_) (fun c9 => absurd rfl c9)
  refine W.widen (k := cells + 1) (n := slots + 5) (by omega) (by omega) ?_
  exact kk ws H locs ⟨hP, hD, hS, p0, p1, ha, row, pv, q, ad, sc, ar, n, hO, hm, hI⟩
set_option maxHeartbeats 4000000 in
set_option maxRecDepth 100000 in
theorem lw_c6 (X : Cx p m c meth s #[Value.ref b] RL code 4 rt D (vTy cI cZ cP)) (hX : va_X b Ls xs s s.heap) (hbl : b < s.heap.size) (hL : Ls ≤ 1536) (hi : i + 3 ≤ Ls) (hc1 : cells + 1 ≤ 667234) (hs1 : slots + 5 ≤ 7100547) (hl : lv_has L 4 [(3, .int (nI i)), (2, .ref h1), (1, .ref h0), (0, .ref b)]) (hW : lwI cI cZ cP D s h0 h1 ws H locs) (kk : ∀ (ws : va_W) (H : Heap) (locs : List Loc), lwI cI cZ cP D s h0 h1 ws H locs → W p l e room_1 s m #[Value.ref b] below meth c H locs (cells + 1) (slots + 5) Q (F0 m 469 L [])) : W p l e room_1 s m #[Value.ref b] below meth c H locs cells slots Q (F0 m 278 L []) := by
  obtain ⟨hx, hb, hr, hml, hown, hts, hK, hlk, hxK⟩ := id X
  obtain ⟨hP, hD, hS, p0, p1, ha, row, pv, q, ad, sc, ar, n, hO, hm, hI⟩ := hW
  have hA : ∀ q : Nat, s.heap.size ≤ q → (fun q : Nat => s.heap.size ≤ q) q := fun _ h => h
  have hbA : ¬ (fun q : Nat => s.heap.size ≤ q) b := Nat.not_le.mpr hbl
  have hin1 : vp_in (nI i + 1) Ls := by rw [nI_1]; exact vp_in_nI (by omega) (by omega)
  have hin2 : vp_in (nI i + 2) Ls := by rw [show (2 : Int32) = nI 2 from rfl, nI_add]; exact vp_in_nI (by omega) (by omega)
  refine lv_aload_n hx hb dL_law_278 rfl (lv_at hl 2 rfl) ?_
  refine lv_aload_n hx hb dL_law_279 rfl (lv_at hl 3 rfl) ?_
  refine lv_iload_n hx hb dL_law_280 rfl (lv_at hl 0 rfl) ?_
  refine lv_iconst (v := 1) hx hb dL_law_281 (by decide) ?_
  refine lv_iadd hx hb dL_law_282 ?_
  refine va_sld hx hb hX hbl hbA hS hin1 dL_law_283 ?_
  refine lv_aload_n hx hb dL_law_284 rfl (lv_at hl 3 rfl) ?_
  refine lv_iload_n hx hb dL_law_285 rfl (lv_at hl 0 rfl) ?_
  refine lv_iconst (v := 2) hx hb dL_law_286 (by decide) ?_
  refine lv_iadd hx hb dL_law_287 ?_
  refine va_sld hx hb hX hbl hbA hS hin2 dL_law_288 ?_
  refine g_priv (ci := 8) (cq := (RX8, TX8, 7)) (As := [.int (xs (((nI i) + 1)).toNatClampNeg), .int (xs (((nI i) + 2)).toNatClampNeg)]) (rest := []) pwL_39 X (c_X8_mark l D cI cZ cP 3 (by decide) hO hI (xs (((nI i) + 1)).toNatClampNeg) (xs (((nI i) + 2)).toNatClampNeg)) hP hD hS hA hO.1 rfl rfl ⟨by show _ ≤ 10; omega, by show _ ≤ 344; omega⟩ rfl hl.1 rfl (Nat.le_of_ble_eq_true rfl) dL_law_289 ⟨by show _ ≤ 667234; omega, by show _ ≤ 7100547; omega⟩ (kI fun H locs hP hD hS => ?_)
  refine W.eq (g2 := F0 m 292 L [.int (mMark sc ar (xs (((nI i) + 1)).toNatClampNeg) (xs (((nI i) + 2)).toNatClampNeg))]) rfl ?_
  refine lv_aload_n hx hb dL_law_292 rfl (lv_at hl 1 rfl) ?_
  refine lv_aload_n hx hb dL_law_293 rfl (lv_at hl 3 rfl) ?_
  refine lv_iload_n hx hb dL_law_294 rfl (lv_at hl 0 rfl) ?_
  refine lv_iconst (v := 1) hx hb dL_law_295 (by decide) ?_
  refine lv_iadd hx hb dL_law_296 ?_
  refine va_sld hx hb hX hbl hbA hS hin1 dL_law_297 ?_
  refine lv_aload_n hx hb dL_law_298 rfl (lv_at hl 3 rfl) ?_
  refine lv_iload_n hx hb dL_law_299 rfl (lv_at hl 0 rfl) ?_
  refine lv_iconst (v := 2) hx hb dL_law_300 (by decide) ?_
  refine lv_iadd hx hb dL_law_301 ?_
  refine va_sld hx hb hX hbl hbA hS hin2 dL_law_302 ?_
  refine g_priv (ci := 9) (cq := (RX9, TX9, 13)) (As := [.int (xs (((nI i) + 1)).toNatClampNeg), .int (xs (((nI i) + 2)).toNatClampNeg)]) (rest := [.int (mMark sc ar (xs (((nI i) + 1)).toNatClampNeg) (xs (((nI i) + 2)).toNatClampNeg))]) pwL_42 X (c_X9_mark l D cI cZ cP 2 (by decide) hm hI.1 hI.2.1 (xs (((nI i) + 1)).toNatClampNeg) (xs (((nI i) + 2)).toNatClampNeg)) hP hD hS hA hm.1 rfl rfl ⟨by show _ ≤ 10; omega, by show _ ≤ 344; omega⟩ rfl hl.1 rfl (Nat.le_of_ble_eq_true rfl) dL_law_303 ⟨by show _ ≤ 667234; omega, by show _ ≤ 7100547; omega⟩ (kI fun H locs hP hD hS => ?_)
  refine W.eq (g2 := F0 m 306 L [.int (mMark sc ar (xs (((nI i) + 1)).toNatClampNeg) (xs (((nI i) + 2)).toNatClampNeg)), .int (mMark sc ar (xs (((nI i) + 1)).toNatClampNeg) (xs (((nI i) + 2)).toNatClampNeg))]) rfl ?_
  refine lv_icmp_eq (tgt := 469) hx hb dL_law_306 (by decide) (fun _ => ?_) (fun c9 => absurd rfl c9)
  refine W.widen (k := cells + 1) (n := slots + 5) (by omega) (by omega) ?_
  exact kk ws H locs ⟨hP, hD, hS, p0, p1, ha, row, pv, q, ad, sc, ar, n, hO, hm, hI⟩
set_option maxHeartbeats 4000000 in
set_option maxRecDepth 100000 in
theorem lw_c7 (X : Cx p m c meth s #[Value.ref b] RL code 4 rt D (vTy cI cZ cP)) (hX : va_X b Ls xs s s.heap) (hbl : b < s.heap.size) (hL : Ls ≤ 1536) (hi : i + 3 ≤ Ls) (hc1 : cells + 1 ≤ 667234) (hs1 : slots + 5 ≤ 7100547) (hl : lv_has L 4 [(3, .int (nI i)), (2, .ref h1), (1, .ref h0), (0, .ref b)]) (hW : lwI cI cZ cP D s h0 h1 ws H locs) (kk : ∀ (ws : va_W) (H : Heap) (locs : List Loc), lwI cI cZ cP D s h0 h1 ws H locs → W p l e room_1 s m #[Value.ref b] below meth c H locs (cells + 1) (slots + 5) Q (F0 m 469 L [])) : W p l e room_1 s m #[Value.ref b] below meth c H locs cells slots Q (F0 m 311 L []) := by
  obtain ⟨hx, hb, hr, hml, hown, hts, hK, hlk, hxK⟩ := id X
  obtain ⟨hP, hD, hS, p0, p1, ha, row, pv, q, ad, sc, ar, n, hO, hm, hI⟩ := hW
  have hA : ∀ q : Nat, s.heap.size ≤ q → (fun q : Nat => s.heap.size ≤ q) q := fun _ h => h
  have hbA : ¬ (fun q : Nat => s.heap.size ≤ q) b := Nat.not_le.mpr hbl
  have hin1 : vp_in (nI i + 1) Ls := by rw [nI_1]; exact vp_in_nI (by omega) (by omega)
  have hin2 : vp_in (nI i + 2) Ls := by rw [show (2 : Int32) = nI 2 from rfl, nI_add]; exact vp_in_nI (by omega) (by omega)
  refine lv_aload_n hx hb dL_law_311 rfl (lv_at hl 2 rfl) ?_
  refine lv_aload_n hx hb dL_law_312 rfl (lv_at hl 3 rfl) ?_
  refine lv_iload_n hx hb dL_law_313 rfl (lv_at hl 0 rfl) ?_
  refine lv_iconst (v := 1) hx hb dL_law_314 (by decide) ?_
  refine lv_iadd hx hb dL_law_315 ?_
  refine va_sld hx hb hX hbl hbA hS hin1 dL_law_316 ?_
  refine lv_aload_n hx hb dL_law_317 rfl (lv_at hl 3 rfl) ?_
  refine lv_iload_n hx hb dL_law_318 rfl (lv_at hl 0 rfl) ?_
  refine lv_iconst (v := 2) hx hb dL_law_319 (by decide) ?_
  refine lv_iadd hx hb dL_law_320 ?_
  refine va_sld hx hb hX hbl hbA hS hin2 dL_law_321 ?_
  refine g_priv (ci := 8) (cq := (RX8, TX8, 7)) (As := [.int (xs (((nI i) + 1)).toNatClampNeg), .int (xs (((nI i) + 2)).toNatClampNeg)]) (rest := []) pwL_43 X (c_X8_daysLeft l D cI cZ cP 2 (by decide) hO hI (xs (((nI i) + 1)).toNatClampNeg) (xs (((nI i) + 2)).toNatClampNeg)) hP hD hS hA hO.1 rfl rfl ⟨by show _ ≤ 10; omega, by show _ ≤ 344; omega⟩ rfl hl.1 rfl (Nat.le_of_ble_eq_true rfl) dL_law_322 ⟨by show _ ≤ 667234; omega, by show _ ≤ 7100547; omega⟩ (kI fun H locs hP hD hS => ?_)
  refine W.eq (g2 := F0 m 325 L [.int (mDays sc ar (xs (((nI i) + 1)).toNatClampNeg) (xs (((nI i) + 2)).toNatClampNeg))]) rfl ?_
  refine lv_aload_n hx hb dL_law_325 rfl (lv_at hl 1 rfl) ?_
  refine lv_aload_n hx hb dL_law_326 rfl (lv_at hl 3 rfl) ?_
  refine lv_iload_n hx hb dL_law_327 rfl (lv_at hl 0 rfl) ?_
  refine lv_iconst (v := 1) hx hb dL_law_328 (by decide) ?_
  refine lv_iadd hx hb dL_law_329 ?_
  refine va_sld hx hb hX hbl hbA hS hin1 dL_law_330 ?_
  refine lv_aload_n hx hb dL_law_331 rfl (lv_at hl 3 rfl) ?_
  refine lv_iload_n hx hb dL_law_332 rfl (lv_at hl 0 rfl) ?_
  refine lv_iconst (v := 2) hx hb dL_law_333 (by decide) ?_
  refine lv_iadd hx hb dL_law_334 ?_
  refine va_sld hx hb hX hbl hbA hS hin2 dL_law_335 ?_
  refine g_priv (ci := 9) (cq := (RX9, TX9, 13)) (As := [.int (xs (((nI i) + 1)).toNatClampNeg), .int (xs (((nI i) + 2)).toNatClampNeg)]) (rest := [.int (mDays sc ar (xs (((nI i) + 1)).toNatClampNeg) (xs (((nI i) + 2)).toNatClampNeg))]) pwL_46 X (c_X9_daysLeft l D cI cZ cP 2 (by decide) hm hI.1 hI.2.1 (xs (((nI i) + 1)).toNatClampNeg) (xs (((nI i) + 2)).toNatClampNeg)) hP hD hS hA hm.1 rfl rfl ⟨by show _ ≤ 10; omega, by show _ ≤ 344; omega⟩ rfl hl.1 rfl (Nat.le_of_ble_eq_true rfl) dL_law_336 ⟨by show _ ≤ 667234; omega, by show _ ≤ 7100547; omega⟩ (kI fun H locs hP hD hS => ?_)
  refine W.eq (g2 := F0 m 339 L [.int (mDays sc ar (xs (((nI i) + 1)).toNatClampNeg) (xs (((nI i) + 2)).toNatClampNeg)), .int (mDays sc ar (xs (((nI i) + 1)).toNatClampNeg) (xs (((nI i) + 2)).toNatClampNeg))]) rfl ?_
  refine lv_icmp_eq (tgt := 469) hx hb dL_law_339 (by decide) (fun _ => ?_) (fun c9 => absurd rfl c9)
  refine W.widen (k := cells + 1) (n := slots + 5) (by omega) (by omega) ?_
  exact kk ws H locs ⟨hP, hD, hS, p0, p1, ha, row, pv, q, ad, sc, ar, n, hO, hm, hI⟩
set_option maxHeartbeats 4000000 in
set_option maxRecDepth 100000 in
theorem lw_c8 (X : Cx p m c meth s #[Value.ref b] RL code 4 rt D (vTy cI cZ cP)) (hX : va_X b Ls xs s s.heap) (hbl : b < s.heap.size) (hL : Ls ≤ 1536) (hi : i + 3 ≤ Ls) (hc1 : cells + 1 ≤ 667234) (hs1 : slots + 5 ≤ 7100547) (hl : lv_has L 4 [(3, .int (nI i)), (2, .ref h1), (1, .ref h0), (0, .ref b)]) (hW : lwI cI cZ cP D s h0 h1 ws H locs) (kk : ∀ (ws : va_W) (H : Heap) (locs : List Loc), lwI cI cZ cP D s h0 h1 ws H locs → W p l e room_1 s m #[Value.ref b] below meth c H locs (cells + 1) (slots + 5) Q (F0 m 469 L [])) : W p l e room_1 s m #[Value.ref b] below meth c H locs cells slots Q (F0 m 344 L []) := by
  obtain ⟨hx, hb, hr, hml, hown, hts, hK, hlk, hxK⟩ := id X
  obtain ⟨hP, hD, hS, p0, p1, ha, row, pv, q, ad, sc, ar, n, hO, hm, hI⟩ := hW
  have hA : ∀ q : Nat, s.heap.size ≤ q → (fun q : Nat => s.heap.size ≤ q) q := fun _ h => h
  have hbA : ¬ (fun q : Nat => s.heap.size ≤ q) b := Nat.not_le.mpr hbl
  have hin1 : vp_in (nI i + 1) Ls := by rw [nI_1]; exact vp_in_nI (by omega) (by omega)
  have hin2 : vp_in (nI i + 2) Ls := by rw [show (2 : Int32) = nI 2 from rfl, nI_add]; exact vp_in_nI (by omega) (by omega)
  refine lv_aload_n hx hb dL_law_344 rfl (lv_at hl 2 rfl) ?_
  refine g_priv (ci := 8) (cq := (RX8, TX8, 7)) (As := []) (rest := []) pwL_47 X (c_X8_lapse l D cI cZ cP 2 (by decide) hO hI) hP hD hS hA hO.1 rfl rfl ⟨by show _ ≤ 10; omega, by show _ ≤ 344; omega⟩ rfl hl.1 rfl (Nat.le_of_ble_eq_true rfl) dL_law_345 ⟨by show _ ≤ 667234; omega, by show _ ≤ 7100547; omega⟩ (fun v9 ws9 H locs hq hP hD hS => ?_)
  obtain ⟨ev9, ⟨p0, p1, ha, n9, row, pv, hO9, hn9, h409⟩, hfr⟩ := hq
  subst ev9
  have hm := mo_at_fr hm hfr
  refine W.eq (g2 := F0 m 348 L [.int (mLapse sc ar).1]) rfl ?_
  refine lv_aload_n hx hb dL_law_348 rfl (lv_at hl 1 rfl) ?_
  refine g_priv (ci := 9) (cq := (RX9, TX9, 13)) (As := []) (rest := [.int (mLapse sc ar).1]) pwL_51 X (c_X9_lapse l D cI cZ cP 1 (by decide) hm hI.1 hI.2.1) hP hD hS hA hm.1 rfl rfl ⟨by show _ ≤ 10; omega, by show _ ≤ 344; omega⟩ rfl hl.1 rfl (Nat.le_of_ble_eq_true rfl) dL_law_349 ⟨by show _ ≤ 667234; omega, by show _ ≤ 7100547; omega⟩ (fun v9 ws9 H locs hq hP hD hS => ?_)
  obtain ⟨ev8, hm8, hfr8⟩ := hq
  subst ev8
  have hO8 := of_at_fr hO9 hfr8
  refine W.eq (g2 := F0 m 352 L [.int (mLapse sc ar).1, .int (mLapse sc ar).1]) rfl ?_
  refine lv_icmp_eq (tgt := 469) hx hb dL_law_352 (by decide) (fun _ => ?_) (fun c9 => absurd rfl c9)
  refine W.widen (k := cells + 1) (n := slots + 5) (by omega) (by omega) ?_
  have hI7 := inv_lapse hI 
  have en := n_one hI7.1 hn9 hI7.2.1 h409
  subst en
  exact kk _ H locs ⟨hP, hD, hS, p0, p1, ha, row, pv, q, ad, _, _, n, hO8, hm8, hI7⟩
set_option maxHeartbeats 4000000 in
set_option maxRecDepth 100000 in
theorem lw_c9 (X : Cx p m c meth s #[Value.ref b] RL code 4 rt D (vTy cI cZ cP)) (hX : va_X b Ls xs s s.heap) (hbl : b < s.heap.size) (hL : Ls ≤ 1536) (hi : i + 3 ≤ Ls) (hc1 : cells + 1 ≤ 667234) (hs1 : slots + 5 ≤ 7100547) (hl : lv_has L 4 [(3, .int (nI i)), (2, .ref h1), (1, .ref h0), (0, .ref b)]) (hW : lwI cI cZ cP D s h0 h1 ws H locs) (kk : ∀ (ws : va_W) (H : Heap) (locs : List Loc), lwI cI cZ cP D s h0 h1 ws H locs → W p l e room_1 s m #[Value.ref b] below meth c H locs (cells + 1) (slots + 5) Q (F0 m 469 L [])) : W p l e room_1 s m #[Value.ref b] below meth c H locs cells slots Q (F0 m 357 L []) := by
  obtain ⟨hx, hb, hr, hml, hown, hts, hK, hlk, hxK⟩ := id X
  obtain ⟨hP, hD, hS, p0, p1, ha, row, pv, q, ad, sc, ar, n, hO, hm, hI⟩ := hW
  have hA : ∀ q : Nat, s.heap.size ≤ q → (fun q : Nat => s.heap.size ≤ q) q := fun _ h => h
  have hbA : ¬ (fun q : Nat => s.heap.size ≤ q) b := Nat.not_le.mpr hbl
  have hin1 : vp_in (nI i + 1) Ls := by rw [nI_1]; exact vp_in_nI (by omega) (by omega)
  have hin2 : vp_in (nI i + 2) Ls := by rw [show (2 : Int32) = nI 2 from rfl, nI_add]; exact vp_in_nI (by omega) (by omega)
  refine lv_aload_n hx hb dL_law_357 rfl (lv_at hl 2 rfl) ?_
  refine lv_aload_n hx hb dL_law_358 rfl (lv_at hl 3 rfl) ?_
  refine lv_iload_n hx hb dL_law_359 rfl (lv_at hl 0 rfl) ?_
  refine lv_iconst (v := 1) hx hb dL_law_360 (by decide) ?_
  refine lv_iadd hx hb dL_law_361 ?_
  refine va_sld hx hb hX hbl hbA hS hin1 dL_law_362 ?_
  refine lv_aload_n hx hb dL_law_363 rfl (lv_at hl 3 rfl) ?_
  refine lv_iload_n hx hb dL_law_364 rfl (lv_at hl 0 rfl) ?_
  refine lv_iconst (v := 2) hx hb dL_law_365 (by decide) ?_
  refine lv_iadd hx hb dL_law_366 ?_
  refine va_sld hx hb hX hbl hbA hS hin2 dL_law_367 ?_
  refine g_priv (ci := 8) (cq := (RX8, TX8, 7)) (As := [.int (xs (((nI i) + 1)).toNatClampNeg), .int (xs (((nI i) + 2)).toNatClampNeg)]) (rest := []) pwL_52 X (c_X8_merge l D cI cZ cP 2 (by decide) hO hI (xs (((nI i) + 1)).toNatClampNeg) (xs (((nI i) + 2)).toNatClampNeg)) hP hD hS hA hO.1 rfl rfl ⟨by show _ ≤ 10; omega, by show _ ≤ 344; omega⟩ rfl hl.1 rfl (Nat.le_of_ble_eq_true rfl) dL_law_368 ⟨by show _ ≤ 667234; omega, by show _ ≤ 7100547; omega⟩ (fun v9 ws9 H locs hq hP hD hS => ?_)
  obtain ⟨ev9, ⟨p0, p1, ha, n9, row, pv, hO9, hn9, h409⟩, hfr⟩ := hq
  subst ev9
  have hm := mo_at_fr hm hfr
  refine W.eq (g2 := F0 m 371 L [.int (mMerge sc ar (xs (((nI i) + 1)).toNatClampNeg) (xs (((nI i) + 2)).toNatClampNeg)).1]) rfl ?_
  refine lv_aload_n hx hb dL_law_371 rfl (lv_at hl 1 rfl) ?_
  refine lv_aload_n hx hb dL_law_372 rfl (lv_at hl 3 rfl) ?_
  refine lv_iload_n hx hb dL_law_373 rfl (lv_at hl 0 rfl) ?_
  refine lv_iconst (v := 1) hx hb dL_law_374 (by decide) ?_
  refine lv_iadd hx hb dL_law_375 ?_
  refine va_sld hx hb hX hbl hbA hS hin1 dL_law_376 ?_
  refine lv_aload_n hx hb dL_law_377 rfl (lv_at hl 3 rfl) ?_
  refine lv_iload_n hx hb dL_law_378 rfl (lv_at hl 0 rfl) ?_
  refine lv_iconst (v := 2) hx hb dL_law_379 (by decide) ?_
  refine lv_iadd hx hb dL_law_380 ?_
  refine va_sld hx hb hX hbl hbA hS hin2 dL_law_381 ?_
  refine g_priv (ci := 9) (cq := (RX9, TX9, 13)) (As := [.int (xs (((nI i) + 1)).toNatClampNeg), .int (xs (((nI i) + 2)).toNatClampNeg)]) (rest := [.int (mMerge sc ar (xs (((nI i) + 1)).toNatClampNeg) (xs (((nI i) + 2)).toNatClampNeg)).1]) pwL_55 X (c_X9_merge l D cI cZ cP 2 (by decide) hm hI.1 hI.2.1 (xs (((nI i) + 1)).toNatClampNeg) (xs (((nI i) + 2)).toNatClampNeg)) hP hD hS hA hm.1 rfl rfl ⟨by show _ ≤ 10; omega, by show _ ≤ 344; omega⟩ rfl hl.1 rfl (Nat.le_of_ble_eq_true rfl) dL_law_382 ⟨by show _ ≤ 667234; omega, by show _ ≤ 7100547; omega⟩ (fun v9 ws9 H locs hq hP hD hS => ?_)
  obtain ⟨ev8, hm8, hfr8⟩ := hq
  subst ev8
  have hO8 := of_at_fr hO9 hfr8
  refine W.eq (g2 := F0 m 385 L [.int (mMerge sc ar (xs (((nI i) + 1)).toNatClampNeg) (xs (((nI i) + 2)).toNatClampNeg)).1, .int (mMerge sc ar (xs (((nI i) + 1)).toNatClampNeg) (xs (((nI i) + 2)).toNatClampNeg)).1]) rfl ?_
  refine lv_icmp_eq (tgt := 469) hx hb dL_law_385 (by decide) (fun _ => ?_) (fun c9 => absurd rfl c9)
  refine W.widen (k := cells + 1) (n := slots + 5) (by omega) (by omega) ?_
  have hI7 := inv_merge hI (xs (((nI i) + 1)).toNatClampNeg) (xs (((nI i) + 2)).toNatClampNeg)
  have en := n_one hI7.1 hn9 hI7.2.1 h409
  subst en
  exact kk _ H locs ⟨hP, hD, hS, p0, p1, ha, row, pv, q, ad, _, _, n, hO8, hm8, hI7⟩
set_option maxHeartbeats 4000000 in
set_option maxRecDepth 100000 in
theorem lw_c10 (X : Cx p m c meth s #[Value.ref b] RL code 4 rt D (vTy cI cZ cP)) (hX : va_X b Ls xs s s.heap) (hbl : b < s.heap.size) (hL : Ls ≤ 1536) (hi : i + 3 ≤ Ls) (hc1 : cells + 1 ≤ 667234) (hs1 : slots + 5 ≤ 7100547) (hl : lv_has L 4 [(3, .int (nI i)), (2, .ref h1), (1, .ref h0), (0, .ref b)]) (hW : lwI cI cZ cP D s h0 h1 ws H locs) (kk : ∀ (ws : va_W) (H : Heap) (locs : List Loc), lwI cI cZ cP D s h0 h1 ws H locs → W p l e room_1 s m #[Value.ref b] below meth c H locs (cells + 1) (slots + 5) Q (F0 m 469 L [])) : W p l e room_1 s m #[Value.ref b] below meth c H locs cells slots Q (F0 m 390 L []) := by
  obtain ⟨hx, hb, hr, hml, hown, hts, hK, hlk, hxK⟩ := id X
  obtain ⟨hP, hD, hS, p0, p1, ha, row, pv, q, ad, sc, ar, n, hO, hm, hI⟩ := hW
  have hA : ∀ q : Nat, s.heap.size ≤ q → (fun q : Nat => s.heap.size ≤ q) q := fun _ h => h
  have hbA : ¬ (fun q : Nat => s.heap.size ≤ q) b := Nat.not_le.mpr hbl
  have hin1 : vp_in (nI i + 1) Ls := by rw [nI_1]; exact vp_in_nI (by omega) (by omega)
  have hin2 : vp_in (nI i + 2) Ls := by rw [show (2 : Int32) = nI 2 from rfl, nI_add]; exact vp_in_nI (by omega) (by omega)
  refine lv_aload_n hx hb dL_law_390 rfl (lv_at hl 2 rfl) ?_
  refine lv_aload_n hx hb dL_law_391 rfl (lv_at hl 3 rfl) ?_
  refine lv_iload_n hx hb dL_law_392 rfl (lv_at hl 0 rfl) ?_
  refine lv_iconst (v := 1) hx hb dL_law_393 (by decide) ?_
  refine lv_iadd hx hb dL_law_394 ?_
  refine va_sld hx hb hX hbl hbA hS hin1 dL_law_395 ?_
  refine g_priv (ci := 8) (cq := (RX8, TX8, 7)) (As := [.int (xs (((nI i) + 1)).toNatClampNeg)]) (rest := []) pwL_56 X (c_X8_total l D cI cZ cP 4 (by decide) hO hI (xs (((nI i) + 1)).toNatClampNeg)) hP hD hS hA hO.1 rfl rfl ⟨by show _ ≤ 10; omega, by show _ ≤ 344; omega⟩ rfl hl.1 rfl (Nat.le_of_ble_eq_true rfl) dL_law_396 ⟨by show _ ≤ 667234; omega, by show _ ≤ 7100547; omega⟩ (kI fun H locs hP hD hS => ?_)
  refine W.eq (g2 := F0 m 399 L [.int (mTotal sc ar (xs (((nI i) + 1)).toNatClampNeg))]) rfl ?_
  refine lv_aload_n hx hb dL_law_399 rfl (lv_at hl 1 rfl) ?_
  refine lv_aload_n hx hb dL_law_400 rfl (lv_at hl 3 rfl) ?_
  refine lv_iload_n hx hb dL_law_401 rfl (lv_at hl 0 rfl) ?_
  refine lv_iconst (v := 1) hx hb dL_law_402 (by decide) ?_
  refine lv_iadd hx hb dL_law_403 ?_
  refine va_sld hx hb hX hbl hbA hS hin1 dL_law_404 ?_
  refine g_priv (ci := 9) (cq := (RX9, TX9, 13)) (As := [.int (xs (((nI i) + 1)).toNatClampNeg)]) (rest := [.int (mTotal sc ar (xs (((nI i) + 1)).toNatClampNeg))]) pwL_59 X (c_X9_total l D cI cZ cP 2 (by decide) hm hI.1 hI.2.1 (xs (((nI i) + 1)).toNatClampNeg)) hP hD hS hA hm.1 rfl rfl ⟨by show _ ≤ 10; omega, by show _ ≤ 344; omega⟩ rfl hl.1 rfl (Nat.le_of_ble_eq_true rfl) dL_law_405 ⟨by show _ ≤ 667234; omega, by show _ ≤ 7100547; omega⟩ (kI fun H locs hP hD hS => ?_)
  refine W.eq (g2 := F0 m 408 L [.int (mTotal sc ar (xs (((nI i) + 1)).toNatClampNeg)), .int (mTotal sc ar (xs (((nI i) + 1)).toNatClampNeg))]) rfl ?_
  refine lv_icmp_eq (tgt := 469) hx hb dL_law_408 (by decide) (fun _ => ?_) (fun c9 => absurd rfl c9)
  refine W.widen (k := cells + 1) (n := slots + 5) (by omega) (by omega) ?_
  exact kk ws H locs ⟨hP, hD, hS, p0, p1, ha, row, pv, q, ad, sc, ar, n, hO, hm, hI⟩
set_option maxHeartbeats 4000000 in
set_option maxRecDepth 100000 in
theorem lw_c11 (X : Cx p m c meth s #[Value.ref b] RL code 4 rt D (vTy cI cZ cP)) (hX : va_X b Ls xs s s.heap) (hbl : b < s.heap.size) (hL : Ls ≤ 1536) (hi : i + 3 ≤ Ls) (hc1 : cells + 1 ≤ 667234) (hs1 : slots + 5 ≤ 7100547) (hl : lv_has L 4 [(3, .int (nI i)), (2, .ref h1), (1, .ref h0), (0, .ref b)]) (hW : lwI cI cZ cP D s h0 h1 ws H locs) (kk : ∀ (ws : va_W) (H : Heap) (locs : List Loc), lwI cI cZ cP D s h0 h1 ws H locs → W p l e room_1 s m #[Value.ref b] below meth c H locs (cells + 1) (slots + 5) Q (F0 m 469 L [])) : W p l e room_1 s m #[Value.ref b] below meth c H locs cells slots Q (F0 m 413 L []) := by
  obtain ⟨hx, hb, hr, hml, hown, hts, hK, hlk, hxK⟩ := id X
  obtain ⟨hP, hD, hS, p0, p1, ha, row, pv, q, ad, sc, ar, n, hO, hm, hI⟩ := hW
  have hA : ∀ q : Nat, s.heap.size ≤ q → (fun q : Nat => s.heap.size ≤ q) q := fun _ h => h
  have hbA : ¬ (fun q : Nat => s.heap.size ≤ q) b := Nat.not_le.mpr hbl
  have hin1 : vp_in (nI i + 1) Ls := by rw [nI_1]; exact vp_in_nI (by omega) (by omega)
  have hin2 : vp_in (nI i + 2) Ls := by rw [show (2 : Int32) = nI 2 from rfl, nI_add]; exact vp_in_nI (by omega) (by omega)
  refine lv_aload_n hx hb dL_law_413 rfl (lv_at hl 2 rfl) ?_
  refine lv_aload_n hx hb dL_law_414 rfl (lv_at hl 3 rfl) ?_
  refine lv_iload_n hx hb dL_law_415 rfl (lv_at hl 0 rfl) ?_
  refine lv_iconst (v := 1) hx hb dL_law_416 (by decide) ?_
  refine lv_iadd hx hb dL_law_417 ?_
  refine va_sld hx hb hX hbl hbA hS hin1 dL_law_418 ?_
  refine lv_aload_n hx hb dL_law_419 rfl (lv_at hl 3 rfl) ?_
  refine lv_iload_n hx hb dL_law_420 rfl (lv_at hl 0 rfl) ?_
  refine lv_iconst (v := 2) hx hb dL_law_421 (by decide) ?_
  refine lv_iadd hx hb dL_law_422 ?_
  refine va_sld hx hb hX hbl hbA hS hin2 dL_law_423 ?_
  refine g_priv (ci := 8) (cq := (RX8, TX8, 7)) (As := [.int (xs (((nI i) + 1)).toNatClampNeg), .int (xs (((nI i) + 2)).toNatClampNeg)]) (rest := []) pwL_60 X (c_X8_paper l D cI cZ cP 2 (by decide) hO hI (xs (((nI i) + 1)).toNatClampNeg) (xs (((nI i) + 2)).toNatClampNeg)) hP hD hS hA hO.1 rfl rfl ⟨by show _ ≤ 10; omega, by show _ ≤ 344; omega⟩ rfl hl.1 rfl (Nat.le_of_ble_eq_true rfl) dL_law_424 ⟨by show _ ≤ 667234; omega, by show _ ≤ 7100547; omega⟩ (kI fun H locs hP hD hS => ?_)
  refine W.eq (g2 := F0 m 427 L [.int (mPaper sc ar (xs (((nI i) + 1)).toNatClampNeg) (xs (((nI i) + 2)).toNatClampNeg))]) rfl ?_
  refine lv_aload_n hx hb dL_law_427 rfl (lv_at hl 1 rfl) ?_
  refine lv_aload_n hx hb dL_law_428 rfl (lv_at hl 3 rfl) ?_
  refine lv_iload_n hx hb dL_law_429 rfl (lv_at hl 0 rfl) ?_
  refine lv_iconst (v := 1) hx hb dL_law_430 (by decide) ?_
  refine lv_iadd hx hb dL_law_431 ?_
  refine va_sld hx hb hX hbl hbA hS hin1 dL_law_432 ?_
  refine lv_aload_n hx hb dL_law_433 rfl (lv_at hl 3 rfl) ?_
  refine lv_iload_n hx hb dL_law_434 rfl (lv_at hl 0 rfl) ?_
  refine lv_iconst (v := 2) hx hb dL_law_435 (by decide) ?_
  refine lv_iadd hx hb dL_law_436 ?_
  refine va_sld hx hb hX hbl hbA hS hin2 dL_law_437 ?_
  refine g_priv (ci := 9) (cq := (RX9, TX9, 13)) (As := [.int (xs (((nI i) + 1)).toNatClampNeg), .int (xs (((nI i) + 2)).toNatClampNeg)]) (rest := [.int (mPaper sc ar (xs (((nI i) + 1)).toNatClampNeg) (xs (((nI i) + 2)).toNatClampNeg))]) pwL_63 X (c_X9_paper l D cI cZ cP 2 (by decide) hm hI.1 hI.2.1 (xs (((nI i) + 1)).toNatClampNeg) (xs (((nI i) + 2)).toNatClampNeg)) hP hD hS hA hm.1 rfl rfl ⟨by show _ ≤ 10; omega, by show _ ≤ 344; omega⟩ rfl hl.1 rfl (Nat.le_of_ble_eq_true rfl) dL_law_438 ⟨by show _ ≤ 667234; omega, by show _ ≤ 7100547; omega⟩ (kI fun H locs hP hD hS => ?_)
  refine W.eq (g2 := F0 m 441 L [.int (mPaper sc ar (xs (((nI i) + 1)).toNatClampNeg) (xs (((nI i) + 2)).toNatClampNeg)), .int (mPaper sc ar (xs (((nI i) + 1)).toNatClampNeg) (xs (((nI i) + 2)).toNatClampNeg))]) rfl ?_
  refine lv_icmp_eq (tgt := 469) hx hb dL_law_441 (by decide) (fun _ => ?_) (fun c9 => absurd rfl c9)
  refine W.widen (k := cells + 1) (n := slots + 5) (by omega) (by omega) ?_
  exact kk ws H locs ⟨hP, hD, hS, p0, p1, ha, row, pv, q, ad, sc, ar, n, hO, hm, hI⟩
set_option maxHeartbeats 4000000 in
set_option maxRecDepth 100000 in
theorem lw_c12 (X : Cx p m c meth s #[Value.ref b] RL code 4 rt D (vTy cI cZ cP)) (hX : va_X b Ls xs s s.heap) (hbl : b < s.heap.size) (hL : Ls ≤ 1536) (hi : i + 3 ≤ Ls) (hc1 : cells + 1 ≤ 667234) (hs1 : slots + 5 ≤ 7100547) (hl : lv_has L 4 [(3, .int (nI i)), (2, .ref h1), (1, .ref h0), (0, .ref b)]) (hW : lwI cI cZ cP D s h0 h1 ws H locs) (kk : ∀ (ws : va_W) (H : Heap) (locs : List Loc), lwI cI cZ cP D s h0 h1 ws H locs → W p l e room_1 s m #[Value.ref b] below meth c H locs (cells + 1) (slots + 5) Q (F0 m 469 L [])) : W p l e room_1 s m #[Value.ref b] below meth c H locs cells slots Q (F0 m 446 L []) := by
  obtain ⟨hx, hb, hr, hml, hown, hts, hK, hlk, hxK⟩ := id X
  obtain ⟨hP, hD, hS, p0, p1, ha, row, pv, q, ad, sc, ar, n, hO, hm, hI⟩ := hW
  have hA : ∀ q : Nat, s.heap.size ≤ q → (fun q : Nat => s.heap.size ≤ q) q := fun _ h => h
  have hbA : ¬ (fun q : Nat => s.heap.size ≤ q) b := Nat.not_le.mpr hbl
  have hin1 : vp_in (nI i + 1) Ls := by rw [nI_1]; exact vp_in_nI (by omega) (by omega)
  have hin2 : vp_in (nI i + 2) Ls := by rw [show (2 : Int32) = nI 2 from rfl, nI_add]; exact vp_in_nI (by omega) (by omega)
  refine lv_aload_n hx hb dL_law_446 rfl (lv_at hl 2 rfl) ?_
  refine lv_aload_n hx hb dL_law_447 rfl (lv_at hl 3 rfl) ?_
  refine lv_iload_n hx hb dL_law_448 rfl (lv_at hl 0 rfl) ?_
  refine lv_iconst (v := 1) hx hb dL_law_449 (by decide) ?_
  refine lv_iadd hx hb dL_law_450 ?_
  refine va_sld hx hb hX hbl hbA hS hin1 dL_law_451 ?_
  refine g_priv (ci := 8) (cq := (RX8, TX8, 7)) (As := [.int (xs (((nI i) + 1)).toNatClampNeg)]) (rest := []) pwL_64 X (c_X8_count l D cI cZ cP 3 (by decide) hO hI (xs (((nI i) + 1)).toNatClampNeg)) hP hD hS hA hO.1 rfl rfl ⟨by show _ ≤ 10; omega, by show _ ≤ 344; omega⟩ rfl hl.1 rfl (Nat.le_of_ble_eq_true rfl) dL_law_452 ⟨by show _ ≤ 667234; omega, by show _ ≤ 7100547; omega⟩ (kI fun H locs hP hD hS => ?_)
  refine W.eq (g2 := F0 m 455 L [.int (mCount sc ar (xs (((nI i) + 1)).toNatClampNeg))]) rfl ?_
  refine lv_aload_n hx hb dL_law_455 rfl (lv_at hl 1 rfl) ?_
  refine lv_aload_n hx hb dL_law_456 rfl (lv_at hl 3 rfl) ?_
  refine lv_iload_n hx hb dL_law_457 rfl (lv_at hl 0 rfl) ?_
  refine lv_iconst (v := 1) hx hb dL_law_458 (by decide) ?_
  refine lv_iadd hx hb dL_law_459 ?_
  refine va_sld hx hb hX hbl hbA hS hin1 dL_law_460 ?_
  refine g_priv (ci := 9) (cq := (RX9, TX9, 13)) (As := [.int (xs (((nI i) + 1)).toNatClampNeg)]) (rest := [.int (mCount sc ar (xs (((nI i) + 1)).toNatClampNeg))]) pwL_67 X (c_X9_count l D cI cZ cP 2 (by decide) hm hI.1 hI.2.1 (xs (((nI i) + 1)).toNatClampNeg)) hP hD hS hA hm.1 rfl rfl ⟨by show _ ≤ 10; omega, by show _ ≤ 344; omega⟩ rfl hl.1 rfl (Nat.le_of_ble_eq_true rfl) dL_law_461 ⟨by show _ ≤ 667234; omega, by show _ ≤ 7100547; omega⟩ (kI fun H locs hP hD hS => ?_)
  refine W.eq (g2 := F0 m 464 L [.int (mCount sc ar (xs (((nI i) + 1)).toNatClampNeg)), .int (mCount sc ar (xs (((nI i) + 1)).toNatClampNeg))]) rfl ?_
  refine lv_icmp_eq (tgt := 469) hx hb dL_law_464 (by decide) (fun _ => ?_) (fun c9 => absurd rfl c9)
  refine W.widen (k := cells + 1) (n := slots + 5) (by omega) (by omega) ?_
  exact kk ws H locs ⟨hP, hD, hS, p0, p1, ha, row, pv, q, ad, sc, ar, n, hO, hm, hI⟩
end LC
end
section
theorem iwL_9 : IW RL 9 yX8_init cX8_init 1 0 := ⟨mw_14, mw_15, mw_1, mw_16, rfl, by decide +kernel⟩
theorem iwL_12 : IW RL 12 yX9_init cX9_init 1 0 := ⟨mw_445, mw_446, mw_2, mw_447, rfl, by decide +kernel⟩
theorem lw_ix {i L : Nat} (hi : i ≤ 1536) (hL : L ≤ 1536) (h : ¬ nI L - 3 < nI i) : i + 3 ≤ L := by
  rw [Int32.lt_iff_toInt_lt, show (3 : Int32) = nI 3 from rfl, pk_sub_toInt (by omega) (by decide), nI_toInt (by omega)] at h
  omega
set_option maxHeartbeats 4000000 in
set_option maxRecDepth 100000 in
/-- the law's loop -/
theorem law_loop {p : Program} {l : Launch} {e : Env} {s : State} {m : MethodId} {below : List Frame} {meth : Method} {c : Code} {D : va_G} {cI cZ cP : ClassId} {b Ls : Nat} {xs : Nat → Int32} (hL : Ls ≤ 1536) (X : Cx p m c meth s #[Value.ref b] RL code 4 ret D (vTy cI cZ cP)) (hX : va_X b Ls xs s s.heap) (hbl : b < s.heap.size) (h0 h1 : Nat) :
    ∀ (j i : Nat), i ≤ Ls → Ls + 1 ≤ i + j → ∀ (ws : va_W) (H : Heap) (locs : List Loc) (L : Array Slot), lwI cI cZ cP D s h0 h1 ws H locs → lv_has L 4 [(3, .int (nI i)), (2, .ref h1), (1, .ref h0), (0, .ref b)] → W p l e room_1 s m #[Value.ref b] below meth c H locs (12 + i) (1000 + 2 * i) (lw_Z below #[Value.ref b] s) (F0 m 18 L []) := by
  obtain ⟨hx, hb, hr, hml, hown, hts, hK, hlk, hxK⟩ := id X
  have hbA : ¬ (fun q : Nat => s.heap.size ≤ q) b := Nat.not_le.mpr hbl
  intro j
  induction j with
  | zero =>
    intro i h1 h2
    exact absurd h2 (by omega)
  | succ j ih =>
    intro i hi hij ws H locs L hW hl
    have hS := hW.2.2.1
    refine lv_iload_n hx hb dL_law_18 rfl (lv_at hl 0 rfl) ?_
    refine lv_aload_n hx hb dL_law_19 rfl (lv_at hl 3 rfl) ?_
    refine va_slen hx hb hX hbl hbA hS dL_law_20 ?_
    refine lv_iconst (v := 3) hx hb dL_law_21 (by decide) ?_
    refine lv_isub hx hb dL_law_22 ?_
    refine lv_icmp_gt (tgt := 475) hx hb dL_law_23 (by decide) (fun c_23 => ?_) (fun c_23 => ?_)
    · refine lv_iconst (v := 1) hx hb dL_law_475 (by decide) ?_
      refine va_forget (fun q hq => hS.2.2 q hq) ?_
      refine W.widen (k := 667234) (n := 7100547) (by omega) (by omega) ?_
      exact lw_ret hx hb hr hlk dL_law_476
    · have hi3 : i + 3 ≤ Ls := lw_ix (by omega) hL c_23
      have hin0 : vp_in (nI i) Ls := vp_in_nI (by omega) (by omega)
      refine lv_aload_n hx hb dL_law_26 rfl (lv_at hl 3 rfl) ?_
      refine lv_iload_n hx hb dL_law_27 rfl (lv_at hl 0 rfl) ?_
      refine va_sld hx hb hX hbl hbA hS hin0 dL_law_28 ?_
      refine lv_bipush (v := 15) hx hb dL_law_29 (by decide) ?_
      refine lv_iand hx hb dL_law_31 ?_
      have kend : ∀ (ws : va_W) (H : Heap) (locs : List Loc), lwI cI cZ cP D s h0 h1 ws H locs → W p l e room_1 s m #[Value.ref b] below meth c H locs (12 + i + 1) (1000 + 2 * i + 5) (lw_Z below #[Value.ref b] s) (F0 m 469 L []) := by
        intro ws H locs hW
        refine lv_iinc (v := nI i + 3) (lv' := [(3, .int (nI i + 3)), (2, .ref h1), (1, .ref h0), (0, .ref b)]) hx hb dL_law_469 hl (k := 0) rfl rfl (by decide) rfl (fun L hl => ?_)
        refine lv_goto (tgt := 18) hx hb dL_law_472 (by decide) ?_
        refine W.widen (k := 12 + (i + 3)) (n := 1000 + 2 * (i + 3)) (by omega) (by omega) ?_
        refine ih (i + 3) (by omega) (by omega) ws H locs L hW ?_
        rw [← nI_add]
        exact hl
      obtain ⟨z, hz, ez⟩ := pk_andE (xs (nI i).toNatClampNeg) (m := 15) 4 (by decide)
      rw [ez]
      rcases (by omega : z = 0 ∨ z = 1 ∨ z = 2 ∨ z = 3 ∨ z = 4 ∨ z = 5 ∨ z = 6 ∨ z = 7 ∨ z = 8 ∨ z = 9 ∨ z = 10 ∨ z = 11 ∨ z = 12 ∨ z = 13 ∨ z = 14 ∨ z = 15) with rfl | rfl | rfl | rfl | rfl | rfl | rfl | rfl | rfl | rfl | rfl | rfl | rfl | rfl | rfl | rfl
      · refine lv_tableIn (tgt := 100) (off := 68) hx hb dL_law_32 (by decide) (by decide) (by rfl) (by decide) ?_
        exact lw_c0 X hX hbl hL hi3 (by omega) (by omega) hl hW kend
      · refine lv_tableIn (tgt := 133) (off := 101) hx hb dL_law_32 (by decide) (by decide) (by rfl) (by decide) ?_
        exact lw_c1 X hX hbl hL hi3 (by omega) (by omega) hl hW kend
      · refine lv_tableIn (tgt := 156) (off := 124) hx hb dL_law_32 (by decide) (by decide) (by rfl) (by decide) ?_
        exact lw_c2 X hX hbl hL hi3 (by omega) (by omega) hl hW kend
      · refine lv_tableIn (tgt := 189) (off := 157) hx hb dL_law_32 (by decide) (by decide) (by rfl) (by decide) ?_
        exact lw_c3 X hX hbl hL hi3 (by omega) (by omega) hl hW kend
      · refine lv_tableIn (tgt := 222) (off := 190) hx hb dL_law_32 (by decide) (by decide) (by rfl) (by decide) ?_
        exact lw_c4 X hX hbl hL hi3 (by omega) (by omega) hl hW kend
      · refine lv_tableIn (tgt := 255) (off := 223) hx hb dL_law_32 (by decide) (by decide) (by rfl) (by decide) ?_
        exact lw_c5 X hX hbl hL hi3 (by omega) (by omega) hl hW kend
      · refine lv_tableIn (tgt := 278) (off := 246) hx hb dL_law_32 (by decide) (by decide) (by rfl) (by decide) ?_
        exact lw_c6 X hX hbl hL hi3 (by omega) (by omega) hl hW kend
      · refine lv_tableIn (tgt := 311) (off := 279) hx hb dL_law_32 (by decide) (by decide) (by rfl) (by decide) ?_
        exact lw_c7 X hX hbl hL hi3 (by omega) (by omega) hl hW kend
      · refine lv_tableIn (tgt := 344) (off := 312) hx hb dL_law_32 (by decide) (by decide) (by rfl) (by decide) ?_
        exact lw_c8 X hX hbl hL hi3 (by omega) (by omega) hl hW kend
      · refine lv_tableIn (tgt := 357) (off := 325) hx hb dL_law_32 (by decide) (by decide) (by rfl) (by decide) ?_
        exact lw_c9 X hX hbl hL hi3 (by omega) (by omega) hl hW kend
      · refine lv_tableIn (tgt := 390) (off := 358) hx hb dL_law_32 (by decide) (by decide) (by rfl) (by decide) ?_
        exact lw_c10 X hX hbl hL hi3 (by omega) (by omega) hl hW kend
      · refine lv_tableIn (tgt := 413) (off := 381) hx hb dL_law_32 (by decide) (by decide) (by rfl) (by decide) ?_
        exact lw_c11 X hX hbl hL hi3 (by omega) (by omega) hl hW kend
      · refine lv_tableIn (tgt := 446) (off := 414) hx hb dL_law_32 (by decide) (by decide) (by rfl) (by decide) ?_
        exact lw_c12 X hX hbl hL hi3 (by omega) (by omega) hl hW kend
      · refine lv_tableOut (tgt := 469) hx hb dL_law_32 (Or.inr (by decide)) (by decide) ?_
        refine W.widen (k := 12 + i + 1) (n := 1000 + 2 * i + 5) (by omega) (by omega) ?_
        exact kend ws H locs hW
      · refine lv_tableOut (tgt := 469) hx hb dL_law_32 (Or.inr (by decide)) (by decide) ?_
        refine W.widen (k := 12 + i + 1) (n := 1000 + 2 * i + 5) (by omega) (by omega) ?_
        exact kend ws H locs hW
      · refine lv_tableOut (tgt := 469) hx hb dL_law_32 (Or.inr (by decide)) (by decide) ?_
        refine W.widen (k := 12 + i + 1) (n := 1000 + 2 * i + 5) (by omega) (by omega) ?_
        exact kend ws H locs hW
set_option maxHeartbeats 4000000 in
set_option maxRecDepth 100000 in
/-- THE LAW, from its entry -/
theorem whole_start {p : Program} {e : Env} {s : State} {m : MethodId} {below : List Frame} {meth : Method} {c : Code} (l : Launch) {b L : Nat} {xs : Nat → Int32} (hL : L ≤ 1536) (C0 : lw_At p s m meth c b L xs) : W p l e room_1 s m #[Value.ref b] below meth c s.heap [] 0 0 (lw_Z below #[Value.ref b] s) (entryFrame m ([Value.ref b] : List Value).toArray 4) := by
  obtain ⟨hx, hb, hr, hml, hown, hts0, hX, hbl, hlocks, hgv⟩ := id C0
  have hts : ∀ w ∈ wd_big, w.before #[Value.ref b] s = true := fun w h => hts0 w (wd_lw h)
  have hA : ∀ q : Nat, s.heap.size ≤ q → (fun q : Nat => s.heap.size ≤ q) q := fun _ h => h
  obtain ⟨c0, iS0, hKn0⟩ := u_known (C := RX0) (T := TX0) (N := 4) (n := 4) hts in_X0 (hts _ mw_131)
  obtain ⟨c1, iS1, hKn1⟩ := u_known (C := RX1) (T := TX1) (N := 5) (n := 5) hts in_X1 (hts _ mw_158)
  obtain ⟨c2, iS2, hKn2⟩ := u_known (C := RX2) (T := TX2) (N := 4) (n := 4) hts in_X2 (hts _ mw_84)
  obtain ⟨c3, iS3, hKn3⟩ := u_known (C := RX3) (T := TX3) (N := 5) (n := 5) hts in_X3 (hts _ mw_142)
  obtain ⟨c4, iS4, hKn4⟩ := u_known (C := RX4) (T := TX4) (N := 4) (n := 4) hts in_X4 (hts _ mw_55)
  obtain ⟨c5, iS5, hKn5⟩ := u_known (C := RX5) (T := TX5) (N := 4) (n := 4) hts in_X5 (hts _ mw_120)
  obtain ⟨c6, iS6, hKn6⟩ := u_known (C := RX6) (T := TX6) (N := 4) (n := 4) hts in_X6 (hts _ mw_95)
  obtain ⟨c7, iS7, hKn7⟩ := u_known (C := RX7) (T := TX7) (N := 5) (n := 5) hts in_X7 (hts _ mw_106)
  obtain ⟨c8, iS8, hKn8⟩ := u_known (C := RX8) (T := TX8) (N := 7) (n := 7) hts in_X8 (hts _ mw_13)
  obtain ⟨c9, iS9, hKn9⟩ := u_known (C := RX9) (T := TX9) (N := 13) (n := 13) hts in_X9 (hts _ mw_444)
  obtain ⟨D, hKc⟩ : ∃ D : va_G, ∀ (k : Nat) (q : vw_C), vwCl[k]? = some q → u_Kn s q.1 q.2.1 q.2.2 (D.1 k) (D.2 k) := by
    refine ⟨(fun k => if k = 0 then c0 else if k = 1 then c1 else if k = 2 then c2 else if k = 3 then c3 else if k = 4 then c4 else if k = 5 then c5 else if k = 6 then c6 else if k = 7 then c7 else if k = 8 then c8 else c9, fun k => if k = 0 then iS0 else if k = 1 then iS1 else if k = 2 then iS2 else if k = 3 then iS3 else if k = 4 then iS4 else if k = 5 then iS5 else if k = 6 then iS6 else if k = 7 then iS7 else if k = 8 then iS8 else iS9), ?_⟩
    intro k q hq
    match k, hq with
    | 0, hq => cases hq; exact hKn0
    | 1, hq => cases hq; exact hKn1
    | 2, hq => cases hq; exact hKn2
    | 3, hq => cases hq; exact hKn3
    | 4, hq => cases hq; exact hKn4
    | 5, hq => cases hq; exact hKn5
    | 6, hq => cases hq; exact hKn6
    | 7, hq => cases hq; exact hKn7
    | 8, hq => cases hq; exact hKn8
    | 9, hq => cases hq; exact hKn9
    | k + 10, hq => simp [vwCl] at hq
  obtain ⟨cI, kI_, coI, fI1, fI2, fI3⟩ := Cond.arrayClass_spec (hts (.arrayClass .int) mw_489)
  obtain ⟨cZ, kZ_, coZ, fZ1, fZ2, fZ3⟩ := Cond.arrayClass_spec (hts (.arrayClass .boolean) mw_490)
  have hin9 : ∀ {w : Cond} {i : Nat}, tables_1[i]? = some w → w.before #[Value.ref b] s = true := fun {w i} h => hts0 w (List.mem_append_right _ (List.mem_of_getElem? h))
  have hao : (Cond.arrayOver (.object "VoucherOffice$Plain")).before #[Value.ref b] s = true := hin9 (i := 21) (by decide +kernel)
  obtain ⟨coP, cP, kP_, fP1, -, fP3, fP4, fP5⟩ := Cond.arrayOver_spec hao
  have hxK : xK s := ⟨va_AO.of hao, va_any rfl (hin9 (w := .castable "VoucherOffice$Gift" "VoucherOffice$Plain") (i := 583) (by decide +kernel)), va_any rfl (hin9 (w := .castable "VoucherOffice$Season" "VoucherOffice$Plain") (i := 586) (by decide +kernel)), va_any rfl (hin9 (w := .castable "VoucherOffice$Staff" "VoucherOffice$Plain") (i := 587) (by decide +kernel)), va_any rfl (hin9 (w := .castable "VoucherOffice$Round" "VoucherOffice$Plain") (i := 585) (by decide +kernel)), va_any rfl (hin9 (w := .castable "VoucherOffice$Club" "VoucherOffice$Plain") (i := 581) (by decide +kernel)), va_any rfl (hin9 (w := .castable "VoucherOffice$House" "VoucherOffice$Plain") (i := 584) (by decide +kernel)), va_any rfl (hin9 (w := .castable "VoucherOffice$Crest" "VoucherOffice$Plain") (i := 582) (by decide +kernel))⟩
  have hK : va_K D vwCl (vTy cI cZ cP) s := by
    refine ⟨hKc, fun k q hq => ?_⟩
    match k, hq with
    | 0, hq => cases hq; exact ⟨fun n z => ⟨fun k h => (by cases h), kI_, fI2, coI, fI3⟩, fI1⟩
    | 1, hq => cases hq; exact ⟨fun n z => ⟨fun k h => (by cases h), kZ_, fZ2, coZ, fZ3⟩, fZ1⟩
    | 2, hq => cases hq; exact ⟨fun n z => ⟨fun k h => (by cases h), kP_, fP3, coP, fP4⟩, kP_, coP, fP3, fP4, fP1, fP5⟩
    | k + 3, hq => simp at hq
  have X : Cx p m c meth s #[Value.ref b] RL code 4 ret D (vTy cI cZ cP) := ⟨hx, hb, hr, hml, hown, hts, hK, hlocks, hxK⟩
  have hS : va_S (fun q : Nat => s.heap.size ≤ q) s.heap s.heap [] := va_S.rf
  have hP : va_P D vwCl [] s.heap := fun k q h => by simp at h
  have hD : va_D (fun q : Nat => s.heap.size ≤ q) [] := ⟨fun i j p q h => by simp at h, fun k q h => by simp at h⟩
  have hl := lv_entry ([.ref b]) (n := 4) (Nat.le_of_ble_eq_true rfl)
  rw [lg_entry_eq]
  generalize (lg_sl ([.ref b]) ++ List.replicate (4 - (lg_sl ([.ref b])).length) Slot.unset).toArray = ls at hl ⊢
  have hl : lv_has ls 4 [(0, .ref b)] := hl
  refine va_new (ci := 8) (fs := [.null, .int 0, .int 0, .int 0, .int 0, .int 0, .int 0]) (C := RX8) (T := TX8) (N := 7) hx hb hts in_X8 tyX8 tyX8_ok hown (hts _ mw_12) (hts _ mw_13) (hts _ mw_1) hK hP hD hS hA rfl (fun j hj => by rcases (show j = 0 ∨ j = 1 ∨ j = 2 ∨ j = 3 ∨ j = 4 ∨ j = 5 ∨ j = 6 by omega) with rfl | rfl | rfl | rfl | rfl | rfl | rfl <;> rfl) (by show _ ≤ 667234; omega) (by show _ ≤ 7100547; omega) dL_law_0 (fun h0 H hP hD hS => ?_)
  refine lv_dup hx hb dL_law_3 rfl ?_
  refine g_ctor (As := []) (rest := [.ref h0]) iwL_9 X (c_X8_init l D cI cZ cP 1 (by decide) (q0 := 0) rfl) hP hD hS hA ⟨by show _ ≤ 10; omega, by show _ ≤ 344; omega⟩ rfl hl.1 rfl (Nat.le_of_ble_eq_true rfl) dL_law_4 ⟨by show _ ≤ 667234; omega, by show _ ≤ 7100547; omega⟩ (fun v9 ws9 H locs hq hP hD hS => ?_)
  obtain ⟨ev9, ⟨p0, p1, ha, row, pv, hO⟩, hfr⟩ := hq
  subst ev9
  refine W.eq (g2 := F0 m 7 ls [.ref h0]) rfl ?_
  refine lv_astore_n (lv' := [(1, .ref h0), (0, .ref b)]) hx hb dL_law_7 rfl hl (by decide) rfl (fun ls hl => ?_)
  refine va_new (ci := 9) (fs := [.int 0, .int 0, .int 0, .int 0, .int 0, .int 0, .null, .null, .null, .null, .null, .null, .null]) (C := RX9) (T := TX9) (N := 13) hx hb hts in_X9 tyX9 tyX9_ok hown (hts _ mw_443) (hts _ mw_444) (hts _ mw_2) hK hP hD hS hA rfl (fun j hj => by rcases (show j = 0 ∨ j = 1 ∨ j = 2 ∨ j = 3 ∨ j = 4 ∨ j = 5 ∨ j = 6 ∨ j = 7 ∨ j = 8 ∨ j = 9 ∨ j = 10 ∨ j = 11 ∨ j = 12 by omega) with rfl | rfl | rfl | rfl | rfl | rfl | rfl | rfl | rfl | rfl | rfl | rfl | rfl <;> rfl) (by show _ ≤ 667234; omega) (by show _ ≤ 7100547; omega) dL_law_8 (fun h1 H hP hD hS => ?_)
  refine lv_dup hx hb dL_law_11 rfl ?_
  refine g_ctor (As := []) (rest := [.ref h1]) iwL_12 X (c_X9_init l D cI cZ cP 1 (by decide) (ap_new _ _)) hP hD hS hA ⟨by show _ ≤ 10; omega, by show _ ≤ 344; omega⟩ rfl hl.1 rfl (Nat.le_of_ble_eq_true rfl) dL_law_12 ⟨by show _ ≤ 667234; omega, by show _ ≤ 7100547; omega⟩ (fun v8 ws8 H locs hq hP hD hS => ?_)
  obtain ⟨ev8, ⟨q, ad, hm⟩, hfr8⟩ := hq
  subst ev8
  have hO := of_at_fr hO (mo_fr_tr (mo_fr_app _ _) hfr8)
  refine W.eq (g2 := F0 m 15 ls [.ref h1]) rfl ?_
  refine lv_astore_n (lv' := [(2, .ref h1), (1, .ref h0), (0, .ref b)]) hx hb dL_law_15 rfl hl (by decide) rfl (fun ls hl => ?_)
  refine lv_iconst (v := 0) hx hb dL_law_16 (by decide) ?_
  refine lv_istore_n (lv' := [(3, .int 0), (2, .ref h1), (1, .ref h0), (0, .ref b)]) hx hb dL_law_17 rfl hl (by decide) rfl (fun ls hl => ?_)
  refine W.widen (k := 12 + 0) (n := 1000 + 2 * 0) (by omega) (by omega) ?_
  exact law_loop hL X hX hbl h0 h1 (L + 1) 0 (Nat.zero_le L) (by omega) _ _ _ _ ⟨hP, hD, hS, p0, p1, ha, row, pv, q, ad, _, _, 0, hO, hm, rfl, by decide, ⟨0, rfl, by decide⟩, fun v hv => absurd hv (by omega), fun v _ => ⟨rfl, rfl, rfl⟩⟩ hl
-- ===== YOUR PART ENDS =====
set_option maxHeartbeats 4000000 in
theorem lw_walk (l : Launch) (b : Addr) (xs : List Int32) : MetFree l x (headSpec (Jvm.Cond.code x code maxLocals ret :: tables_1) room_1) (lw_P b xs) (fun _ _ _ _ _ => True) lw_Q := by
  refine MetFree.of_bodyS (code := code) (maxLocals := maxLocals) (ret := ret) (by decide) ?_ ?_
  · intro args s m h hn
    obtain ⟨meth, c, h1, h2, h3, h4, h5, h6, -, -⟩ := Cond.code_spec hn (atoms_spec (ws := Jvm.Cond.code x code maxLocals ret :: tables_1) h _ List.mem_cons_self)
    exact ⟨meth, c, h1, h2, h3, h4, h5, h6⟩
  · intro p e s m args below meth c s₁ B hml0 hP _
    obtain ⟨rfl, hx, hbd, hgv⟩ := hP
    obtain ⟨scr, harrAt, hlist, hof, hsmall⟩ := hx
    obtain ⟨hcb, hkn, -, -⟩ := State.arrayAt?_spec harrAt
    have hown : s.vm.findClass R_law = some m.cls := findClass_of_methodNamed B.named
    have hts0 : ∀ c ∈ (Jvm.Cond.code x code maxLocals ret :: tables_1), c.before #[Value.ref b] s = true := atoms_spec (ws := Jvm.Cond.code x code maxLocals ret :: tables_1) B.pre
    have hts : ∀ w ∈ lw_tbl, w.before #[Value.ref b] s = true := k2_hts_sels lw_privs (fun w hw => hts0 w (List.mem_cons_of_mem _ hw)) lw_privs_ok
    have hml : c.maxLocals = 4 := B.maxLocals_eq (hts0 _ List.mem_cons_self)
    have X₀ : Stand p l e room_1 s m #[Value.ref b] below meth c s₁ [] 0 0 := Stand.of_body B
    have hh0 : s₁.heap = s.heap := by rw [B.state]; rfl
    have hsz : scr.slots.size = xs.length := by rw [← Array.length_toList, hlist, List.length_map]
    have hval : ∀ j : Nat, j < xs.length → scr.slots[j]? = some (.int (xs.getD j 0)) := fun j hj => by
      rw [← Array.getElem?_toList, hlist]
      simp [hj]
    have hbl : b < s.heap.size := (Array.getElem?_eq_some_iff.mp hcb).1
    have hX : va_X b xs.length (fun j => xs.getD j 0) s s.heap := ⟨scr, hcb, hof, hkn, hsz, hval⟩
    have K : W p l e room_1 s m #[Value.ref b] below meth c s₁.heap [] 0 0 (lw_Z below #[Value.ref b] s) (entryFrame m ([Value.ref b] : List Value).toArray 4) := by
      rw [hh0]
      exact whole_start l hbd ⟨B.exec, B.bytes, B.returns, hml, hown, hts, hX, hbl, B.notSynchronized, hgv⟩
    obtain ⟨t, a1, o, b1, b2, b3⟩ := K s₁ rfl X₀
    exact ⟨t, o, a1, b1, b2, b3⟩
theorem lw_pre_spec {args : Array Value} {s : State} (h : (Jvm.Cond.and given_1 narrow_1).before args s = true) (hr : rest_1_c.before args s = true) : ∃ (b : Addr) (xs : List Int32), lw_P b xs args s := by
  have hs := flat_of_before _ h
  have hq := flat_of_before _ hr
  have hc : (Cond.count 1).before args s = true := hs _ (by decide +kernel)
  have harr : (Cond.arrayOf (.arg 0) .int).before args s = true := hs _ (by decide +kernel)
  have hle : (Cond.le (.length (.arg 0)) (.int 1536)).before args s = true := hs _ (by decide +kernel)
  have hlen : (Cond.isInt (.length (.arg 0))).before args s = true := hq _ (by decide +kernel)
  have hall : (Cond.all (.arg 0) (.isInt (.elem (.arg 0) (.index 0)))).before args s = true := hq _ (by decide +kernel)
  obtain ⟨b, xs, hb, hx⟩ := State.ints_of_pre rfl harr hlen hall
  have hsm : xs.length < 2 ^ 31 := hx.choose_spec.2.2.2
  have hev : (Term.length (.arg 0)).eval args s none [] s = some (.int xs.length.toInt32) := hx.length_eval hb
  have hv := Cond.le_ints hev (show (Term.int 1536).eval args s none [] s = some (.int 1536) from rfl)
  have hd : xs.length.toInt32 ≤ 1536 := by
    simpa [Cond.before, Cond.holds, hv] using hle
  have hN : xs.length ≤ 1536 := (Int32.ofNat_le_ofNat hsm (by decide)).mp (show Int32.ofNat xs.length ≤ Int32.ofNat 1536 from hd)
  exact ⟨b, xs, Cond.one_arg hc (show args[0]? = some (.ref b) from hb), hx, hN, h⟩
theorem lw_comes (l : Launch) : Comes l x (Jvm.Cond.code x code maxLocals ret :: tables_1) room_1 (fun tb e args s => Calls_1 tb e args s ∧ rest_1 tb e args s ∧ Pre_1 tb e args s)
    (fun _ _ args s o t => lw_Q args s o t) := by
  intro p e ha hc hk s m args below hf hfit hheap happ hpre
  obtain ⟨b, xs, hP⟩ := lw_pre_spec hpre.2.2 hpre.2.1
  obtain ⟨k, o, h1, h2, h3, hQ⟩ := lw_walk l b xs p e ha hc hk s m args below hf ((Spec.applies_iff_loose hf).mp happ).1 hP trivial
  exact ⟨k, o, h1, h2, h3, hQ⟩
theorem lw_frame {s t : State} {o : Outcome} {args : Array Value} (h : Framed s o t [] 667234 7100547) :
    Framed s o t (fieldLocs frame_1_writes args s ++ arrayLocs frame_1_arrays args s ++ staticLocs frame_1_statics s) 667234 7100547 := h
theorem lw_limb (L : Cond) (hL : ∀ (args : Array Value) (s t : State), L.after args s (.returned (some (.int 1))) t = true) :
    ArmFor flags0 classFile x code maxLocals ret World_1 tables_1 room_1 Calls_1 rest_1 Pre_1
      (fun tb e a s o t => postC L tb e a s o t ∧ Framed s o t (fieldLocs frame_1_writes a s ++ arrayLocs frame_1_arrays a s ++ staticLocs frame_1_statics s) 667234 7100547) := by
  intro l _ _ _ p e ha hc hk s m args below hf hfit hheap happ hpre
  obtain ⟨k, o, h1, h2, h3, rfl, hF⟩ := lw_comes l p e ha hc hk s m args below hf hfit hheap happ hpre
  exact ⟨k, _, h1, h2, h3, hL args s _, lw_frame hF⟩
theorem i_vc : Claimed_1_1 ∧ Claimed_1_2 := ⟨lw_limb limb_1_1 (fun args s t => by simp [limb_1_1, Cond.after, Cond.holds, Cond.value]), lw_limb limb_1_2 (fun args s t => Cond.after_iff.mpr (by
  first | (rw [show limb_1_2 = Cond.eq .result (.int 1) from rfl, Cond.eq_ints (x := 1) (y := 1) rfl rfl]; simp; done) | (simp [limb_1_2, Cond.value, Term.eval]; done)))⟩
end
