set_option maxHeartbeats 4000000 in
set_option maxRecDepth 100000 in
theorem c_X0_markOf (l : Launch) (D : va_G) (tys : List (ClassId × FieldType)) (d : Nat) (hd : 2 ≤ d) {ws : va_W} {q0 a k : Nat} {kd fr am le po ls : Int32} (he : ws[q0]? = some (a, vo_E k kd fr am le po ls)) (hk : 5 ≤ k) (n : Int32) : Ct l D tys yX0_markOf cX0_markOf 2 (some .int) d 0 0 [.ref a, .int n] ws (pI ws (vSeal k fr am le po * 7 + n)) := by
  refine ct_intro (by decide) (Nat.le_of_ble_eq_true rfl) ?_
  intro p e s m below meth c A L X hin hP hD hS hA hl
  have hl : lv_has L 2 [(0, .ref a), (1, .int n)] := hl
  obtain ⟨hx, hb, hr, hml, hown, hts, hK, hlk, hxK⟩ := id X
  refine lv_aload_n hx hb dX0_markOf_0 rfl (lv_at hl 0 rfl) ?_
  refine dc_sealNow (rest := []) X mw_311 hP hD hS hA hk he ⟨by show _ ≤ d; omega, by show _ ≤ 30 * d; omega⟩ hl.1 (Nat.le_of_ble_eq_true rfl) dX0_markOf_1 ⟨Nat.le_refl _, Nat.le_refl _⟩ (fun H locs hP hD hS => ?_)
  refine lv_bipush (v := 7) hx hb dX0_markOf_4 (by decide) ?_
  refine lv_imul hx hb dX0_markOf_6 ?_
  refine lv_iload_n hx hb dX0_markOf_7 rfl (lv_at hl 1 rfl) ?_
  refine lv_iadd hx hb dX0_markOf_8 ?_
  exact e_int X hP hD hS dX0_markOf_9 ⟨rfl, rfl⟩
set_option maxHeartbeats 4000000 in
set_option maxRecDepth 100000 in
theorem c_X4_spendOn (l : Launch) (D : va_G) (tys : List (ClassId × FieldType)) (d : Nat) (hd : 4 ≤ d) {ws : va_W} {q0 a k : Nat} {kd fr am le po ls : Int32} (he : ws[q0]? = some (a, vo_E k kd fr am le po ls)) (day g : Int32) : Ct l D tys yX4_spendOn cX4_spendOn 4 (some .int) d 0 0 [.ref a, .int day, .int g] ws (pW (some (.int (vSp k fr le po day g))) (ws.set q0 (a, vo_E k kd fr am (vSpL k fr le po day g) po ls))) := by
  refine ct_intro (by decide) (Nat.le_of_ble_eq_true rfl) ?_
  intro p e s m below meth c A L X hin hP hD hS hA hl
  have hl : lv_has L 4 [(0, .ref a), (1, .int day), (2, .int g)] := hl
  obtain ⟨hx, hb, hr, hml, hown, hts, hK, hlk, hxK⟩ := id X
  refine lv_iload_n hx hb dX4_spendOn_0 rfl (lv_at hl 2 rfl) ?_
  refine lv_aload_n hx hb dX4_spendOn_1 rfl (lv_at hl 0 rfl) ?_
  refine lv_iload_n hx hb dX4_spendOn_2 rfl (lv_at hl 2 rfl) ?_
  refine dv_feeOf (rest := [.int g]) X mw_273 hP hD hS hA he ⟨by show _ ≤ d; omega, by show _ ≤ 30 * d; omega⟩ hl.1 (Nat.le_of_ble_eq_true rfl) dX4_spendOn_3 ⟨Nat.le_refl _, Nat.le_refl _⟩ (fun H locs hP hD hS => ?_)
  refine lv_iadd hx hb dX4_spendOn_6 ?_
  refine lv_istore_n (lv' := [(3, .int (g + (vFee k po g))), (0, .ref a), (1, .int day), (2, .int g)]) hx hb dX4_spendOn_7 rfl hl (by decide) rfl (fun L hl => ?_)
  refine lv_iload_n hx hb dX4_spendOn_8 rfl (lv_at hl 3 rfl) ?_
  refine lv_aload_n hx hb dX4_spendOn_9 rfl (lv_at hl 1 rfl) ?_
  refine lv_iload_n hx hb dX4_spendOn_10 rfl (lv_at hl 2 rfl) ?_
  refine dv_valueOn (rest := [.int g]) X mw_274 hP hD hS hA he ⟨by show _ ≤ d; omega, by show _ ≤ 30 * d; omega⟩ hl.1 (Nat.le_of_ble_eq_true rfl) dX4_spendOn_11 ⟨Nat.le_refl _, Nat.le_refl _⟩ (fun H locs hP hD hS => ?_)
  refine lv_icmp_gt (tgt := 25) hx hb dX4_spendOn_14 (by decide) (fun c_14 => ?_) (fun c_14 => ?_)
  · -- c_14 True
    refine lv_bipush (v := (-5)) hx hb dX4_spendOn_25 (by decide) ?_
    exact e_int X hP hD hS dX4_spendOn_27 ⟨by simp only [vSp, if_pos c_14], by simp only [vSpL, if_pos c_14]; exact (st_self he).symm⟩
  · -- c_14 False
    refine lv_iload_n hx hb dX4_spendOn_17 rfl (lv_at hl 0 rfl) ?_
    refine lv_aload_n hx hb dX4_spendOn_18 rfl (lv_at hl 1 rfl) ?_
    refine vo_gL X hP he mw_70 (Or.inl rfl) dX4_spendOn_19 ?_
    refine lv_icmp_le (tgt := 28) hx hb dX4_spendOn_22 (by decide) (fun c_22 => ?_) (fun c_22 => ?_)
    · -- c_22 True
      refine lv_aload_n hx hb dX4_spendOn_28 rfl (lv_at hl 1 rfl) ?_
      refine lv_dup hx hb dX4_spendOn_29 rfl ?_
      refine vo_gL X hP he mw_70 (Or.inl rfl) dX4_spendOn_30 ?_
      refine lv_iload_n hx hb dX4_spendOn_33 rfl (lv_at hl 0 rfl) ?_
      refine lv_isub hx hb dX4_spendOn_34 ?_
      refine vo_pL X hP hD hS he mw_70 (Or.inl rfl) dX4_spendOn_35 (fun H locs hP hD hS => ?_)
      have he : (ws.set q0 (a, vo_E k kd fr am (le - (g + (vFee k po g))) po ls))[q0]? = some (a, vo_E k kd fr am (le - (g + (vFee k po g))) po ls) := st_same he
      refine lv_aload_n hx hb dX4_spendOn_38 rfl (lv_at hl 1 rfl) ?_
      refine vo_gL X hP he mw_70 (Or.inl rfl) dX4_spendOn_39 ?_
      exact e_int X hP hD hS dX4_spendOn_42 ⟨by simp only [vSp, if_neg c_14, if_pos c_22], by simp only [vSpL, if_neg c_14, if_pos c_22]⟩
    · -- c_22 False
      refine lv_bipush (v := (-5)) hx hb dX4_spendOn_25 (by decide) ?_
      exact e_int X hP hD hS dX4_spendOn_27 ⟨by simp only [vSp, if_neg c_14, if_neg c_22], by simp only [vSpL, if_neg c_14, if_neg c_22]; exact (st_self he).symm⟩
set_option maxHeartbeats 4000000 in
set_option maxRecDepth 100000 in
theorem c_X7_spendOn (l : Launch) (D : va_G) (tys : List (ClassId × FieldType)) (d : Nat) (hd : 5 ≤ d) {ws : va_W} {q0 a k : Nat} {kd fr am le po ls : Int32} (he : ws[q0]? = some (a, vo_E k kd fr am le po ls)) (hk : k = 3) (day g : Int32) : Ct l D tys yX7_spendOn cX7_spendOn 4 (some .int) d 0 0 [.ref a, .int day, .int g] ws (pW (some (.int (if ls = day then -6 else vSp k fr le po day g))) (ws.set q0 (a, vo_E k kd fr am (if ls = day then le else vSpL k fr le po day g) po (if ls = day then ls else if vSp k fr le po day g < 0 then ls else day)))) := by
  refine ct_intro (by decide) (Nat.le_of_ble_eq_true rfl) ?_
  intro p e s m below meth c A L X hin hP hD hS hA hl
  have hl : lv_has L 4 [(0, .ref a), (1, .int day), (2, .int g)] := hl
  obtain ⟨hx, hb, hr, hml, hown, hts, hK, hlk, hxK⟩ := id X
  refine lv_aload_n hx hb dX7_spendOn_0 rfl (lv_at hl 0 rfl) ?_
  refine vo_gS X hP hk he mw_111 (Or.inl rfl) dX7_spendOn_1 ?_
  refine lv_iload_n hx hb dX7_spendOn_4 rfl (lv_at hl 1 rfl) ?_
  refine lv_icmp_ne (tgt := 11) hx hb dX7_spendOn_5 (by decide) (fun c_5 => ?_) (fun c_5 => ?_)
  · -- c_5 True
    refine lv_aload_n hx hb dX7_spendOn_11 rfl (lv_at hl 0 rfl) ?_
    refine lv_iload_n hx hb dX7_spendOn_12 rfl (lv_at hl 1 rfl) ?_
    refine lv_iload_n hx hb dX7_spendOn_13 rfl (lv_at hl 2 rfl) ?_
    obtain ⟨ci_14, fs_14, cq_14, e1_14, e2_14⟩ := vo_rec k kd fr am le po ls
    have er_14 := he
    rw [e1_14] at er_14
    refine g_super (As := [.int day, .int g]) (rest := []) uw_X7_27 X (c_X4_spendOn l D tys 4 (by decide) he day g) hP hD hS hA er_14 e2_14 ⟨by show _ ≤ d; omega, by show _ ≤ 30 * d; omega⟩ rfl hl.1 rfl (Nat.le_of_ble_eq_true rfl) dX7_spendOn_14 ⟨Nat.le_refl _, Nat.le_refl _⟩ (kW fun H locs hP hD hS => ?_)
    have he : (ws.set q0 (a, vo_E k kd fr am (vSpL k fr le po day g) po ls))[q0]? = some (a, vo_E k kd fr am (vSpL k fr le po day g) po ls) := st_same he
    refine W.eq (g2 := F0 m 17 L [.int (vSp k fr le po day g)]) rfl ?_
    refine lv_istore_n (lv' := [(3, .int (vSp k fr le po day g)), (0, .ref a), (1, .int day), (2, .int g)]) hx hb dX7_spendOn_17 rfl hl (by decide) rfl (fun L hl => ?_)
    refine lv_iload_n hx hb dX7_spendOn_18 rfl (lv_at hl 0 rfl) ?_
    refine lv_if_lt (tgt := 27) hx hb dX7_spendOn_19 (by decide) (fun c_19 => ?_) (fun c_19 => ?_)
    · -- c_19 True
      refine lv_iload_n hx hb dX7_spendOn_27 rfl (lv_at hl 0 rfl) ?_
      exact e_int X hP hD hS dX7_spendOn_28 ⟨by simp only [if_neg c_5], by simp only [if_neg c_5, if_pos c_19, List.set_set]⟩
    · -- c_19 False
      refine lv_aload_n hx hb dX7_spendOn_22 rfl (lv_at hl 1 rfl) ?_
      refine lv_iload_n hx hb dX7_spendOn_23 rfl (lv_at hl 2 rfl) ?_
      refine vo_pS X hP hD hS hk he mw_111 (Or.inl rfl) dX7_spendOn_24 (fun H locs hP hD hS => ?_)
      have he : ((ws.set q0 (a, vo_E k kd fr am (vSpL k fr le po day g) po ls)).set q0 (a, vo_E k kd fr am (vSpL k fr le po day g) po day))[q0]? = some (a, vo_E k kd fr am (vSpL k fr le po day g) po day) := st_same he
      refine lv_iload_n hx hb dX7_spendOn_27 rfl (lv_at hl 0 rfl) ?_
      exact e_int X hP hD hS dX7_spendOn_28 ⟨by simp only [if_neg c_5], by simp only [if_neg c_5, if_neg c_19, List.set_set]⟩
  · -- c_5 False
    refine lv_bipush (v := (-6)) hx hb dX7_spendOn_8 (by decide) ?_
    exact e_int X hP hD hS dX7_spendOn_10 ⟨by simp only [if_pos c_5], by simp only [if_pos c_5]; exact (st_self he).symm⟩
set_option maxHeartbeats 4000000 in
set_option maxRecDepth 100000 in
theorem c_X3_spendOn (l : Launch) (D : va_G) (tys : List (ClassId × FieldType)) (d : Nat) (hd : 5 ≤ d) {ws : va_W} {q0 a k : Nat} {kd fr am le po ls : Int32} (he : ws[q0]? = some (a, vo_E k kd fr am le po ls)) (hk : 6 ≤ k) (day g : Int32) : Ct l D tys yX3_spendOn cX3_spendOn 4 (some .int) d 0 0 [.ref a, .int day, .int g] ws (pW (some (.int (vSp k fr le po day g))) (ws.set q0 (a, vo_E k kd fr am (vSpL k fr le po day g) (if vSp k fr le po day g < 0 then po else po + g / 100) ls))) := by
  refine ct_intro (by decide) (Nat.le_of_ble_eq_true rfl) ?_
  intro p e s m below meth c A L X hin hP hD hS hA hl
  have hl : lv_has L 4 [(0, .ref a), (1, .int day), (2, .int g)] := hl
  obtain ⟨hx, hb, hr, hml, hown, hts, hK, hlk, hxK⟩ := id X
  refine lv_aload_n hx hb dX3_spendOn_0 rfl (lv_at hl 0 rfl) ?_
  refine lv_iload_n hx hb dX3_spendOn_1 rfl (lv_at hl 1 rfl) ?_
  refine lv_iload_n hx hb dX3_spendOn_2 rfl (lv_at hl 2 rfl) ?_
  obtain ⟨ci_3, fs_3, cq_3, e1_3, e2_3⟩ := vo_rec k kd fr am le po ls
  have er_3 := he
  rw [e1_3] at er_3
  refine g_super (As := [.int day, .int g]) (rest := []) uw_X3_17 X (c_X4_spendOn l D tys 4 (by decide) he day g) hP hD hS hA er_3 e2_3 ⟨by show _ ≤ d; omega, by show _ ≤ 30 * d; omega⟩ rfl hl.1 rfl (Nat.le_of_ble_eq_true rfl) dX3_spendOn_3 ⟨Nat.le_refl _, Nat.le_refl _⟩ (kW fun H locs hP hD hS => ?_)
  have he : (ws.set q0 (a, vo_E k kd fr am (vSpL k fr le po day g) po ls))[q0]? = some (a, vo_E k kd fr am (vSpL k fr le po day g) po ls) := st_same he
  refine W.eq (g2 := F0 m 6 L [.int (vSp k fr le po day g)]) rfl ?_
  refine lv_istore_n (lv' := [(3, .int (vSp k fr le po day g)), (0, .ref a), (1, .int day), (2, .int g)]) hx hb dX3_spendOn_6 rfl hl (by decide) rfl (fun L hl => ?_)
  refine lv_iload_n hx hb dX3_spendOn_7 rfl (lv_at hl 0 rfl) ?_
  refine lv_if_lt (tgt := 24) hx hb dX3_spendOn_8 (by decide) (fun c_8 => ?_) (fun c_8 => ?_)
  · -- c_8 True
    refine lv_iload_n hx hb dX3_spendOn_24 rfl (lv_at hl 0 rfl) ?_
    exact e_int X hP hD hS dX3_spendOn_25 ⟨rfl, by simp only [if_pos c_8, List.set_set]⟩
  · -- c_8 False
    refine lv_aload_n hx hb dX3_spendOn_11 rfl (lv_at hl 1 rfl) ?_
    refine lv_dup hx hb dX3_spendOn_12 rfl ?_
    refine vo_gP X hP hk he mw_147 (Or.inl rfl) dX3_spendOn_13 ?_
    refine lv_iload_n hx hb dX3_spendOn_16 rfl (lv_at hl 3 rfl) ?_
    refine lv_bipush (v := 100) hx hb dX3_spendOn_17 (by decide) ?_
    refine lv_idiv hx hb dX3_spendOn_19 (by decide) ?_
    refine lv_iadd hx hb dX3_spendOn_20 ?_
    refine vo_pP X hP hD hS hk he mw_147 (Or.inl rfl) dX3_spendOn_21 (fun H locs hP hD hS => ?_)
    have he : ((ws.set q0 (a, vo_E k kd fr am (vSpL k fr le po day g) po ls)).set q0 (a, vo_E k kd fr am (vSpL k fr le po day g) (po + (g / 100)) ls))[q0]? = some (a, vo_E k kd fr am (vSpL k fr le po day g) (po + (g / 100)) ls) := st_same he
    refine lv_iload_n hx hb dX3_spendOn_24 rfl (lv_at hl 0 rfl) ?_
    exact e_int X hP hD hS dX3_spendOn_25 ⟨rfl, by simp only [if_neg c_8, List.set_set]⟩
set_option maxHeartbeats 4000000 in
set_option maxRecDepth 100000 in
theorem c_X4_takeIn (l : Launch) (D : va_G) (tys : List (ClassId × FieldType)) (d : Nat) (hd : 0 ≤ d) {ws : va_W} {q0 a k : Nat} {kd fr am le po ls : Int32} (he : ws[q0]? = some (a, vo_E k kd fr am le po ls)) {q1 b k2 : Nat} {kd2 fr2 am2 le2 po2 ls2 : Int32} (he2 : ws[q1]? = some (b, vo_E k2 kd2 fr2 am2 le2 po2 ls2)) (hne : q0 ≠ q1) : Ct l D tys yX4_takeIn cX4_takeIn 2 none d 0 0 [.ref a, .ref b] ws (pW none (ws.set q0 (a, vo_E k kd fr (am + am2) (le + le2) po ls))) := by
  refine ct_intro (by decide) (Nat.le_of_ble_eq_true rfl) ?_
  intro p e s m below meth c A L X hin hP hD hS hA hl
  have hl : lv_has L 2 [(0, .ref a), (1, .ref b)] := hl
  obtain ⟨hx, hb, hr, hml, hown, hts, hK, hlk, hxK⟩ := id X
  refine lv_aload_n hx hb dX4_takeIn_0 rfl (lv_at hl 0 rfl) ?_
  refine lv_dup hx hb dX4_takeIn_1 rfl ?_
  refine vo_gA X hP he mw_68 (Or.inl rfl) dX4_takeIn_2 ?_
  refine lv_aload_n hx hb dX4_takeIn_5 rfl (lv_at hl 1 rfl) ?_
  refine vo_gA X hP he2 mw_68 (Or.inl rfl) dX4_takeIn_6 ?_
  refine lv_iadd hx hb dX4_takeIn_9 ?_
  refine vo_pA X hP hD hS he mw_68 (Or.inl rfl) dX4_takeIn_10 (fun H locs hP hD hS => ?_)
  have he : (ws.set q0 (a, vo_E k kd fr (am + am2) le po ls))[q0]? = some (a, vo_E k kd fr (am + am2) le po ls) := st_same he
  have he2 : (ws.set q0 (a, vo_E k kd fr (am + am2) le po ls))[q1]? = some (b, vo_E k2 kd2 fr2 am2 le2 po2 ls2) := st_other hne he2
  refine lv_aload_n hx hb dX4_takeIn_13 rfl (lv_at hl 0 rfl) ?_
  refine lv_dup hx hb dX4_takeIn_14 rfl ?_
  refine vo_gL X hP he mw_70 (Or.inl rfl) dX4_takeIn_15 ?_
  refine lv_aload_n hx hb dX4_takeIn_18 rfl (lv_at hl 1 rfl) ?_
  refine vo_gL X hP he2 mw_70 (Or.inl rfl) dX4_takeIn_19 ?_
  refine lv_iadd hx hb dX4_takeIn_22 ?_
  refine vo_pL X hP hD hS he mw_70 (Or.inl rfl) dX4_takeIn_23 (fun H locs hP hD hS => ?_)
  have he : ((ws.set q0 (a, vo_E k kd fr (am + am2) le po ls)).set q0 (a, vo_E k kd fr (am + am2) (le + le2) po ls))[q0]? = some (a, vo_E k kd fr (am + am2) (le + le2) po ls) := st_same he
  have he2 : ((ws.set q0 (a, vo_E k kd fr (am + am2) le po ls)).set q0 (a, vo_E k kd fr (am + am2) (le + le2) po ls))[q1]? = some (b, vo_E k2 kd2 fr2 am2 le2 po2 ls2) := st_other hne he2
  exact e_void X hP hD hS dX4_takeIn_26 ⟨rfl, by simp only [List.set_set]⟩
set_option maxHeartbeats 4000000 in
set_option maxRecDepth 100000 in
theorem c_X3_takeIn (l : Launch) (D : va_G) (tys : List (ClassId × FieldType)) (d : Nat) (hd : 1 ≤ d) {ws : va_W} {q0 a k : Nat} {kd fr am le po ls : Int32} (he : ws[q0]? = some (a, vo_E k kd fr am le po ls)) {q1 b k2 : Nat} {kd2 fr2 am2 le2 po2 ls2 : Int32} (he2 : ws[q1]? = some (b, vo_E k2 kd2 fr2 am2 le2 po2 ls2)) (hne : q0 ≠ q1) (hk : 6 ≤ k) : Ct l D tys yX3_takeIn cX3_takeIn 2 none d 0 0 [.ref a, .ref b] ws (pW none (ws.set q0 (a, vo_E k kd fr (am + am2) (le + le2) (po + vPts k2 po2) ls))) := by
  refine ct_intro (by decide) (Nat.le_of_ble_eq_true rfl) ?_
  intro p e s m below meth c A L X hin hP hD hS hA hl
  have hl : lv_has L 2 [(0, .ref a), (1, .ref b)] := hl
  obtain ⟨hx, hb, hr, hml, hown, hts, hK, hlk, hxK⟩ := id X
  refine lv_aload_n hx hb dX3_takeIn_0 rfl (lv_at hl 0 rfl) ?_
  refine lv_aload_n hx hb dX3_takeIn_1 rfl (lv_at hl 1 rfl) ?_
  obtain ⟨ci_2, fs_2, cq_2, e1_2, e2_2⟩ := vo_rec k kd fr am le po ls
  have er_2 := he
  rw [e1_2] at er_2
  refine g_super (As := [.ref b]) (rest := []) uw_X3_21 X (c_X4_takeIn l D tys 0 (by decide) he he2 hne) hP hD hS hA er_2 e2_2 ⟨by show _ ≤ d; omega, by show _ ≤ 30 * d; omega⟩ rfl hl.1 rfl (Nat.le_of_ble_eq_true rfl) dX3_takeIn_2 ⟨Nat.le_refl _, Nat.le_refl _⟩ (kW fun H locs hP hD hS => ?_)
  have he : (ws.set q0 (a, vo_E k kd fr (am + am2) (le + le2) po ls))[q0]? = some (a, vo_E k kd fr (am + am2) (le + le2) po ls) := st_same he
  have he2 : (ws.set q0 (a, vo_E k kd fr (am + am2) (le + le2) po ls))[q1]? = some (b, vo_E k2 kd2 fr2 am2 le2 po2 ls2) := st_other hne he2
  refine W.eq (g2 := F0 m 5 L []) rfl ?_
  refine lv_aload_n hx hb dX3_takeIn_5 rfl (lv_at hl 0 rfl) ?_
  refine lv_dup hx hb dX3_takeIn_6 rfl ?_
  refine vo_gP X hP hk he mw_147 (Or.inl rfl) dX3_takeIn_7 ?_
  refine lv_aload_n hx hb dX3_takeIn_10 rfl (lv_at hl 1 rfl) ?_
  refine dv_pointsNow (rest := [.int po, .ref a]) X mw_375 hP hD hS hA he2 ⟨by show _ ≤ d; omega, by show _ ≤ 30 * d; omega⟩ hl.1 (Nat.le_of_ble_eq_true rfl) dX3_takeIn_11 ⟨Nat.le_refl _, Nat.le_refl _⟩ (fun H locs hP hD hS => ?_)
  refine lv_iadd hx hb dX3_takeIn_14 ?_
  refine vo_pP X hP hD hS hk he mw_147 (Or.inl rfl) dX3_takeIn_15 (fun H locs hP hD hS => ?_)
  have he : ((ws.set q0 (a, vo_E k kd fr (am + am2) (le + le2) po ls)).set q0 (a, vo_E k kd fr (am + am2) (le + le2) (po + (vPts k2 po2)) ls))[q0]? = some (a, vo_E k kd fr (am + am2) (le + le2) (po + (vPts k2 po2)) ls) := st_same he
  have he2 : ((ws.set q0 (a, vo_E k kd fr (am + am2) (le + le2) po ls)).set q0 (a, vo_E k kd fr (am + am2) (le + le2) (po + (vPts k2 po2)) ls))[q1]? = some (b, vo_E k2 kd2 fr2 am2 le2 po2 ls2) := st_other hne he2
  exact e_void X hP hD hS dX3_takeIn_18 ⟨rfl, by simp only [List.set_set]⟩
set_option maxHeartbeats 4000000 in
set_option maxRecDepth 100000 in
theorem c_X7_takeIn (l : Launch) (D : va_G) (tys : List (ClassId × FieldType)) (d : Nat) (hd : 1 ≤ d) {ws : va_W} {q0 a k : Nat} {kd fr am le po ls : Int32} (he : ws[q0]? = some (a, vo_E k kd fr am le po ls)) {q1 b k2 : Nat} {kd2 fr2 am2 le2 po2 ls2 : Int32} (he2 : ws[q1]? = some (b, vo_E k2 kd2 fr2 am2 le2 po2 ls2)) (hne : q0 ≠ q1) (hk : k = 3) : Ct l D tys yX7_takeIn cX7_takeIn 2 none d 0 0 [.ref a, .ref b] ws (pW none (ws.set q0 (a, vo_E k kd fr (am + am2) (le + le2) po (if ls < vLS k2 ls2 then vLS k2 ls2 else ls)))) := by
  refine ct_intro (by decide) (Nat.le_of_ble_eq_true rfl) ?_
  intro p e s m below meth c A L X hin hP hD hS hA hl
  have hl : lv_has L 2 [(0, .ref a), (1, .ref b)] := hl
  obtain ⟨hx, hb, hr, hml, hown, hts, hK, hlk, hxK⟩ := id X
  refine lv_aload_n hx hb dX7_takeIn_0 rfl (lv_at hl 0 rfl) ?_
  refine lv_aload_n hx hb dX7_takeIn_1 rfl (lv_at hl 1 rfl) ?_
  obtain ⟨ci_2, fs_2, cq_2, e1_2, e2_2⟩ := vo_rec k kd fr am le po ls
  have er_2 := he
  rw [e1_2] at er_2
  refine g_super (As := [.ref b]) (rest := []) uw_X7_31 X (c_X4_takeIn l D tys 0 (by decide) he he2 hne) hP hD hS hA er_2 e2_2 ⟨by show _ ≤ d; omega, by show _ ≤ 30 * d; omega⟩ rfl hl.1 rfl (Nat.le_of_ble_eq_true rfl) dX7_takeIn_2 ⟨Nat.le_refl _, Nat.le_refl _⟩ (kW fun H locs hP hD hS => ?_)
  have he : (ws.set q0 (a, vo_E k kd fr (am + am2) (le + le2) po ls))[q0]? = some (a, vo_E k kd fr (am + am2) (le + le2) po ls) := st_same he
  have he2 : (ws.set q0 (a, vo_E k kd fr (am + am2) (le + le2) po ls))[q1]? = some (b, vo_E k2 kd2 fr2 am2 le2 po2 ls2) := st_other hne he2
  refine W.eq (g2 := F0 m 5 L []) rfl ?_
  refine lv_aload_n hx hb dX7_takeIn_5 rfl (lv_at hl 0 rfl) ?_
  refine lv_aload_n hx hb dX7_takeIn_6 rfl (lv_at hl 0 rfl) ?_
  refine vo_gS X hP hk he mw_111 (Or.inl rfl) dX7_takeIn_7 ?_
  refine lv_aload_n hx hb dX7_takeIn_10 rfl (lv_at hl 1 rfl) ?_
  refine dv_lastSpent (rest := [.int ls, .ref a]) X mw_398 hP hD hS hA he2 ⟨by show _ ≤ d; omega, by show _ ≤ 30 * d; omega⟩ hl.1 (Nat.le_of_ble_eq_true rfl) dX7_takeIn_11 ⟨Nat.le_refl _, Nat.le_refl _⟩ (fun H locs hP hD hS => ?_)
  refine va_mmax hx hb (hml.trans hl.1.symm) hown (hts _ mw_412) (hts _ mw_236) (hts _ mw_11) (hts _ mw_237) (by show _ ≤ d; omega) (by show _ ≤ 30 * d; simp [Value.category]; omega) (Nat.le_refl _) (Nat.le_refl _) dX7_takeIn_14 ?_
  refine vo_pS X hP hD hS hk he mw_111 (Or.inl rfl) dX7_takeIn_17 (fun H locs hP hD hS => ?_)
  have he : ((ws.set q0 (a, vo_E k kd fr (am + am2) (le + le2) po ls)).set q0 (a, vo_E k kd fr (am + am2) (le + le2) po (if ls < (vLS k2 ls2) then (vLS k2 ls2) else ls)))[q0]? = some (a, vo_E k kd fr (am + am2) (le + le2) po (if ls < (vLS k2 ls2) then (vLS k2 ls2) else ls)) := st_same he
  have he2 : ((ws.set q0 (a, vo_E k kd fr (am + am2) (le + le2) po ls)).set q0 (a, vo_E k kd fr (am + am2) (le + le2) po (if ls < (vLS k2 ls2) then (vLS k2 ls2) else ls)))[q1]? = some (b, vo_E k2 kd2 fr2 am2 le2 po2 ls2) := st_other hne he2
  exact e_void X hP hD hS dX7_takeIn_20 ⟨rfl, by simp only [List.set_set]⟩
section DC
variable {p : Program} {l : Launch} {e : Env} {R : Room} {s : State} {m : MethodId} {args : Array Value} {below : List Frame} {meth : Method} {c : Code} {H : Heap} {locs : List Loc} {cells slots : Nat} {Q : State → Prop}
variable {pc : Nat} {L : Array Slot} {rest : List Value} {A0 : Nat → Prop} {H0 : Heap} {D : va_G} {tys : List (ClassId × FieldType)} {ws : va_W} {own : String} {cc : ByteArray} {nL idx q0 a k : Nat} {rt0 : Option FieldType} {kd fr am le po ls : Int32}
set_option maxHeartbeats 4000000 in
set_option maxRecDepth 100000 in
theorem dv_markOf (X : Cx p m c meth s args own cc nL rt0 D tys) (hl : Cond.methodLink own idx yX4_markOf ∈ wd_big) (hP : va_P D vwCl ws H) (hD : va_D A0 ws) (hS : va_S A0 H0 H locs) (hA : ∀ q, H0.size ≤ q → A0 q) (he : ws[q0]? = some (a, vo_E k kd fr am le po ls)) (hR : 3 ≤ R.frames ∧ 90 ≤ R.locals) (hsize : L.size = nL) (hW : (rest.map fun v => v.category).sum ≤ 8) (hdg : decode cc pc = .ok (.invokevirtual idx, 3)) (hf : cells ≤ R.cells ∧ slots ≤ R.slots) {n0 : Int32}
    (kk : ∀ (H1 : Heap) (locs1 : List Loc), va_P D vwCl ws H1 → va_D A0 ws → va_S A0 H0 H1 locs1 → W p l e R s m args below meth c H1 locs1 cells slots Q (F0 m (pc + 3) L (.int (vMark k fr am le po n0) :: rest))) : W p l e R s m args below meth c H locs cells slots Q (F0 m pc L (.int n0 :: .ref a :: rest)) := by
  match k, he, kk with
  | 0, he, kk => exact g_virt (n := 1) (As := [.int n0]) (rest := rest) (ci := 4) (cq := (RX4, TX4, 4)) ⟨hl, mw_307, mw_305, mw_306, mw_305, mw_3, mw_322, ⟨_, _, _, mw_322⟩, by decide +kernel⟩ X (c_X4_markOf l D tys 2 (by decide) he n0) hP hD hS hA he rfl rfl ⟨hR.1, Nat.le_trans (by decide) hR.2⟩ rfl hsize rfl hW hdg hf (kI kk)
  | 1, he, kk => exact g_virt (n := 1) (As := [.int n0]) (rest := rest) (ci := 2) (cq := (RX2, TX2, 4)) ⟨hl, mw_307, mw_305, mw_317, mw_305, mw_3, mw_322, ⟨_, _, _, mw_322⟩, by decide +kernel⟩ X (c_X4_markOf l D tys 2 (by decide) he n0) hP hD hS hA he rfl rfl ⟨hR.1, Nat.le_trans (by decide) hR.2⟩ rfl hsize rfl hW hdg hf (kI kk)
  | 2, he, kk => exact g_virt (n := 1) (As := [.int n0]) (rest := rest) (ci := 6) (cq := (RX6, TX6, 4)) ⟨hl, mw_307, mw_305, mw_320, mw_305, mw_3, mw_322, ⟨_, _, _, mw_322⟩, by decide +kernel⟩ X (c_X4_markOf l D tys 2 (by decide) he n0) hP hD hS hA he rfl rfl ⟨hR.1, Nat.le_trans (by decide) hR.2⟩ rfl hsize rfl hW hdg hf (kI kk)
  | 3, he, kk => exact g_virt (n := 1) (As := [.int n0]) (rest := rest) (ci := 7) (cq := (RX7, TX7, 5)) ⟨hl, mw_307, mw_305, mw_321, mw_305, mw_3, mw_322, ⟨_, _, _, mw_322⟩, by decide +kernel⟩ X (c_X4_markOf l D tys 2 (by decide) he n0) hP hD hS hA he rfl rfl ⟨hR.1, Nat.le_trans (by decide) hR.2⟩ rfl hsize rfl hW hdg hf (kI kk)
  | 4, he, kk => exact g_virt (n := 1) (As := [.int n0]) (rest := rest) (ci := 5) (cq := (RX5, TX5, 4)) ⟨hl, mw_307, mw_305, mw_319, mw_305, mw_3, mw_322, ⟨_, _, _, mw_322⟩, by decide +kernel⟩ X (c_X4_markOf l D tys 2 (by decide) he n0) hP hD hS hA he rfl rfl ⟨hR.1, Nat.le_trans (by decide) hR.2⟩ rfl hsize rfl hW hdg hf (kI kk)
  | 5, he, kk => exact g_virt (n := 1) (As := [.int n0]) (rest := rest) (ci := 0) (cq := (RX0, TX0, 4)) ⟨hl, mw_307, mw_305, mw_308, mw_309, mw_8, mw_310, ⟨_, _, _, mw_322⟩, by decide +kernel⟩ X (c_X0_markOf l D tys 2 (by decide) he (by omega) n0) hP hD hS hA he rfl rfl ⟨hR.1, Nat.le_trans (by decide) hR.2⟩ rfl hsize rfl hW hdg hf (kI kk)
  | 6, he, kk => exact g_virt (n := 1) (As := [.int n0]) (rest := rest) (ci := 3) (cq := (RX3, TX3, 5)) ⟨hl, mw_307, mw_305, mw_318, mw_309, mw_8, mw_310, ⟨_, _, _, mw_322⟩, by decide +kernel⟩ X (c_X0_markOf l D tys 2 (by decide) he (by omega) n0) hP hD hS hA he rfl rfl ⟨hR.1, Nat.le_trans (by decide) hR.2⟩ rfl hsize rfl hW hdg hf (kI kk)
  | n + 7, he, kk => exact g_virt (n := 1) (As := [.int n0]) (rest := rest) (ci := 1) (cq := (RX1, TX1, 5)) ⟨hl, mw_307, mw_305, mw_316, mw_309, mw_8, mw_310, ⟨_, _, _, mw_322⟩, by decide +kernel⟩ X (c_X0_markOf l D tys 2 (by decide) he (by omega) n0) hP hD hS hA he rfl rfl ⟨hR.1, Nat.le_trans (by decide) hR.2⟩ rfl hsize rfl hW hdg hf (kI kk)
set_option maxHeartbeats 4000000 in
set_option maxRecDepth 100000 in
theorem dv_spendOn (X : Cx p m c meth s args own cc nL rt0 D tys) (hl : Cond.methodLink own idx yX4_spendOn ∈ wd_big) (hP : va_P D vwCl ws H) (hD : va_D A0 ws) (hS : va_S A0 H0 H locs) (hA : ∀ q, H0.size ≤ q → A0 q) (he : ws[q0]? = some (a, vo_E k kd fr am le po ls)) (hR : 6 ≤ R.frames ∧ 180 ≤ R.locals) (hsize : L.size = nL) (hW : (rest.map fun v => v.category).sum ≤ 8) (hdg : decode cc pc = .ok (.invokevirtual idx, 3)) (hf : cells ≤ R.cells ∧ slots ≤ R.slots) {day g : Int32}
    (kk : ∀ (H1 : Heap) (locs1 : List Loc), va_P D vwCl (ws.set q0 (a, vo_E k kd fr am (vSL k fr le po ls day g) (vSP k fr le po day g) (vSS k fr le po ls day g))) H1 → va_D A0 (ws.set q0 (a, vo_E k kd fr am (vSL k fr le po ls day g) (vSP k fr le po day g) (vSS k fr le po ls day g))) → va_S A0 H0 H1 locs1 → W p l e R s m args below meth c H1 locs1 cells slots Q (F0 m (pc + 3) L (.int (vSR k fr le po ls day g) :: rest))) : W p l e R s m args below meth c H locs cells slots Q (F0 m pc L (.int g :: .int day :: .ref a :: rest)) := by
  match k, he, kk with
  | 0, he, kk => exact g_virt (n := 2) (As := [.int day, .int g]) (rest := rest) (ci := 4) (cq := (RX4, TX4, 4)) ⟨hl, mw_255, mw_253, mw_254, mw_253, mw_3, mw_272, ⟨_, _, _, mw_272⟩, by decide +kernel⟩ X (c_X4_spendOn l D tys 5 (by decide) he day g) hP hD hS hA he rfl rfl ⟨hR.1, Nat.le_trans (by decide) hR.2⟩ rfl hsize rfl hW hdg hf (kW kk)
  | 1, he, kk => exact g_virt (n := 2) (As := [.int day, .int g]) (rest := rest) (ci := 2) (cq := (RX2, TX2, 4)) ⟨hl, mw_255, mw_253, mw_263, mw_253, mw_3, mw_272, ⟨_, _, _, mw_272⟩, by decide +kernel⟩ X (c_X4_spendOn l D tys 5 (by decide) he day g) hP hD hS hA he rfl rfl ⟨hR.1, Nat.le_trans (by decide) hR.2⟩ rfl hsize rfl hW hdg hf (kW kk)
  | 2, he, kk => exact g_virt (n := 2) (As := [.int day, .int g]) (rest := rest) (ci := 6) (cq := (RX6, TX6, 4)) ⟨hl, mw_255, mw_253, mw_266, mw_253, mw_3, mw_272, ⟨_, _, _, mw_272⟩, by decide +kernel⟩ X (c_X4_spendOn l D tys 5 (by decide) he day g) hP hD hS hA he rfl rfl ⟨hR.1, Nat.le_trans (by decide) hR.2⟩ rfl hsize rfl hW hdg hf (kW kk)
  | 3, he, kk => exact g_virt (n := 2) (As := [.int day, .int g]) (rest := rest) (ci := 7) (cq := (RX7, TX7, 5)) ⟨hl, mw_255, mw_253, mw_267, mw_268, mw_6, mw_269, ⟨_, _, _, mw_272⟩, by decide +kernel⟩ X (c_X7_spendOn l D tys 5 (by decide) he rfl day g) hP hD hS hA he rfl rfl ⟨hR.1, Nat.le_trans (by decide) hR.2⟩ rfl hsize rfl hW hdg hf (kW kk)
  | 4, he, kk => exact g_virt (n := 2) (As := [.int day, .int g]) (rest := rest) (ci := 5) (cq := (RX5, TX5, 4)) ⟨hl, mw_255, mw_253, mw_265, mw_253, mw_3, mw_272, ⟨_, _, _, mw_272⟩, by decide +kernel⟩ X (c_X4_spendOn l D tys 5 (by decide) he day g) hP hD hS hA he rfl rfl ⟨hR.1, Nat.le_trans (by decide) hR.2⟩ rfl hsize rfl hW hdg hf (kW kk)
  | 5, he, kk => exact g_virt (n := 2) (As := [.int day, .int g]) (rest := rest) (ci := 0) (cq := (RX0, TX0, 4)) ⟨hl, mw_255, mw_253, mw_256, mw_253, mw_3, mw_272, ⟨_, _, _, mw_272⟩, by decide +kernel⟩ X (c_X4_spendOn l D tys 5 (by decide) he day g) hP hD hS hA he rfl rfl ⟨hR.1, Nat.le_trans (by decide) hR.2⟩ rfl hsize rfl hW hdg hf (kW kk)
  | 6, he, kk => exact g_virt (n := 2) (As := [.int day, .int g]) (rest := rest) (ci := 3) (cq := (RX3, TX3, 5)) ⟨hl, mw_255, mw_253, mw_264, mw_258, mw_9, mw_259, ⟨_, _, _, mw_272⟩, by decide +kernel⟩ X (c_X3_spendOn l D tys 5 (by decide) he (by omega) day g) hP hD hS hA he rfl rfl ⟨hR.1, Nat.le_trans (by decide) hR.2⟩ rfl hsize rfl hW hdg hf (kW kk)
  | n + 7, he, kk => exact g_virt (n := 2) (As := [.int day, .int g]) (rest := rest) (ci := 1) (cq := (RX1, TX1, 5)) ⟨hl, mw_255, mw_253, mw_257, mw_258, mw_9, mw_259, ⟨_, _, _, mw_272⟩, by decide +kernel⟩ X (c_X3_spendOn l D tys 5 (by decide) he (by omega) day g) hP hD hS hA he rfl rfl ⟨hR.1, Nat.le_trans (by decide) hR.2⟩ rfl hsize rfl hW hdg hf (kW kk)
set_option maxHeartbeats 4000000 in
set_option maxRecDepth 100000 in
theorem dv_takeIn (X : Cx p m c meth s args own cc nL rt0 D tys) (hl : Cond.methodLink own idx yX4_takeIn ∈ wd_big) (hP : va_P D vwCl ws H) (hD : va_D A0 ws) (hS : va_S A0 H0 H locs) (hA : ∀ q, H0.size ≤ q → A0 q) (he : ws[q0]? = some (a, vo_E k kd fr am le po ls)) (hR : 2 ≤ R.frames ∧ 60 ≤ R.locals) (hsize : L.size = nL) (hW : (rest.map fun v => v.category).sum ≤ 8) (hdg : decode cc pc = .ok (.invokevirtual idx, 3)) (hf : cells ≤ R.cells ∧ slots ≤ R.slots) {q1 b k2 : Nat} {kd2 fr2 am2 le2 po2 ls2 : Int32} (he2 : ws[q1]? = some (b, vo_E k2 kd2 fr2 am2 le2 po2 ls2)) (hne : q0 ≠ q1)
    (kk : ∀ (H1 : Heap) (locs1 : List Loc), va_P D vwCl (ws.set q0 (a, vo_E k kd fr (am + am2) (le + le2) (vTP k po k2 po2) (vTS k ls k2 ls2))) H1 → va_D A0 (ws.set q0 (a, vo_E k kd fr (am + am2) (le + le2) (vTP k po k2 po2) (vTS k ls k2 ls2))) → va_S A0 H0 H1 locs1 → W p l e R s m args below meth c H1 locs1 cells slots Q (F0 m (pc + 3) L (rest))) : W p l e R s m args below meth c H locs cells slots Q (F0 m pc L (.ref b :: .ref a :: rest)) := by
  match k, he, kk with
  | 0, he, kk => exact g_virt (n := 1) (As := [.ref b]) (rest := rest) (ci := 4) (cq := (RX4, TX4, 4)) ⟨hl, mw_367, mw_365, mw_366, mw_365, mw_3, mw_413, ⟨_, _, _, mw_413⟩, by decide +kernel⟩ X (c_X4_takeIn l D tys 1 (by decide) he he2 hne) hP hD hS hA he rfl rfl ⟨hR.1, Nat.le_trans (by decide) hR.2⟩ rfl hsize rfl hW hdg hf (kW kk)
  | 1, he, kk => exact g_virt (n := 1) (As := [.ref b]) (rest := rest) (ci := 2) (cq := (RX2, TX2, 4)) ⟨hl, mw_367, mw_365, mw_389, mw_365, mw_3, mw_413, ⟨_, _, _, mw_413⟩, by decide +kernel⟩ X (c_X4_takeIn l D tys 1 (by decide) he he2 hne) hP hD hS hA he rfl rfl ⟨hR.1, Nat.le_trans (by decide) hR.2⟩ rfl hsize rfl hW hdg hf (kW kk)
  | 2, he, kk => exact g_virt (n := 1) (As := [.ref b]) (rest := rest) (ci := 6) (cq := (RX6, TX6, 4)) ⟨hl, mw_367, mw_365, mw_392, mw_365, mw_3, mw_413, ⟨_, _, _, mw_413⟩, by decide +kernel⟩ X (c_X4_takeIn l D tys 1 (by decide) he he2 hne) hP hD hS hA he rfl rfl ⟨hR.1, Nat.le_trans (by decide) hR.2⟩ rfl hsize rfl hW hdg hf (kW kk)
  | 3, he, kk => exact g_virt (n := 1) (As := [.ref b]) (rest := rest) (ci := 7) (cq := (RX7, TX7, 5)) ⟨hl, mw_367, mw_365, mw_393, mw_394, mw_6, mw_395, ⟨_, _, _, mw_413⟩, by decide +kernel⟩ X (c_X7_takeIn l D tys 1 (by decide) he he2 hne rfl) hP hD hS hA he rfl rfl ⟨hR.1, Nat.le_trans (by decide) hR.2⟩ rfl hsize rfl hW hdg hf (kW kk)
  | 4, he, kk => exact g_virt (n := 1) (As := [.ref b]) (rest := rest) (ci := 5) (cq := (RX5, TX5, 4)) ⟨hl, mw_367, mw_365, mw_391, mw_365, mw_3, mw_413, ⟨_, _, _, mw_413⟩, by decide +kernel⟩ X (c_X4_takeIn l D tys 1 (by decide) he he2 hne) hP hD hS hA he rfl rfl ⟨hR.1, Nat.le_trans (by decide) hR.2⟩ rfl hsize rfl hW hdg hf (kW kk)
  | 5, he, kk => exact g_virt (n := 1) (As := [.ref b]) (rest := rest) (ci := 0) (cq := (RX0, TX0, 4)) ⟨hl, mw_367, mw_365, mw_368, mw_365, mw_3, mw_413, ⟨_, _, _, mw_413⟩, by decide +kernel⟩ X (c_X4_takeIn l D tys 1 (by decide) he he2 hne) hP hD hS hA he rfl rfl ⟨hR.1, Nat.le_trans (by decide) hR.2⟩ rfl hsize rfl hW hdg hf (kW kk)
  | 6, he, kk => exact g_virt (n := 1) (As := [.ref b]) (rest := rest) (ci := 3) (cq := (RX3, TX3, 5)) ⟨hl, mw_367, mw_365, mw_390, mw_370, mw_9, mw_371, ⟨_, _, _, mw_413⟩, by decide +kernel⟩ X (c_X3_takeIn l D tys 1 (by decide) he he2 hne (by omega)) hP hD hS hA he rfl rfl ⟨hR.1, Nat.le_trans (by decide) hR.2⟩ rfl hsize rfl hW hdg hf (kW kk)
  | n + 7, he, kk => exact g_virt (n := 1) (As := [.ref b]) (rest := rest) (ci := 1) (cq := (RX1, TX1, 5)) ⟨hl, mw_367, mw_365, mw_369, mw_370, mw_9, mw_371, ⟨_, _, _, mw_413⟩, by decide +kernel⟩ X (c_X3_takeIn l D tys 1 (by decide) he he2 hne (by omega)) hP hD hS hA he rfl rfl ⟨hR.1, Nat.le_trans (by decide) hR.2⟩ rfl hsize rfl hW hdg hf (kW kk)
end DC
