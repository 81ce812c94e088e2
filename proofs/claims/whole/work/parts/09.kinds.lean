set_option maxHeartbeats 4000000 in
set_option maxRecDepth 100000 in
theorem c_X6_valueOn (l : Launch) (D : va_G) (tys : List (ClassId × FieldType)) (d : Nat) (hd : 1 ≤ d) {ws : va_W} {q0 a k : Nat} {kd fr am le po ls : Int32} (he : ws[q0]? = some (a, vo_E k kd fr am le po ls)) (hk : k = 2 ∨ k = 3) (day : Int32) : Ct l D tys yX6_valueOn cX6_valueOn 2 (some .int) d 0 0 [.ref a, .int day] ws (pI ws (vSea k fr le day)) := by
  refine ct_intro (by decide) (Nat.le_of_ble_eq_true rfl) ?_
  intro p e s m below meth c A L X hin hP hD hS hA hl
  have hl : lv_has L 2 [(0, .ref a), (1, .int day)] := hl
  obtain ⟨hx, hb, hr, hml, hown, hts, hK, hlk, hxK⟩ := id X
  refine lv_iload_n hx hb dX6_valueOn_0 rfl (lv_at hl 1 rfl) ?_
  refine lv_aload_n hx hb dX6_valueOn_1 rfl (lv_at hl 0 rfl) ?_
  refine dl_lastDay (rest := [.int day]) X mw_204 hP hD hS hA hk he ⟨by show _ ≤ d; omega, by show _ ≤ 30 * d; omega⟩ hl.1 (Nat.le_of_ble_eq_true rfl) dX6_valueOn_2 ⟨Nat.le_refl _, Nat.le_refl _⟩ (fun H locs hP hD hS => ?_)
  refine lv_icmp_le (tgt := 12) hx hb dX6_valueOn_5 (by decide) (fun c_5 => ?_) (fun c_5 => ?_)
  · -- c_5 True
    refine lv_aload_n hx hb dX6_valueOn_12 rfl (lv_at hl 0 rfl) ?_
    refine lv_iload_n hx hb dX6_valueOn_13 rfl (lv_at hl 1 rfl) ?_
    obtain ⟨ci_14, fs_14, cq_14, e1_14, e2_14⟩ := vo_rec k kd fr am le po ls
    have er_14 := he
    rw [e1_14] at er_14
    refine g_super (As := [.int day]) (rest := []) uw_X6_17 X (c_X4_valueOn l D tys 0 (by decide) he day) hP hD hS hA er_14 e2_14 ⟨by show _ ≤ d; omega, by show _ ≤ 30 * d; omega⟩ rfl hl.1 rfl (Nat.le_of_ble_eq_true rfl) dX6_valueOn_14 ⟨Nat.le_refl _, Nat.le_refl _⟩ (kI fun H locs hP hD hS => ?_)
    refine W.eq (g2 := F0 m 17 L [.int le]) rfl ?_
    exact e_int X hP hD hS dX6_valueOn_17 ⟨by simp only [vSea, if_pos c_5], rfl⟩
  · -- c_5 False
    refine lv_iconst (v := 0) hx hb dX6_valueOn_8 (by decide) ?_
    refine lv_goto (tgt := 17) hx hb dX6_valueOn_9 (by decide) ?_
    exact e_int X hP hD hS dX6_valueOn_17 ⟨by simp only [vSea, if_neg c_5], rfl⟩
set_option maxHeartbeats 4000000 in
set_option maxRecDepth 100000 in
theorem c_X6_sealNow (l : Launch) (D : va_G) (tys : List (ClassId × FieldType)) (d : Nat) (hd : 1 ≤ d) {ws : va_W} {q0 a k : Nat} {kd fr am le po ls : Int32} (he : ws[q0]? = some (a, vo_E k kd fr am le po ls)) (hk : k = 2 ∨ k = 3) : Ct l D tys yX6_sealNow cX6_sealNow 1 (some .int) d 0 0 [.ref a] ws (pI ws (vBase fr am le + vLast k fr)) := by
  refine ct_intro (by decide) (Nat.le_of_ble_eq_true rfl) ?_
  intro p e s m below meth c A L X hin hP hD hS hA hl
  have hl : lv_has L 1 [(0, .ref a)] := hl
  obtain ⟨hx, hb, hr, hml, hown, hts, hK, hlk, hxK⟩ := id X
  refine lv_aload_n hx hb dX6_sealNow_0 rfl (lv_at hl 0 rfl) ?_
  obtain ⟨ci_1, fs_1, cq_1, e1_1, e2_1⟩ := vo_rec k kd fr am le po ls
  have er_1 := he
  rw [e1_1] at er_1
  refine g_super (As := []) (rest := []) uw_X6_21 X (c_X4_sealNow l D tys 0 (by decide) he) hP hD hS hA er_1 e2_1 ⟨by show _ ≤ d; omega, by show _ ≤ 30 * d; omega⟩ rfl hl.1 rfl (Nat.le_of_ble_eq_true rfl) dX6_sealNow_1 ⟨Nat.le_refl _, Nat.le_refl _⟩ (kI fun H locs hP hD hS => ?_)
  refine W.eq (g2 := F0 m 4 L [.int (vBase fr am le)]) rfl ?_
  refine lv_aload_n hx hb dX6_sealNow_4 rfl (lv_at hl 0 rfl) ?_
  refine dl_lastDay (rest := [.int (vBase fr am le)]) X mw_204 hP hD hS hA hk he ⟨by show _ ≤ d; omega, by show _ ≤ 30 * d; omega⟩ hl.1 (Nat.le_of_ble_eq_true rfl) dX6_sealNow_5 ⟨Nat.le_refl _, Nat.le_refl _⟩ (fun H locs hP hD hS => ?_)
  refine lv_iadd hx hb dX6_sealNow_8 ?_
  exact e_int X hP hD hS dX6_sealNow_9 ⟨rfl, rfl⟩
set_option maxHeartbeats 4000000 in
set_option maxRecDepth 100000 in
theorem c_X6_daysLeftOn (l : Launch) (D : va_G) (tys : List (ClassId × FieldType)) (d : Nat) (hd : 1 ≤ d) {ws : va_W} {q0 a k : Nat} {kd fr am le po ls : Int32} (he : ws[q0]? = some (a, vo_E k kd fr am le po ls)) (hk : k = 2 ∨ k = 3) (day : Int32) : Ct l D tys yX6_daysLeftOn cX6_daysLeftOn 2 (some .int) d 0 0 [.ref a, .int day] ws (pI ws (if 0 < vLast k fr - day then vLast k fr - day else 0)) := by
  refine ct_intro (by decide) (Nat.le_of_ble_eq_true rfl) ?_
  intro p e s m below meth c A L X hin hP hD hS hA hl
  have hl : lv_has L 2 [(0, .ref a), (1, .int day)] := hl
  obtain ⟨hx, hb, hr, hml, hown, hts, hK, hlk, hxK⟩ := id X
  refine lv_iconst (v := 0) hx hb dX6_daysLeftOn_0 (by decide) ?_
  refine lv_aload_n hx hb dX6_daysLeftOn_1 rfl (lv_at hl 0 rfl) ?_
  refine dl_lastDay (rest := [.int 0]) X mw_204 hP hD hS hA hk he ⟨by show _ ≤ d; omega, by show _ ≤ 30 * d; omega⟩ hl.1 (Nat.le_of_ble_eq_true rfl) dX6_daysLeftOn_2 ⟨Nat.le_refl _, Nat.le_refl _⟩ (fun H locs hP hD hS => ?_)
  refine lv_iload_n hx hb dX6_daysLeftOn_5 rfl (lv_at hl 1 rfl) ?_
  refine lv_isub hx hb dX6_daysLeftOn_6 ?_
  refine va_mmax hx hb (hml.trans hl.1.symm) hown (hts _ mw_339) (hts _ mw_236) (hts _ mw_11) (hts _ mw_237) (by show _ ≤ d; omega) (by show _ ≤ 30 * d; simp [Value.category]; omega) (Nat.le_refl _) (Nat.le_refl _) dX6_daysLeftOn_7 ?_
  exact e_int X hP hD hS dX6_daysLeftOn_10 ⟨rfl, rfl⟩
set_option maxHeartbeats 4000000 in
set_option maxRecDepth 100000 in
theorem c_X6_lapseOn (l : Launch) (D : va_G) (tys : List (ClassId × FieldType)) (d : Nat) (hd : 1 ≤ d) {ws : va_W} {q0 a k : Nat} {kd fr am le po ls : Int32} (he : ws[q0]? = some (a, vo_E k kd fr am le po ls)) (hk : k = 2 ∨ k = 3) (day : Int32) : Ct l D tys yX6_lapseOn cX6_lapseOn 3 (some .int) d 0 0 [.ref a, .int day] ws (pW (some (.int (if vLast k fr < day then le else 0))) (ws.set q0 (a, vo_E k kd fr am (if vLast k fr < day then 0 else le) po ls))) := by
  refine ct_intro (by decide) (Nat.le_of_ble_eq_true rfl) ?_
  intro p e s m below meth c A L X hin hP hD hS hA hl
  have hl : lv_has L 3 [(0, .ref a), (1, .int day)] := hl
  obtain ⟨hx, hb, hr, hml, hown, hts, hK, hlk, hxK⟩ := id X
  refine lv_aload_n hx hb dX6_lapseOn_0 rfl (lv_at hl 0 rfl) ?_
  refine dl_lastDay (rest := []) X mw_204 hP hD hS hA hk he ⟨by show _ ≤ d; omega, by show _ ≤ 30 * d; omega⟩ hl.1 (Nat.le_of_ble_eq_true rfl) dX6_lapseOn_1 ⟨Nat.le_refl _, Nat.le_refl _⟩ (fun H locs hP hD hS => ?_)
  refine lv_iload_n hx hb dX6_lapseOn_4 rfl (lv_at hl 1 rfl) ?_
  refine lv_icmp_lt (tgt := 10) hx hb dX6_lapseOn_5 (by decide) (fun c_5 => ?_) (fun c_5 => ?_)
  · -- c_5 True
    refine lv_aload_n hx hb dX6_lapseOn_10 rfl (lv_at hl 0 rfl) ?_
    refine vo_gL X hP he mw_71 (Or.inr mw_72) dX6_lapseOn_11 ?_
    refine lv_istore_n (lv' := [(2, .int le), (0, .ref a), (1, .int day)]) hx hb dX6_lapseOn_14 rfl hl (by decide) rfl (fun L hl => ?_)
    refine lv_aload_n hx hb dX6_lapseOn_15 rfl (lv_at hl 1 rfl) ?_
    refine lv_iconst (v := 0) hx hb dX6_lapseOn_16 (by decide) ?_
    refine vo_pL X hP hD hS he mw_71 (Or.inr mw_72) dX6_lapseOn_17 (fun H locs hP hD hS => ?_)
    have he : (ws.set q0 (a, vo_E k kd fr am 0 po ls))[q0]? = some (a, vo_E k kd fr am 0 po ls) := st_same he
    refine lv_iload_n hx hb dX6_lapseOn_20 rfl (lv_at hl 0 rfl) ?_
    exact e_int X hP hD hS dX6_lapseOn_21 ⟨by simp only [if_pos c_5], by simp only [if_pos c_5]⟩
  · -- c_5 False
    refine lv_iconst (v := 0) hx hb dX6_lapseOn_8 (by decide) ?_
    exact e_int X hP hD hS dX6_lapseOn_9 ⟨by simp only [if_neg c_5], by simp only [if_neg c_5]; exact (st_self he).symm⟩
set_option maxHeartbeats 4000000 in
set_option maxRecDepth 100000 in
theorem c_X7_valueOn (l : Launch) (D : va_G) (tys : List (ClassId × FieldType)) (d : Nat) (hd : 2 ≤ d) {ws : va_W} {q0 a k : Nat} {kd fr am le po ls : Int32} (he : ws[q0]? = some (a, vo_E k kd fr am le po ls)) (hk : k = 3) (day : Int32) : Ct l D tys yX7_valueOn cX7_valueOn 3 (some .int) d 0 0 [.ref a, .int day] ws (pI ws (vSea k fr le day - vSea k fr le day / 10)) := by
  refine ct_intro (by decide) (Nat.le_of_ble_eq_true rfl) ?_
  intro p e s m below meth c A L X hin hP hD hS hA hl
  have hl : lv_has L 3 [(0, .ref a), (1, .int day)] := hl
  obtain ⟨hx, hb, hr, hml, hown, hts, hK, hlk, hxK⟩ := id X
  refine lv_aload_n hx hb dX7_valueOn_0 rfl (lv_at hl 0 rfl) ?_
  refine lv_iload_n hx hb dX7_valueOn_1 rfl (lv_at hl 1 rfl) ?_
  obtain ⟨ci_2, fs_2, cq_2, e1_2, e2_2⟩ := vo_rec k kd fr am le po ls
  have er_2 := he
  rw [e1_2] at er_2
  refine g_super (As := [.int day]) (rest := []) uw_X7_20 X (c_X6_valueOn l D tys 1 (by decide) he (Or.inr hk) day) hP hD hS hA er_2 e2_2 ⟨by show _ ≤ d; omega, by show _ ≤ 30 * d; omega⟩ rfl hl.1 rfl (Nat.le_of_ble_eq_true rfl) dX7_valueOn_2 ⟨Nat.le_refl _, Nat.le_refl _⟩ (kI fun H locs hP hD hS => ?_)
  refine W.eq (g2 := F0 m 5 L [.int (vSea k fr le day)]) rfl ?_
  refine lv_istore_n (lv' := [(2, .int (vSea k fr le day)), (0, .ref a), (1, .int day)]) hx hb dX7_valueOn_5 rfl hl (by decide) rfl (fun L hl => ?_)
  refine lv_iload_n hx hb dX7_valueOn_6 rfl (lv_at hl 0 rfl) ?_
  refine lv_iload_n hx hb dX7_valueOn_7 rfl (lv_at hl 0 rfl) ?_
  refine lv_bipush (v := 10) hx hb dX7_valueOn_8 (by decide) ?_
  refine lv_idiv hx hb dX7_valueOn_10 (by decide) ?_
  refine lv_isub hx hb dX7_valueOn_11 ?_
  exact e_int X hP hD hS dX7_valueOn_12 ⟨rfl, rfl⟩
set_option maxHeartbeats 4000000 in
set_option maxRecDepth 100000 in
theorem c_X7_feeOf (l : Launch) (D : va_G) (tys : List (ClassId × FieldType)) (d : Nat) (hd : 1 ≤ d) {ws : va_W} {q0 a k : Nat} {kd fr am le po ls : Int32} (he : ws[q0]? = some (a, vo_E k kd fr am le po ls)) (g : Int32) : Ct l D tys yX7_feeOf cX7_feeOf 2 (some .int) d 0 0 [.ref a, .int g] ws (pI ws ((g / 50 + 1) / 2)) := by
  refine ct_intro (by decide) (Nat.le_of_ble_eq_true rfl) ?_
  intro p e s m below meth c A L X hin hP hD hS hA hl
  have hl : lv_has L 2 [(0, .ref a), (1, .int g)] := hl
  obtain ⟨hx, hb, hr, hml, hown, hts, hK, hlk, hxK⟩ := id X
  refine lv_aload_n hx hb dX7_feeOf_0 rfl (lv_at hl 0 rfl) ?_
  refine lv_iload_n hx hb dX7_feeOf_1 rfl (lv_at hl 1 rfl) ?_
  obtain ⟨ci_2, fs_2, cq_2, e1_2, e2_2⟩ := vo_rec k kd fr am le po ls
  have er_2 := he
  rw [e1_2] at er_2
  refine g_super (As := [.int g]) (rest := []) uw_X7_24 X (c_X4_feeOf l D tys 0 (by decide) he g) hP hD hS hA er_2 e2_2 ⟨by show _ ≤ d; omega, by show _ ≤ 30 * d; omega⟩ rfl hl.1 rfl (Nat.le_of_ble_eq_true rfl) dX7_feeOf_2 ⟨Nat.le_refl _, Nat.le_refl _⟩ (kI fun H locs hP hD hS => ?_)
  refine W.eq (g2 := F0 m 5 L [.int (g / 50 + 1)]) rfl ?_
  refine lv_iconst (v := 2) hx hb dX7_feeOf_5 (by decide) ?_
  refine lv_idiv hx hb dX7_feeOf_6 (by decide) ?_
  exact e_int X hP hD hS dX7_feeOf_7 ⟨rfl, rfl⟩
set_option maxHeartbeats 4000000 in
set_option maxRecDepth 100000 in
theorem c_X5_valueOn (l : Launch) (D : va_G) (tys : List (ClassId × FieldType)) (d : Nat) (hd : 1 ≤ d) {ws : va_W} {q0 a k : Nat} {kd fr am le po ls : Int32} (he : ws[q0]? = some (a, vo_E k kd fr am le po ls)) (day : Int32) : Ct l D tys yX5_valueOn cX5_valueOn 3 (some .int) d 0 0 [.ref a, .int day] ws (pI ws (vRnd le)) := by
  refine ct_intro (by decide) (Nat.le_of_ble_eq_true rfl) ?_
  intro p e s m below meth c A L X hin hP hD hS hA hl
  have hl : lv_has L 3 [(0, .ref a), (1, .int day)] := hl
  obtain ⟨hx, hb, hr, hml, hown, hts, hK, hlk, hxK⟩ := id X
  refine lv_aload_n hx hb dX5_valueOn_0 rfl (lv_at hl 0 rfl) ?_
  refine lv_iload_n hx hb dX5_valueOn_1 rfl (lv_at hl 1 rfl) ?_
  obtain ⟨ci_2, fs_2, cq_2, e1_2, e2_2⟩ := vo_rec k kd fr am le po ls
  have er_2 := he
  rw [e1_2] at er_2
  refine g_super (As := [.int day]) (rest := []) uw_X5_7 X (c_X4_valueOn l D tys 0 (by decide) he day) hP hD hS hA er_2 e2_2 ⟨by show _ ≤ d; omega, by show _ ≤ 30 * d; omega⟩ rfl hl.1 rfl (Nat.le_of_ble_eq_true rfl) dX5_valueOn_2 ⟨Nat.le_refl _, Nat.le_refl _⟩ (kI fun H locs hP hD hS => ?_)
  refine W.eq (g2 := F0 m 5 L [.int le]) rfl ?_
  refine lv_istore_n (lv' := [(2, .int le), (0, .ref a), (1, .int day)]) hx hb dX5_valueOn_5 rfl hl (by decide) rfl (fun L hl => ?_)
  refine lv_iload_n hx hb dX5_valueOn_6 rfl (lv_at hl 0 rfl) ?_
  refine lv_iload_n hx hb dX5_valueOn_7 rfl (lv_at hl 0 rfl) ?_
  refine lv_bipush (v := 10) hx hb dX5_valueOn_8 (by decide) ?_
  refine lv_irem hx hb dX5_valueOn_10 (by decide) ?_
  refine lv_isub hx hb dX5_valueOn_11 ?_
  exact e_int X hP hD hS dX5_valueOn_12 ⟨rfl, rfl⟩
set_option maxHeartbeats 4000000 in
set_option maxRecDepth 100000 in
theorem c_X3_valueOn (l : Launch) (D : va_G) (tys : List (ClassId × FieldType)) (d : Nat) (hd : 2 ≤ d) {ws : va_W} {q0 a k : Nat} {kd fr am le po ls : Int32} (he : ws[q0]? = some (a, vo_E k kd fr am le po ls)) (hk : 6 ≤ k) (day : Int32) : Ct l D tys yX3_valueOn cX3_valueOn 2 (some .int) d 0 0 [.ref a, .int day] ws (pI ws (vRnd le + po)) := by
  refine ct_intro (by decide) (Nat.le_of_ble_eq_true rfl) ?_
  intro p e s m below meth c A L X hin hP hD hS hA hl
  have hl : lv_has L 2 [(0, .ref a), (1, .int day)] := hl
  obtain ⟨hx, hb, hr, hml, hown, hts, hK, hlk, hxK⟩ := id X
  refine lv_aload_n hx hb dX3_valueOn_0 rfl (lv_at hl 0 rfl) ?_
  refine lv_iload_n hx hb dX3_valueOn_1 rfl (lv_at hl 1 rfl) ?_
  obtain ⟨ci_2, fs_2, cq_2, e1_2, e2_2⟩ := vo_rec k kd fr am le po ls
  have er_2 := he
  rw [e1_2] at er_2
  refine g_super (As := [.int day]) (rest := []) uw_X3_13 X (c_X5_valueOn l D tys 1 (by decide) he day) hP hD hS hA er_2 e2_2 ⟨by show _ ≤ d; omega, by show _ ≤ 30 * d; omega⟩ rfl hl.1 rfl (Nat.le_of_ble_eq_true rfl) dX3_valueOn_2 ⟨Nat.le_refl _, Nat.le_refl _⟩ (kI fun H locs hP hD hS => ?_)
  refine W.eq (g2 := F0 m 5 L [.int (vRnd le)]) rfl ?_
  refine lv_aload_n hx hb dX3_valueOn_5 rfl (lv_at hl 0 rfl) ?_
  refine vo_gP X hP hk he mw_147 (Or.inl rfl) dX3_valueOn_6 ?_
  refine lv_iadd hx hb dX3_valueOn_9 ?_
  exact e_int X hP hD hS dX3_valueOn_10 ⟨rfl, rfl⟩
set_option maxHeartbeats 4000000 in
set_option maxRecDepth 100000 in
theorem c_X1_valueOn (l : Launch) (D : va_G) (tys : List (ClassId × FieldType)) (d : Nat) (hd : 3 ≤ d) {ws : va_W} {q0 a k : Nat} {kd fr am le po ls : Int32} (he : ws[q0]? = some (a, vo_E k kd fr am le po ls)) (hk : 6 ≤ k) (day : Int32) : Ct l D tys yX1_valueOn cX1_valueOn 3 (some .int) d 0 0 [.ref a, .int day] ws (pI ws (if day - day / 7 * 7 = 0 then (vRnd le + po) * 2 else vRnd le + po)) := by
  refine ct_intro (by decide) (Nat.le_of_ble_eq_true rfl) ?_
  intro p e s m below meth c A L X hin hP hD hS hA hl
  have hl : lv_has L 3 [(0, .ref a), (1, .int day)] := hl
  obtain ⟨hx, hb, hr, hml, hown, hts, hK, hlk, hxK⟩ := id X
  refine lv_aload_n hx hb dX1_valueOn_0 rfl (lv_at hl 0 rfl) ?_
  refine lv_iload_n hx hb dX1_valueOn_1 rfl (lv_at hl 1 rfl) ?_
  obtain ⟨ci_2, fs_2, cq_2, e1_2, e2_2⟩ := vo_rec k kd fr am le po ls
  have er_2 := he
  rw [e1_2] at er_2
  refine g_super (As := [.int day]) (rest := []) uw_X1_7 X (c_X3_valueOn l D tys 2 (by decide) he hk day) hP hD hS hA er_2 e2_2 ⟨by show _ ≤ d; omega, by show _ ≤ 30 * d; omega⟩ rfl hl.1 rfl (Nat.le_of_ble_eq_true rfl) dX1_valueOn_2 ⟨Nat.le_refl _, Nat.le_refl _⟩ (kI fun H locs hP hD hS => ?_)
  refine W.eq (g2 := F0 m 5 L [.int (vRnd le + po)]) rfl ?_
  refine lv_istore_n (lv' := [(2, .int (vRnd le + po)), (0, .ref a), (1, .int day)]) hx hb dX1_valueOn_5 rfl hl (by decide) rfl (fun L hl => ?_)
  refine lv_iload_n hx hb dX1_valueOn_6 rfl (lv_at hl 2 rfl) ?_
  refine lv_bipush (v := 7) hx hb dX1_valueOn_7 (by decide) ?_
  refine lv_irem hx hb dX1_valueOn_9 (by decide) ?_
  refine lv_if_ne (tgt := 19) hx hb dX1_valueOn_10 (by decide) (fun c_10 => ?_) (fun c_10 => ?_)
  · -- c_10 True
    refine lv_iload_n hx hb dX1_valueOn_19 rfl (lv_at hl 0 rfl) ?_
    exact e_int X hP hD hS dX1_valueOn_20 ⟨by simp only [if_neg c_10], rfl⟩
  · -- c_10 False
    refine lv_iload_n hx hb dX1_valueOn_13 rfl (lv_at hl 0 rfl) ?_
    refine lv_iconst (v := 2) hx hb dX1_valueOn_14 (by decide) ?_
    refine lv_imul hx hb dX1_valueOn_15 ?_
    refine lv_goto (tgt := 20) hx hb dX1_valueOn_16 (by decide) ?_
    exact e_int X hP hD hS dX1_valueOn_20 ⟨by simp only [if_pos c_10], rfl⟩
set_option maxHeartbeats 4000000 in
set_option maxRecDepth 100000 in
theorem c_X1_feeOf (l : Launch) (D : va_G) (tys : List (ClassId × FieldType)) (d : Nat) (hd : 1 ≤ d) {ws : va_W} {q0 a k : Nat} {kd fr am le po ls : Int32} (he : ws[q0]? = some (a, vo_E k kd fr am le po ls)) (hk : 6 ≤ k) (g : Int32) : Ct l D tys yX1_feeOf cX1_feeOf 2 (some .int) d 0 0 [.ref a, .int g] ws (pI ws (if 0 < g / 50 + 1 - po then g / 50 + 1 - po else 0)) := by
  refine ct_intro (by decide) (Nat.le_of_ble_eq_true rfl) ?_
  intro p e s m below meth c A L X hin hP hD hS hA hl
  have hl : lv_has L 2 [(0, .ref a), (1, .int g)] := hl
  obtain ⟨hx, hb, hr, hml, hown, hts, hK, hlk, hxK⟩ := id X
  refine lv_iconst (v := 0) hx hb dX1_feeOf_0 (by decide) ?_
  refine lv_aload_n hx hb dX1_feeOf_1 rfl (lv_at hl 0 rfl) ?_
  refine lv_iload_n hx hb dX1_feeOf_2 rfl (lv_at hl 1 rfl) ?_
  obtain ⟨ci_3, fs_3, cq_3, e1_3, e2_3⟩ := vo_rec k kd fr am le po ls
  have er_3 := he
  rw [e1_3] at er_3
  refine g_super (As := [.int g]) (rest := [.int 0]) uw_X1_11 X (c_X4_feeOf l D tys 0 (by decide) he g) hP hD hS hA er_3 e2_3 ⟨by show _ ≤ d; omega, by show _ ≤ 30 * d; omega⟩ rfl hl.1 rfl (Nat.le_of_ble_eq_true rfl) dX1_feeOf_3 ⟨Nat.le_refl _, Nat.le_refl _⟩ (kI fun H locs hP hD hS => ?_)
  refine W.eq (g2 := F0 m 6 L [.int (g / 50 + 1), .int 0]) rfl ?_
  refine lv_aload_n hx hb dX1_feeOf_6 rfl (lv_at hl 0 rfl) ?_
  refine vo_gP X hP hk he mw_148 (Or.inr mw_149) dX1_feeOf_7 ?_
  refine lv_isub hx hb dX1_feeOf_10 ?_
  refine va_mmax hx hb (hml.trans hl.1.symm) hown (hts _ mw_235) (hts _ mw_236) (hts _ mw_11) (hts _ mw_237) (by show _ ≤ d; omega) (by show _ ≤ 30 * d; simp [Value.category]; omega) (Nat.le_refl _) (Nat.le_refl _) dX1_feeOf_11 ?_
  exact e_int X hP hD hS dX1_feeOf_14 ⟨rfl, rfl⟩
set_option maxHeartbeats 4000000 in
set_option maxRecDepth 100000 in
theorem c_X1_sealNow (l : Launch) (D : va_G) (tys : List (ClassId × FieldType)) (d : Nat) (hd : 1 ≤ d) {ws : va_W} {q0 a k : Nat} {kd fr am le po ls : Int32} (he : ws[q0]? = some (a, vo_E k kd fr am le po ls)) (hk : 6 ≤ k) : Ct l D tys yX1_sealNow cX1_sealNow 1 (some .int) d 0 0 [.ref a] ws (pI ws (vBase fr am le + 3 * po)) := by
  refine ct_intro (by decide) (Nat.le_of_ble_eq_true rfl) ?_
  intro p e s m below meth c A L X hin hP hD hS hA hl
  have hl : lv_has L 1 [(0, .ref a)] := hl
  obtain ⟨hx, hb, hr, hml, hown, hts, hK, hlk, hxK⟩ := id X
  refine lv_aload_n hx hb dX1_sealNow_0 rfl (lv_at hl 0 rfl) ?_
  obtain ⟨ci_1, fs_1, cq_1, e1_1, e2_1⟩ := vo_rec k kd fr am le po ls
  have er_1 := he
  rw [e1_1] at er_1
  refine g_super (As := []) (rest := []) uw_X1_26 X (c_X4_sealNow l D tys 0 (by decide) he) hP hD hS hA er_1 e2_1 ⟨by show _ ≤ d; omega, by show _ ≤ 30 * d; omega⟩ rfl hl.1 rfl (Nat.le_of_ble_eq_true rfl) dX1_sealNow_1 ⟨Nat.le_refl _, Nat.le_refl _⟩ (kI fun H locs hP hD hS => ?_)
  refine W.eq (g2 := F0 m 4 L [.int (vBase fr am le)]) rfl ?_
  refine lv_iconst (v := 3) hx hb dX1_sealNow_4 (by decide) ?_
  refine lv_aload_n hx hb dX1_sealNow_5 rfl (lv_at hl 0 rfl) ?_
  refine vo_gP X hP hk he mw_148 (Or.inr mw_149) dX1_sealNow_6 ?_
  refine lv_imul hx hb dX1_sealNow_9 ?_
  refine lv_iadd hx hb dX1_sealNow_10 ?_
  exact e_int X hP hD hS dX1_sealNow_11 ⟨rfl, rfl⟩
section DB
variable {p : Program} {l : Launch} {e : Env} {R : Room} {s : State} {m : MethodId} {args : Array Value} {below : List Frame} {meth : Method} {c : Code} {H : Heap} {locs : List Loc} {cells slots : Nat} {Q : State → Prop}
variable {pc : Nat} {L : Array Slot} {rest : List Value} {A0 : Nat → Prop} {H0 : Heap} {D : va_G} {tys : List (ClassId × FieldType)} {ws : va_W} {own : String} {cc : ByteArray} {nL idx q0 a k : Nat} {rt0 : Option FieldType} {kd fr am le po ls : Int32}
set_option maxHeartbeats 4000000 in
set_option maxRecDepth 100000 in
theorem dc_sealNow (X : Cx p m c meth s args own cc nL rt0 D tys) (hl : Cond.methodLink own idx ⟨"VoucherOffice$Club", "sealNow", "()I"⟩ ∈ wd_big) (hP : va_P D vwCl ws H) (hD : va_D A0 ws) (hS : va_S A0 H0 H locs) (hA : ∀ q, H0.size ≤ q → A0 q) (hk : 5 ≤ k) (he : ws[q0]? = some (a, vo_E k kd fr am le po ls)) (hR : 2 ≤ R.frames ∧ 60 ≤ R.locals) (hsize : L.size = nL) (hW : (rest.map fun v => v.category).sum ≤ 8) (hdg : decode cc pc = .ok (.invokevirtual idx, 3)) (hf : cells ≤ R.cells ∧ slots ≤ R.slots)
    (kk : ∀ (H1 : Heap) (locs1 : List Loc), va_P D vwCl ws H1 → va_D A0 ws → va_S A0 H0 H1 locs1 → W p l e R s m args below meth c H1 locs1 cells slots Q (F0 m (pc + 3) L (.int (vSeal k fr am le po) :: rest))) : W p l e R s m args below meth c H locs cells slots Q (F0 m pc L (.ref a :: rest)) := by
  match k, hk, he, kk with
  | 0, hk, _, _ => exact absurd hk (by omega)
  | 1, hk, _, _ => exact absurd hk (by omega)
  | 2, hk, _, _ => exact absurd hk (by omega)
  | 3, hk, _, _ => exact absurd hk (by omega)
  | 4, hk, _, _ => exact absurd hk (by omega)
  | 5, _, he, kk => exact g_virt (n := 0) (As := []) (rest := rest) (ci := 0) (cq := (RX0, TX0, 4)) ⟨hl, mw_312, mw_280, mw_313, mw_280, mw_3, mw_299, ⟨_, _, _, mw_299⟩, by decide +kernel⟩ X (c_X4_sealNow l D tys 1 (by decide) he) hP hD hS hA he rfl rfl ⟨hR.1, Nat.le_trans (by decide) hR.2⟩ rfl hsize rfl hW hdg hf (kI kk)
  | 6, _, he, kk => exact g_virt (n := 0) (As := []) (rest := rest) (ci := 3) (cq := (RX3, TX3, 5)) ⟨hl, mw_312, mw_280, mw_315, mw_280, mw_3, mw_299, ⟨_, _, _, mw_299⟩, by decide +kernel⟩ X (c_X4_sealNow l D tys 1 (by decide) he) hP hD hS hA he rfl rfl ⟨hR.1, Nat.le_trans (by decide) hR.2⟩ rfl hsize rfl hW hdg hf (kI kk)
  | n + 7, _, he, kk => exact g_virt (n := 0) (As := []) (rest := rest) (ci := 1) (cq := (RX1, TX1, 5)) ⟨hl, mw_312, mw_280, mw_314, mw_285, mw_10, mw_286, ⟨_, _, _, mw_299⟩, by decide +kernel⟩ X (c_X1_sealNow l D tys 1 (by decide) he (by omega)) hP hD hS hA he rfl rfl ⟨hR.1, Nat.le_trans (by decide) hR.2⟩ rfl hsize rfl hW hdg hf (kI kk)
set_option maxHeartbeats 4000000 in
set_option maxRecDepth 100000 in
theorem dv_sealNow (X : Cx p m c meth s args own cc nL rt0 D tys) (hl : Cond.methodLink own idx yX4_sealNow ∈ wd_big) (hP : va_P D vwCl ws H) (hD : va_D A0 ws) (hS : va_S A0 H0 H locs) (hA : ∀ q, H0.size ≤ q → A0 q) (he : ws[q0]? = some (a, vo_E k kd fr am le po ls)) (hR : 2 ≤ R.frames ∧ 60 ≤ R.locals) (hsize : L.size = nL) (hW : (rest.map fun v => v.category).sum ≤ 8) (hdg : decode cc pc = .ok (.invokevirtual idx, 3)) (hf : cells ≤ R.cells ∧ slots ≤ R.slots)
    (kk : ∀ (H1 : Heap) (locs1 : List Loc), va_P D vwCl ws H1 → va_D A0 ws → va_S A0 H0 H1 locs1 → W p l e R s m args below meth c H1 locs1 cells slots Q (F0 m (pc + 3) L (.int (vSeal k fr am le po) :: rest))) : W p l e R s m args below meth c H locs cells slots Q (F0 m pc L (.ref a :: rest)) := by
  match k, he, kk with
  | 0, he, kk => exact g_virt (n := 0) (As := []) (rest := rest) (ci := 4) (cq := (RX4, TX4, 4)) ⟨hl, mw_282, mw_280, mw_281, mw_280, mw_3, mw_299, ⟨_, _, _, mw_299⟩, by decide +kernel⟩ X (c_X4_sealNow l D tys 1 (by decide) he) hP hD hS hA he rfl rfl ⟨hR.1, Nat.le_trans (by decide) hR.2⟩ rfl hsize rfl hW hdg hf (kI kk)
  | 1, he, kk => exact g_virt (n := 0) (As := []) (rest := rest) (ci := 2) (cq := (RX2, TX2, 4)) ⟨hl, mw_282, mw_280, mw_290, mw_280, mw_3, mw_299, ⟨_, _, _, mw_299⟩, by decide +kernel⟩ X (c_X4_sealNow l D tys 1 (by decide) he) hP hD hS hA he rfl rfl ⟨hR.1, Nat.le_trans (by decide) hR.2⟩ rfl hsize rfl hW hdg hf (kI kk)
  | 2, he, kk => exact g_virt (n := 0) (As := []) (rest := rest) (ci := 6) (cq := (RX6, TX6, 4)) ⟨hl, mw_282, mw_280, mw_293, mw_294, mw_5, mw_295, ⟨_, _, _, mw_299⟩, by decide +kernel⟩ X (c_X6_sealNow l D tys 1 (by decide) he (by decide)) hP hD hS hA he rfl rfl ⟨hR.1, Nat.le_trans (by decide) hR.2⟩ rfl hsize rfl hW hdg hf (kI kk)
  | 3, he, kk => exact g_virt (n := 0) (As := []) (rest := rest) (ci := 7) (cq := (RX7, TX7, 5)) ⟨hl, mw_282, mw_280, mw_298, mw_294, mw_5, mw_295, ⟨_, _, _, mw_299⟩, by decide +kernel⟩ X (c_X6_sealNow l D tys 1 (by decide) he (by decide)) hP hD hS hA he rfl rfl ⟨hR.1, Nat.le_trans (by decide) hR.2⟩ rfl hsize rfl hW hdg hf (kI kk)
  | 4, he, kk => exact g_virt (n := 0) (As := []) (rest := rest) (ci := 5) (cq := (RX5, TX5, 4)) ⟨hl, mw_282, mw_280, mw_292, mw_280, mw_3, mw_299, ⟨_, _, _, mw_299⟩, by decide +kernel⟩ X (c_X4_sealNow l D tys 1 (by decide) he) hP hD hS hA he rfl rfl ⟨hR.1, Nat.le_trans (by decide) hR.2⟩ rfl hsize rfl hW hdg hf (kI kk)
  | 5, he, kk => exact g_virt (n := 0) (As := []) (rest := rest) (ci := 0) (cq := (RX0, TX0, 4)) ⟨hl, mw_282, mw_280, mw_283, mw_280, mw_3, mw_299, ⟨_, _, _, mw_299⟩, by decide +kernel⟩ X (c_X4_sealNow l D tys 1 (by decide) he) hP hD hS hA he rfl rfl ⟨hR.1, Nat.le_trans (by decide) hR.2⟩ rfl hsize rfl hW hdg hf (kI kk)
  | 6, he, kk => exact g_virt (n := 0) (As := []) (rest := rest) (ci := 3) (cq := (RX3, TX3, 5)) ⟨hl, mw_282, mw_280, mw_291, mw_280, mw_3, mw_299, ⟨_, _, _, mw_299⟩, by decide +kernel⟩ X (c_X4_sealNow l D tys 1 (by decide) he) hP hD hS hA he rfl rfl ⟨hR.1, Nat.le_trans (by decide) hR.2⟩ rfl hsize rfl hW hdg hf (kI kk)
  | n + 7, he, kk => exact g_virt (n := 0) (As := []) (rest := rest) (ci := 1) (cq := (RX1, TX1, 5)) ⟨hl, mw_282, mw_280, mw_284, mw_285, mw_10, mw_286, ⟨_, _, _, mw_299⟩, by decide +kernel⟩ X (c_X1_sealNow l D tys 1 (by decide) he (by omega)) hP hD hS hA he rfl rfl ⟨hR.1, Nat.le_trans (by decide) hR.2⟩ rfl hsize rfl hW hdg hf (kI kk)
set_option maxHeartbeats 4000000 in
set_option maxRecDepth 100000 in
theorem dv_valueOn (X : Cx p m c meth s args own cc nL rt0 D tys) (hl : Cond.methodLink own idx yX4_valueOn ∈ wd_big) (hP : va_P D vwCl ws H) (hD : va_D A0 ws) (hS : va_S A0 H0 H locs) (hA : ∀ q, H0.size ≤ q → A0 q) (he : ws[q0]? = some (a, vo_E k kd fr am le po ls)) (hR : 4 ≤ R.frames ∧ 120 ≤ R.locals) (hsize : L.size = nL) (hW : (rest.map fun v => v.category).sum ≤ 8) (hdg : decode cc pc = .ok (.invokevirtual idx, 3)) (hf : cells ≤ R.cells ∧ slots ≤ R.slots) {day : Int32}
    (kk : ∀ (H1 : Heap) (locs1 : List Loc), va_P D vwCl ws H1 → va_D A0 ws → va_S A0 H0 H1 locs1 → W p l e R s m args below meth c H1 locs1 cells slots Q (F0 m (pc + 3) L (.int (vVal k fr le po day) :: rest))) : W p l e R s m args below meth c H locs cells slots Q (F0 m pc L (.int day :: .ref a :: rest)) := by
  match k, he, kk with
  | 0, he, kk => exact g_virt (n := 1) (As := [.int day]) (rest := rest) (ci := 4) (cq := (RX4, TX4, 4)) ⟨hl, mw_184, mw_182, mw_183, mw_182, mw_3, mw_219, ⟨_, _, _, mw_219⟩, by decide +kernel⟩ X (c_X4_valueOn l D tys 3 (by decide) he day) hP hD hS hA he rfl rfl ⟨hR.1, Nat.le_trans (by decide) hR.2⟩ rfl hsize rfl hW hdg hf (kI kk)
  | 1, he, kk => exact g_virt (n := 1) (As := [.int day]) (rest := rest) (ci := 2) (cq := (RX2, TX2, 4)) ⟨hl, mw_184, mw_182, mw_198, mw_182, mw_3, mw_219, ⟨_, _, _, mw_219⟩, by decide +kernel⟩ X (c_X4_valueOn l D tys 3 (by decide) he day) hP hD hS hA he rfl rfl ⟨hR.1, Nat.le_trans (by decide) hR.2⟩ rfl hsize rfl hW hdg hf (kI kk)
  | 2, he, kk => exact g_virt (n := 1) (As := [.int day]) (rest := rest) (ci := 6) (cq := (RX6, TX6, 4)) ⟨hl, mw_184, mw_182, mw_201, mw_202, mw_5, mw_203, ⟨_, _, _, mw_219⟩, by decide +kernel⟩ X (c_X6_valueOn l D tys 3 (by decide) he (by decide) day) hP hD hS hA he rfl rfl ⟨hR.1, Nat.le_trans (by decide) hR.2⟩ rfl hsize rfl hW hdg hf (kI kk)
  | 3, he, kk => exact g_virt (n := 1) (As := [.int day]) (rest := rest) (ci := 7) (cq := (RX7, TX7, 5)) ⟨hl, mw_184, mw_182, mw_215, mw_216, mw_6, mw_217, ⟨_, _, _, mw_219⟩, by decide +kernel⟩ X (c_X7_valueOn l D tys 3 (by decide) he rfl day) hP hD hS hA he rfl rfl ⟨hR.1, Nat.le_trans (by decide) hR.2⟩ rfl hsize rfl hW hdg hf (kI kk)
  | 4, he, kk => exact g_virt (n := 1) (As := [.int day]) (rest := rest) (ci := 5) (cq := (RX5, TX5, 4)) ⟨hl, mw_184, mw_182, mw_200, mw_186, mw_7, mw_187, ⟨_, _, _, mw_219⟩, by decide +kernel⟩ X (c_X5_valueOn l D tys 3 (by decide) he day) hP hD hS hA he rfl rfl ⟨hR.1, Nat.le_trans (by decide) hR.2⟩ rfl hsize rfl hW hdg hf (kI kk)
  | 5, he, kk => exact g_virt (n := 1) (As := [.int day]) (rest := rest) (ci := 0) (cq := (RX0, TX0, 4)) ⟨hl, mw_184, mw_182, mw_185, mw_186, mw_7, mw_187, ⟨_, _, _, mw_219⟩, by decide +kernel⟩ X (c_X5_valueOn l D tys 3 (by decide) he day) hP hD hS hA he rfl rfl ⟨hR.1, Nat.le_trans (by decide) hR.2⟩ rfl hsize rfl hW hdg hf (kI kk)
  | 6, he, kk => exact g_virt (n := 1) (As := [.int day]) (rest := rest) (ci := 3) (cq := (RX3, TX3, 5)) ⟨hl, mw_184, mw_182, mw_199, mw_193, mw_9, mw_194, ⟨_, _, _, mw_219⟩, by decide +kernel⟩ X (c_X3_valueOn l D tys 3 (by decide) he (by omega) day) hP hD hS hA he rfl rfl ⟨hR.1, Nat.le_trans (by decide) hR.2⟩ rfl hsize rfl hW hdg hf (kI kk)
  | n + 7, he, kk => exact g_virt (n := 1) (As := [.int day]) (rest := rest) (ci := 1) (cq := (RX1, TX1, 5)) ⟨hl, mw_184, mw_182, mw_189, mw_190, mw_10, mw_191, ⟨_, _, _, mw_219⟩, by decide +kernel⟩ X (c_X1_valueOn l D tys 3 (by decide) he (by omega) day) hP hD hS hA he rfl rfl ⟨hR.1, Nat.le_trans (by decide) hR.2⟩ rfl hsize rfl hW hdg hf (kI kk)
set_option maxHeartbeats 4000000 in
set_option maxRecDepth 100000 in
theorem dv_feeOf (X : Cx p m c meth s args own cc nL rt0 D tys) (hl : Cond.methodLink own idx yX4_feeOf ∈ wd_big) (hP : va_P D vwCl ws H) (hD : va_D A0 ws) (hS : va_S A0 H0 H locs) (hA : ∀ q, H0.size ≤ q → A0 q) (he : ws[q0]? = some (a, vo_E k kd fr am le po ls)) (hR : 2 ≤ R.frames ∧ 60 ≤ R.locals) (hsize : L.size = nL) (hW : (rest.map fun v => v.category).sum ≤ 8) (hdg : decode cc pc = .ok (.invokevirtual idx, 3)) (hf : cells ≤ R.cells ∧ slots ≤ R.slots) {g : Int32}
    (kk : ∀ (H1 : Heap) (locs1 : List Loc), va_P D vwCl ws H1 → va_D A0 ws → va_S A0 H0 H1 locs1 → W p l e R s m args below meth c H1 locs1 cells slots Q (F0 m (pc + 3) L (.int (vFee k po g) :: rest))) : W p l e R s m args below meth c H locs cells slots Q (F0 m pc L (.int g :: .ref a :: rest)) := by
  match k, he, kk with
  | 0, he, kk => exact g_virt (n := 1) (As := [.int g]) (rest := rest) (ci := 4) (cq := (RX4, TX4, 4)) ⟨hl, mw_227, mw_225, mw_226, mw_225, mw_3, mw_247, ⟨_, _, _, mw_247⟩, by decide +kernel⟩ X (c_X4_feeOf l D tys 1 (by decide) he g) hP hD hS hA he rfl rfl ⟨hR.1, Nat.le_trans (by decide) hR.2⟩ rfl hsize rfl hW hdg hf (kI kk)
  | 1, he, kk => exact g_virt (n := 1) (As := [.int g]) (rest := rest) (ci := 2) (cq := (RX2, TX2, 4)) ⟨hl, mw_227, mw_225, mw_238, mw_225, mw_3, mw_247, ⟨_, _, _, mw_247⟩, by decide +kernel⟩ X (c_X4_feeOf l D tys 1 (by decide) he g) hP hD hS hA he rfl rfl ⟨hR.1, Nat.le_trans (by decide) hR.2⟩ rfl hsize rfl hW hdg hf (kI kk)
  | 2, he, kk => exact g_virt (n := 1) (As := [.int g]) (rest := rest) (ci := 6) (cq := (RX6, TX6, 4)) ⟨hl, mw_227, mw_225, mw_241, mw_225, mw_3, mw_247, ⟨_, _, _, mw_247⟩, by decide +kernel⟩ X (c_X4_feeOf l D tys 1 (by decide) he g) hP hD hS hA he rfl rfl ⟨hR.1, Nat.le_trans (by decide) hR.2⟩ rfl hsize rfl hW hdg hf (kI kk)
  | 3, he, kk => exact g_virt (n := 1) (As := [.int g]) (rest := rest) (ci := 7) (cq := (RX7, TX7, 5)) ⟨hl, mw_227, mw_225, mw_242, mw_243, mw_6, mw_244, ⟨_, _, _, mw_247⟩, by decide +kernel⟩ X (c_X7_feeOf l D tys 1 (by decide) he g) hP hD hS hA he rfl rfl ⟨hR.1, Nat.le_trans (by decide) hR.2⟩ rfl hsize rfl hW hdg hf (kI kk)
  | 4, he, kk => exact g_virt (n := 1) (As := [.int g]) (rest := rest) (ci := 5) (cq := (RX5, TX5, 4)) ⟨hl, mw_227, mw_225, mw_240, mw_225, mw_3, mw_247, ⟨_, _, _, mw_247⟩, by decide +kernel⟩ X (c_X4_feeOf l D tys 1 (by decide) he g) hP hD hS hA he rfl rfl ⟨hR.1, Nat.le_trans (by decide) hR.2⟩ rfl hsize rfl hW hdg hf (kI kk)
  | 5, he, kk => exact g_virt (n := 1) (As := [.int g]) (rest := rest) (ci := 0) (cq := (RX0, TX0, 4)) ⟨hl, mw_227, mw_225, mw_228, mw_225, mw_3, mw_247, ⟨_, _, _, mw_247⟩, by decide +kernel⟩ X (c_X4_feeOf l D tys 1 (by decide) he g) hP hD hS hA he rfl rfl ⟨hR.1, Nat.le_trans (by decide) hR.2⟩ rfl hsize rfl hW hdg hf (kI kk)
  | 6, he, kk => exact g_virt (n := 1) (As := [.int g]) (rest := rest) (ci := 3) (cq := (RX3, TX3, 5)) ⟨hl, mw_227, mw_225, mw_239, mw_225, mw_3, mw_247, ⟨_, _, _, mw_247⟩, by decide +kernel⟩ X (c_X4_feeOf l D tys 1 (by decide) he g) hP hD hS hA he rfl rfl ⟨hR.1, Nat.le_trans (by decide) hR.2⟩ rfl hsize rfl hW hdg hf (kI kk)
  | n + 7, he, kk => exact g_virt (n := 1) (As := [.int g]) (rest := rest) (ci := 1) (cq := (RX1, TX1, 5)) ⟨hl, mw_227, mw_225, mw_229, mw_230, mw_10, mw_231, ⟨_, _, _, mw_247⟩, by decide +kernel⟩ X (c_X1_feeOf l D tys 1 (by decide) he (by omega) g) hP hD hS hA he rfl rfl ⟨hR.1, Nat.le_trans (by decide) hR.2⟩ rfl hsize rfl hW hdg hf (kI kk)
set_option maxHeartbeats 4000000 in
set_option maxRecDepth 100000 in
theorem dv_daysLeftOn (X : Cx p m c meth s args own cc nL rt0 D tys) (hl : Cond.methodLink own idx yX4_daysLeftOn ∈ wd_big) (hP : va_P D vwCl ws H) (hD : va_D A0 ws) (hS : va_S A0 H0 H locs) (hA : ∀ q, H0.size ≤ q → A0 q) (he : ws[q0]? = some (a, vo_E k kd fr am le po ls)) (hR : 2 ≤ R.frames ∧ 60 ≤ R.locals) (hsize : L.size = nL) (hW : (rest.map fun v => v.category).sum ≤ 8) (hdg : decode cc pc = .ok (.invokevirtual idx, 3)) (hf : cells ≤ R.cells ∧ slots ≤ R.slots) {day : Int32}
    (kk : ∀ (H1 : Heap) (locs1 : List Loc), va_P D vwCl ws H1 → va_D A0 ws → va_S A0 H0 H1 locs1 → W p l e R s m args below meth c H1 locs1 cells slots Q (F0 m (pc + 3) L (.int (vDays k fr day) :: rest))) : W p l e R s m args below meth c H locs cells slots Q (F0 m pc L (.int day :: .ref a :: rest)) := by
  match k, he, kk with
  | 0, he, kk => exact g_virt (n := 1) (As := [.int day]) (rest := rest) (ci := 4) (cq := (RX4, TX4, 4)) ⟨hl, mw_330, mw_328, mw_329, mw_328, mw_3, mw_341, ⟨_, _, _, mw_341⟩, by decide +kernel⟩ X (c_X4_daysLeftOn l D tys 1 (by decide) he day) hP hD hS hA he rfl rfl ⟨hR.1, Nat.le_trans (by decide) hR.2⟩ rfl hsize rfl hW hdg hf (kI kk)
  | 1, he, kk => exact g_virt (n := 1) (As := [.int day]) (rest := rest) (ci := 2) (cq := (RX2, TX2, 4)) ⟨hl, mw_330, mw_328, mw_333, mw_328, mw_3, mw_341, ⟨_, _, _, mw_341⟩, by decide +kernel⟩ X (c_X4_daysLeftOn l D tys 1 (by decide) he day) hP hD hS hA he rfl rfl ⟨hR.1, Nat.le_trans (by decide) hR.2⟩ rfl hsize rfl hW hdg hf (kI kk)
  | 2, he, kk => exact g_virt (n := 1) (As := [.int day]) (rest := rest) (ci := 6) (cq := (RX6, TX6, 4)) ⟨hl, mw_330, mw_328, mw_336, mw_337, mw_5, mw_338, ⟨_, _, _, mw_341⟩, by decide +kernel⟩ X (c_X6_daysLeftOn l D tys 1 (by decide) he (by decide) day) hP hD hS hA he rfl rfl ⟨hR.1, Nat.le_trans (by decide) hR.2⟩ rfl hsize rfl hW hdg hf (kI kk)
  | 3, he, kk => exact g_virt (n := 1) (As := [.int day]) (rest := rest) (ci := 7) (cq := (RX7, TX7, 5)) ⟨hl, mw_330, mw_328, mw_340, mw_337, mw_5, mw_338, ⟨_, _, _, mw_341⟩, by decide +kernel⟩ X (c_X6_daysLeftOn l D tys 1 (by decide) he (by decide) day) hP hD hS hA he rfl rfl ⟨hR.1, Nat.le_trans (by decide) hR.2⟩ rfl hsize rfl hW hdg hf (kI kk)
  | 4, he, kk => exact g_virt (n := 1) (As := [.int day]) (rest := rest) (ci := 5) (cq := (RX5, TX5, 4)) ⟨hl, mw_330, mw_328, mw_335, mw_328, mw_3, mw_341, ⟨_, _, _, mw_341⟩, by decide +kernel⟩ X (c_X4_daysLeftOn l D tys 1 (by decide) he day) hP hD hS hA he rfl rfl ⟨hR.1, Nat.le_trans (by decide) hR.2⟩ rfl hsize rfl hW hdg hf (kI kk)
  | 5, he, kk => exact g_virt (n := 1) (As := [.int day]) (rest := rest) (ci := 0) (cq := (RX0, TX0, 4)) ⟨hl, mw_330, mw_328, mw_331, mw_328, mw_3, mw_341, ⟨_, _, _, mw_341⟩, by decide +kernel⟩ X (c_X4_daysLeftOn l D tys 1 (by decide) he day) hP hD hS hA he rfl rfl ⟨hR.1, Nat.le_trans (by decide) hR.2⟩ rfl hsize rfl hW hdg hf (kI kk)
  | 6, he, kk => exact g_virt (n := 1) (As := [.int day]) (rest := rest) (ci := 3) (cq := (RX3, TX3, 5)) ⟨hl, mw_330, mw_328, mw_334, mw_328, mw_3, mw_341, ⟨_, _, _, mw_341⟩, by decide +kernel⟩ X (c_X4_daysLeftOn l D tys 1 (by decide) he day) hP hD hS hA he rfl rfl ⟨hR.1, Nat.le_trans (by decide) hR.2⟩ rfl hsize rfl hW hdg hf (kI kk)
  | n + 7, he, kk => exact g_virt (n := 1) (As := [.int day]) (rest := rest) (ci := 1) (cq := (RX1, TX1, 5)) ⟨hl, mw_330, mw_328, mw_332, mw_328, mw_3, mw_341, ⟨_, _, _, mw_341⟩, by decide +kernel⟩ X (c_X4_daysLeftOn l D tys 1 (by decide) he day) hP hD hS hA he rfl rfl ⟨hR.1, Nat.le_trans (by decide) hR.2⟩ rfl hsize rfl hW hdg hf (kI kk)
set_option maxHeartbeats 4000000 in
set_option maxRecDepth 100000 in
theorem dv_lapseOn (X : Cx p m c meth s args own cc nL rt0 D tys) (hl : Cond.methodLink own idx yX4_lapseOn ∈ wd_big) (hP : va_P D vwCl ws H) (hD : va_D A0 ws) (hS : va_S A0 H0 H locs) (hA : ∀ q, H0.size ≤ q → A0 q) (he : ws[q0]? = some (a, vo_E k kd fr am le po ls)) (hR : 2 ≤ R.frames ∧ 60 ≤ R.locals) (hsize : L.size = nL) (hW : (rest.map fun v => v.category).sum ≤ 8) (hdg : decode cc pc = .ok (.invokevirtual idx, 3)) (hf : cells ≤ R.cells ∧ slots ≤ R.slots) {day : Int32}
    (kk : ∀ (H1 : Heap) (locs1 : List Loc), va_P D vwCl (ws.set q0 (a, vo_E k kd fr am (vLL k fr le day) po ls)) H1 → va_D A0 (ws.set q0 (a, vo_E k kd fr am (vLL k fr le day) po ls)) → va_S A0 H0 H1 locs1 → W p l e R s m args below meth c H1 locs1 cells slots Q (F0 m (pc + 3) L (.int (vLR k fr le day) :: rest))) : W p l e R s m args below meth c H locs cells slots Q (F0 m pc L (.int day :: .ref a :: rest)) := by
  match k, he, kk with
  | 0, he, kk => exact g_virt (n := 1) (As := [.int day]) (rest := rest) (ci := 4) (cq := (RX4, TX4, 4)) ⟨hl, mw_349, mw_347, mw_348, mw_347, mw_3, mw_359, ⟨_, _, _, mw_359⟩, by decide +kernel⟩ X (c_X4_lapseOn l D tys 1 (by decide) he day) hP hD hS hA he rfl rfl ⟨hR.1, Nat.le_trans (by decide) hR.2⟩ rfl hsize rfl hW hdg hf (kW kk)
  | 1, he, kk => exact g_virt (n := 1) (As := [.int day]) (rest := rest) (ci := 2) (cq := (RX2, TX2, 4)) ⟨hl, mw_349, mw_347, mw_352, mw_347, mw_3, mw_359, ⟨_, _, _, mw_359⟩, by decide +kernel⟩ X (c_X4_lapseOn l D tys 1 (by decide) he day) hP hD hS hA he rfl rfl ⟨hR.1, Nat.le_trans (by decide) hR.2⟩ rfl hsize rfl hW hdg hf (kW kk)
  | 2, he, kk => exact g_virt (n := 1) (As := [.int day]) (rest := rest) (ci := 6) (cq := (RX6, TX6, 4)) ⟨hl, mw_349, mw_347, mw_355, mw_356, mw_5, mw_357, ⟨_, _, _, mw_359⟩, by decide +kernel⟩ X (c_X6_lapseOn l D tys 1 (by decide) he (by decide) day) hP hD hS hA he rfl rfl ⟨hR.1, Nat.le_trans (by decide) hR.2⟩ rfl hsize rfl hW hdg hf (kW kk)
  | 3, he, kk => exact g_virt (n := 1) (As := [.int day]) (rest := rest) (ci := 7) (cq := (RX7, TX7, 5)) ⟨hl, mw_349, mw_347, mw_358, mw_356, mw_5, mw_357, ⟨_, _, _, mw_359⟩, by decide +kernel⟩ X (c_X6_lapseOn l D tys 1 (by decide) he (by decide) day) hP hD hS hA he rfl rfl ⟨hR.1, Nat.le_trans (by decide) hR.2⟩ rfl hsize rfl hW hdg hf (kW kk)
  | 4, he, kk => exact g_virt (n := 1) (As := [.int day]) (rest := rest) (ci := 5) (cq := (RX5, TX5, 4)) ⟨hl, mw_349, mw_347, mw_354, mw_347, mw_3, mw_359, ⟨_, _, _, mw_359⟩, by decide +kernel⟩ X (c_X4_lapseOn l D tys 1 (by decide) he day) hP hD hS hA he rfl rfl ⟨hR.1, Nat.le_trans (by decide) hR.2⟩ rfl hsize rfl hW hdg hf (kW kk)
  | 5, he, kk => exact g_virt (n := 1) (As := [.int day]) (rest := rest) (ci := 0) (cq := (RX0, TX0, 4)) ⟨hl, mw_349, mw_347, mw_350, mw_347, mw_3, mw_359, ⟨_, _, _, mw_359⟩, by decide +kernel⟩ X (c_X4_lapseOn l D tys 1 (by decide) he day) hP hD hS hA he rfl rfl ⟨hR.1, Nat.le_trans (by decide) hR.2⟩ rfl hsize rfl hW hdg hf (kW kk)
  | 6, he, kk => exact g_virt (n := 1) (As := [.int day]) (rest := rest) (ci := 3) (cq := (RX3, TX3, 5)) ⟨hl, mw_349, mw_347, mw_353, mw_347, mw_3, mw_359, ⟨_, _, _, mw_359⟩, by decide +kernel⟩ X (c_X4_lapseOn l D tys 1 (by decide) he day) hP hD hS hA he rfl rfl ⟨hR.1, Nat.le_trans (by decide) hR.2⟩ rfl hsize rfl hW hdg hf (kW kk)
  | n + 7, he, kk => exact g_virt (n := 1) (As := [.int day]) (rest := rest) (ci := 1) (cq := (RX1, TX1, 5)) ⟨hl, mw_349, mw_347, mw_351, mw_347, mw_3, mw_359, ⟨_, _, _, mw_359⟩, by decide +kernel⟩ X (c_X4_lapseOn l D tys 1 (by decide) he day) hP hD hS hA he rfl rfl ⟨hR.1, Nat.le_trans (by decide) hR.2⟩ rfl hsize rfl hW hdg hf (kW kk)
end DB
