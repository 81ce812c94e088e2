theorem sw_in {x : Int32} {n : Nat} (hn : n < 2 ^ 31) (h : ¬ (x.toInt < 0 ∨ (n : Int) - 1 < x.toInt)) : ∃ j : Nat, j < n ∧ x = nI j := by
  have h1 : ¬ x < 0 := fun z => h (Or.inl (by have := Int32.lt_iff_toInt_lt.mp z; simpa using this))
  obtain ⟨j, hj, rfl⟩ := nI_of h1
  refine ⟨j, ?_, rfl⟩
  rw [nI_toInt hj] at h
  omega
theorem sw_5 {x : Int32} (h : ¬ (x.toInt < 0 ∨ 4 < x.toInt)) : x = 0 ∨ x = 1 ∨ x = 2 ∨ x = 3 ∨ x = 4 := by
  obtain ⟨j, hj, rfl⟩ := sw_in (n := 5) (by decide) h
  rcases (by omega : j = 0 ∨ j = 1 ∨ j = 2 ∨ j = 3 ∨ j = 4) with rfl | rfl | rfl | rfl | rfl <;> decide
theorem sw_6 {x : Int32} (h : ¬ (x.toInt < 0 ∨ 5 < x.toInt)) : x = 0 ∨ x = 1 ∨ x = 2 ∨ x = 3 ∨ x = 4 ∨ x = 5 := by
  obtain ⟨j, hj, rfl⟩ := sw_in (n := 6) (by decide) h
  rcases (by omega : j = 0 ∨ j = 1 ∨ j = 2 ∨ j = 3 ∨ j = 4 ∨ j = 5) with rfl | rfl | rfl | rfl | rfl | rfl <;> decide
theorem sw_7 {x : Int32} (h : ¬ (x.toInt < 0 ∨ 6 < x.toInt)) : x = 0 ∨ x = 1 ∨ x = 2 ∨ x = 3 ∨ x = 4 ∨ x = 5 ∨ x = 6 := by
  obtain ⟨j, hj, rfl⟩ := sw_in (n := 7) (by decide) h
  rcases (by omega : j = 0 ∨ j = 1 ∨ j = 2 ∨ j = 3 ∨ j = 4 ∨ j = 5 ∨ j = 6) with rfl | rfl | rfl | rfl | rfl | rfl | rfl <;> decide
theorem sw_out {x y : Int32} {n : Int} (h : x.toInt < 0 ∨ n < x.toInt) (hy : 0 ≤ y.toInt ∧ y.toInt ≤ n) : ¬ x = y := fun z => by
  subst z
  omega
set_option maxHeartbeats 4000000 in
set_option maxRecDepth 100000 in
theorem c_X9_pass (l : Launch) (D : va_G) (cI cZ cP : ClassId) (d : Nat) (hd : 1 ≤ d) {ws : va_W} {h : Nat} {q ad : Nat → Nat} {sc : Nat → Int32} {ar : Nat → Nat → Int32} (hm : mo_at cI cZ ws h q ad sc ar) (dd : Int32) : Ct l D (vTy cI cZ cP) yX9_pass cX9_pass 2 (some .int) d 0 0 [.ref h, .int dd] ws (pM cI cZ h q ad (mPass sc ar dd) ws) := by
  refine ct_intro (by decide) (Nat.le_of_ble_eq_true rfl) ?_
  intro p e s m below meth c A L X hin hP hD hS hA hl
  have hl : lv_has L 2 [(0, .ref h), (1, .int dd)] := hl
  obtain ⟨hx, hb, hr, hml, hown, hts, hK, hlk, hxK⟩ := id X
  have hfr := mo_fr_rf ws
  refine lv_iload_n hx hb dX9_pass_0 rfl (lv_at hl 1 rfl) ?_
  refine lv_iconst (v := 1) hx hb dX9_pass_1 (by decide) ?_
  refine lv_sipush (v := 1000) hx hb dX9_pass_2 (by decide) ?_
  refine g_static (As := [.int dd, .int 1, .int 1000]) (rest := []) sw_X9_36 X (c_X9_within l D (vTy cI cZ cP) 0 (by decide) ws dd 1 1000) hP hD hS hA ⟨by show _ ≤ d; omega, by show _ ≤ 30 * d; omega⟩ rfl hl.1 rfl (Nat.le_of_ble_eq_true rfl) dX9_pass_5 ⟨Nat.le_refl _, Nat.le_refl _⟩ (kI fun H locs hP hD hS => ?_)
  refine W.eq (g2 := F0 m 8 L [.int (mWin dd 1 1000)]) rfl ?_
  refine lv_if_ne (tgt := 14) hx hb dX9_pass_8 (by decide) (fun c_8 => ?_) (fun c_8 => ?_)
  · -- c_8 True
    refine lv_aload_n hx hb dX9_pass_14 rfl (lv_at hl 0 rfl) ?_
    refine mo_g0 X hP hm mw_449 dX9_pass_15 ?_
    refine lv_iload_n hx hb dX9_pass_18 rfl (lv_at hl 1 rfl) ?_
    refine lv_iadd hx hb dX9_pass_19 ?_
    refine lv_sipush (v := 20000) hx hb dX9_pass_20 (by decide) ?_
    refine lv_icmp_le (tgt := 29) hx hb dX9_pass_23 (by decide) (fun c_23 => ?_) (fun c_23 => ?_)
    · -- c_23 True
      refine lv_aload_n hx hb dX9_pass_29 rfl (lv_at hl 0 rfl) ?_
      refine lv_dup hx hb dX9_pass_30 rfl ?_
      refine mo_g0 X hP hm mw_449 dX9_pass_31 ?_
      refine lv_iload_n hx hb dX9_pass_34 rfl (lv_at hl 1 rfl) ?_
      refine lv_iadd hx hb dX9_pass_35 ?_
      refine mo_p0 X hP hD hS hm hfr mw_449 dX9_pass_36 (fun ws H locs hP hD hS hm hfr => ?_)
      refine lv_aload_n hx hb dX9_pass_39 rfl (lv_at hl 0 rfl) ?_
      refine mo_g0 X hP hm mw_449 dX9_pass_40 ?_
      exact e_int X hP hD hS dX9_pass_43 (pM_of hm hfr (by first | (simp only [mPass, if_neg c_8, if_pos c_23]; done) | (simp only [mPass, if_neg c_8, if_pos c_23]; rfl)))
    · -- c_23 False
      refine lv_bipush (v := (-4)) hx hb dX9_pass_26 (by decide) ?_
      exact e_int X hP hD hS dX9_pass_28 (pM_of hm hfr (by first | (simp only [mPass, if_neg c_8, if_neg c_23]; done) | (simp only [mPass, if_neg c_8, if_neg c_23]; rfl)))
  · -- c_8 False
    refine lv_bipush (v := (-2)) hx hb dX9_pass_11 (by decide) ?_
    exact e_int X hP hD hS dX9_pass_13 (pM_of hm hfr (by first | (simp only [mPass, if_pos c_8]; done) | (simp only [mPass, if_pos c_8]; rfl)))
set_option maxHeartbeats 4000000 in
set_option maxRecDepth 100000 in
theorem c_X9_value (l : Launch) (D : va_G) (cI cZ cP : ClassId) (d : Nat) (hd : 2 ≤ d) {ws : va_W} {h : Nat} {q ad : Nat → Nat} {sc : Nat → Int32} {ar : Nat → Nat → Int32} (hm : mo_at cI cZ ws h q ad sc ar) {n : Nat} (hn : sc 1 = nI n) (h40 : n ≤ 40) (v t : Int32) : Ct l D (vTy cI cZ cP) yX9_value cX9_value 3 (some .int) d 0 0 [.ref h, .int v, .int t] ws (pI ws (mValue sc ar v t)) := by
  refine ct_intro (by decide) (Nat.le_of_ble_eq_true rfl) ?_
  intro p e s m below meth c A L X hin hP hD hS hA hl
  have hl : lv_has L 3 [(0, .ref h), (1, .int v), (2, .int t)] := hl
  obtain ⟨hx, hb, hr, hml, hown, hts, hK, hlk, hxK⟩ := id X
  have hfr := mo_fr_rf ws
  refine lv_aload_n hx hb dX9_value_0 rfl (lv_at hl 0 rfl) ?_
  refine lv_iload_n hx hb dX9_value_1 rfl (lv_at hl 1 rfl) ?_
  refine g_priv (ci := 9) (cq := (RX9, TX9, 13)) (As := [.int v]) (rest := []) pw_X9_58 X (c_X9_isThere l D cI cZ cP 1 (by decide) hm hn h40 v) hP hD hS hA hm.1 rfl rfl ⟨by show _ ≤ d; omega, by show _ ≤ 30 * d; omega⟩ rfl hl.1 rfl (Nat.le_of_ble_eq_true rfl) dX9_value_2 ⟨Nat.le_refl _, Nat.le_refl _⟩ (kI fun H locs hP hD hS => ?_)
  refine W.eq (g2 := F0 m 5 L [.int (mThe sc ar v)]) rfl ?_
  refine lv_if_ne (tgt := 10) hx hb dX9_value_5 (by decide) (fun c_5 => ?_) (fun c_5 => ?_)
  · -- c_5 True
    have hv_5 := the_vp hn h40 c_5
    refine lv_iload_n hx hb dX9_value_10 rfl (lv_at hl 2 rfl) ?_
    refine lv_iconst (v := 0) hx hb dX9_value_11 (by decide) ?_
    refine lv_sipush (v := 20000) hx hb dX9_value_12 (by decide) ?_
    refine g_static (As := [.int t, .int 0, .int 20000]) (rest := []) sw_X9_36 X (c_X9_within l D (vTy cI cZ cP) 0 (by decide) ws t 0 20000) hP hD hS hA ⟨by show _ ≤ d; omega, by show _ ≤ 30 * d; omega⟩ rfl hl.1 rfl (Nat.le_of_ble_eq_true rfl) dX9_value_15 ⟨Nat.le_refl _, Nat.le_refl _⟩ (kI fun H locs hP hD hS => ?_)
    refine W.eq (g2 := F0 m 18 L [.int (mWin t 0 20000)]) rfl ?_
    refine lv_if_eq (tgt := 30) hx hb dX9_value_18 (by decide) (fun c_18 => ?_) (fun c_18 => ?_)
    · -- c_18 True
      refine lv_bipush (v := (-2)) hx hb dX9_value_30 (by decide) ?_
      exact e_int X hP hD hS dX9_value_32 ⟨by first | rfl | simp only [mValue, if_neg c_5, if_pos c_18] | (simp only [mValue, if_neg c_5, if_pos c_18]; rfl), rfl⟩
    · -- c_18 False
      refine lv_aload_n hx hb dX9_value_21 rfl (lv_at hl 0 rfl) ?_
      refine lv_iload_n hx hb dX9_value_22 rfl (lv_at hl 1 rfl) ?_
      refine lv_iload_n hx hb dX9_value_23 rfl (lv_at hl 2 rfl) ?_
      refine g_priv (ci := 9) (cq := (RX9, TX9, 13)) (As := [.int v, .int t]) (rest := []) pw_X9_61 X (c_X9_valueOf l D cI cZ cP 1 (by decide) hm hv_5 t) hP hD hS hA hm.1 rfl rfl ⟨by show _ ≤ d; omega, by show _ ≤ 30 * d; omega⟩ rfl hl.1 rfl (Nat.le_of_ble_eq_true rfl) dX9_value_24 ⟨Nat.le_refl _, Nat.le_refl _⟩ (kI fun H locs hP hD hS => ?_)
      refine W.eq (g2 := F0 m 27 L [.int (mVal ar (mI v) t)]) rfl ?_
      refine lv_goto (tgt := 32) hx hb dX9_value_27 (by decide) ?_
      exact e_int X hP hD hS dX9_value_32 ⟨by first | rfl | simp only [mValue, if_neg c_5, if_neg c_18] | (simp only [mValue, if_neg c_5, if_neg c_18]; rfl), rfl⟩
  · -- c_5 False
    refine lv_iconst (v := (-1)) hx hb dX9_value_8 (by decide) ?_
    exact e_int X hP hD hS dX9_value_9 ⟨by first | rfl | simp only [mValue, if_pos c_5] | (simp only [mValue, if_pos c_5]; rfl), rfl⟩
set_option maxHeartbeats 4000000 in
set_option maxRecDepth 100000 in
theorem c_X9_fee (l : Launch) (D : va_G) (cI cZ cP : ClassId) (d : Nat) (hd : 2 ≤ d) {ws : va_W} {h : Nat} {q ad : Nat → Nat} {sc : Nat → Int32} {ar : Nat → Nat → Int32} (hm : mo_at cI cZ ws h q ad sc ar) {n : Nat} (hn : sc 1 = nI n) (h40 : n ≤ 40) (v g : Int32) : Ct l D (vTy cI cZ cP) yX9_fee cX9_fee 3 (some .int) d 0 0 [.ref h, .int v, .int g] ws (pI ws (mFeeP sc ar v g)) := by
  refine ct_intro (by decide) (Nat.le_of_ble_eq_true rfl) ?_
  intro p e s m below meth c A L X hin hP hD hS hA hl
  have hl : lv_has L 3 [(0, .ref h), (1, .int v), (2, .int g)] := hl
  obtain ⟨hx, hb, hr, hml, hown, hts, hK, hlk, hxK⟩ := id X
  have hfr := mo_fr_rf ws
  refine lv_aload_n hx hb dX9_fee_0 rfl (lv_at hl 0 rfl) ?_
  refine lv_iload_n hx hb dX9_fee_1 rfl (lv_at hl 1 rfl) ?_
  refine g_priv (ci := 9) (cq := (RX9, TX9, 13)) (As := [.int v]) (rest := []) pw_X9_58 X (c_X9_isThere l D cI cZ cP 1 (by decide) hm hn h40 v) hP hD hS hA hm.1 rfl rfl ⟨by show _ ≤ d; omega, by show _ ≤ 30 * d; omega⟩ rfl hl.1 rfl (Nat.le_of_ble_eq_true rfl) dX9_fee_2 ⟨Nat.le_refl _, Nat.le_refl _⟩ (kI fun H locs hP hD hS => ?_)
  refine W.eq (g2 := F0 m 5 L [.int (mThe sc ar v)]) rfl ?_
  refine lv_if_ne (tgt := 10) hx hb dX9_fee_5 (by decide) (fun c_5 => ?_) (fun c_5 => ?_)
  · -- c_5 True
    have hv_5 := the_vp hn h40 c_5
    refine lv_iload_n hx hb dX9_fee_10 rfl (lv_at hl 2 rfl) ?_
    refine lv_iconst (v := 1) hx hb dX9_fee_11 (by decide) ?_
    refine lv_ldc (v := 100000) hx hb hown (hts _ mw_498) dX9_fee_12 ?_
    refine g_static (As := [.int g, .int 1, .int 100000]) (rest := []) sw_X9_36 X (c_X9_within l D (vTy cI cZ cP) 0 (by decide) ws g 1 100000) hP hD hS hA ⟨by show _ ≤ d; omega, by show _ ≤ 30 * d; omega⟩ rfl hl.1 rfl (Nat.le_of_ble_eq_true rfl) dX9_fee_14 ⟨Nat.le_refl _, Nat.le_refl _⟩ (kI fun H locs hP hD hS => ?_)
    refine W.eq (g2 := F0 m 17 L [.int (mWin g 1 100000)]) rfl ?_
    refine lv_if_eq (tgt := 29) hx hb dX9_fee_17 (by decide) (fun c_17 => ?_) (fun c_17 => ?_)
    · -- c_17 True
      refine lv_bipush (v := (-2)) hx hb dX9_fee_29 (by decide) ?_
      exact e_int X hP hD hS dX9_fee_31 ⟨by first | rfl | simp only [mFeeP, if_neg c_5, if_pos c_17] | (simp only [mFeeP, if_neg c_5, if_pos c_17]; rfl), rfl⟩
    · -- c_17 False
      refine lv_aload_n hx hb dX9_fee_20 rfl (lv_at hl 0 rfl) ?_
      refine lv_iload_n hx hb dX9_fee_21 rfl (lv_at hl 1 rfl) ?_
      refine lv_iload_n hx hb dX9_fee_22 rfl (lv_at hl 2 rfl) ?_
      refine g_priv (ci := 9) (cq := (RX9, TX9, 13)) (As := [.int v, .int g]) (rest := []) pw_X9_65 X (c_X9_feeOf l D cI cZ cP 0 (by decide) hm hv_5 g) hP hD hS hA hm.1 rfl rfl ⟨by show _ ≤ d; omega, by show _ ≤ 30 * d; omega⟩ rfl hl.1 rfl (Nat.le_of_ble_eq_true rfl) dX9_fee_23 ⟨Nat.le_refl _, Nat.le_refl _⟩ (kI fun H locs hP hD hS => ?_)
      refine W.eq (g2 := F0 m 26 L [.int (mFee ar (mI v) g)]) rfl ?_
      refine lv_goto (tgt := 31) hx hb dX9_fee_26 (by decide) ?_
      exact e_int X hP hD hS dX9_fee_31 ⟨by first | rfl | simp only [mFeeP, if_neg c_5, if_neg c_17] | (simp only [mFeeP, if_neg c_5, if_neg c_17]; rfl), rfl⟩
  · -- c_5 False
    refine lv_iconst (v := (-1)) hx hb dX9_fee_8 (by decide) ?_
    exact e_int X hP hD hS dX9_fee_9 ⟨by first | rfl | simp only [mFeeP, if_pos c_5] | (simp only [mFeeP, if_pos c_5]; rfl), rfl⟩
set_option maxHeartbeats 4000000 in
set_option maxRecDepth 100000 in
theorem c_X9_seal (l : Launch) (D : va_G) (cI cZ cP : ClassId) (d : Nat) (hd : 2 ≤ d) {ws : va_W} {h : Nat} {q ad : Nat → Nat} {sc : Nat → Int32} {ar : Nat → Nat → Int32} (hm : mo_at cI cZ ws h q ad sc ar) {n : Nat} (hn : sc 1 = nI n) (h40 : n ≤ 40) (v : Int32) : Ct l D (vTy cI cZ cP) yX9_seal cX9_seal 2 (some .int) d 0 0 [.ref h, .int v] ws (pI ws (mSealP sc ar v)) := by
  refine ct_intro (by decide) (Nat.le_of_ble_eq_true rfl) ?_
  intro p e s m below meth c A L X hin hP hD hS hA hl
  have hl : lv_has L 2 [(0, .ref h), (1, .int v)] := hl
  obtain ⟨hx, hb, hr, hml, hown, hts, hK, hlk, hxK⟩ := id X
  have hfr := mo_fr_rf ws
  refine lv_aload_n hx hb dX9_seal_0 rfl (lv_at hl 0 rfl) ?_
  refine lv_iload_n hx hb dX9_seal_1 rfl (lv_at hl 1 rfl) ?_
  refine g_priv (ci := 9) (cq := (RX9, TX9, 13)) (As := [.int v]) (rest := []) pw_X9_58 X (c_X9_isThere l D cI cZ cP 1 (by decide) hm hn h40 v) hP hD hS hA hm.1 rfl rfl ⟨by show _ ≤ d; omega, by show _ ≤ 30 * d; omega⟩ rfl hl.1 rfl (Nat.le_of_ble_eq_true rfl) dX9_seal_2 ⟨Nat.le_refl _, Nat.le_refl _⟩ (kI fun H locs hP hD hS => ?_)
  refine W.eq (g2 := F0 m 5 L [.int (mThe sc ar v)]) rfl ?_
  refine lv_if_eq (tgt := 16) hx hb dX9_seal_5 (by decide) (fun c_5 => ?_) (fun c_5 => ?_)
  · -- c_5 True
    refine lv_iconst (v := (-1)) hx hb dX9_seal_16 (by decide) ?_
    exact e_int X hP hD hS dX9_seal_17 ⟨by first | rfl | simp only [mSealP, if_pos c_5] | (simp only [mSealP, if_pos c_5]; rfl), rfl⟩
  · -- c_5 False
    have hv_5 := the_vp hn h40 c_5
    refine lv_aload_n hx hb dX9_seal_8 rfl (lv_at hl 0 rfl) ?_
    refine lv_iload_n hx hb dX9_seal_9 rfl (lv_at hl 1 rfl) ?_
    refine g_priv (ci := 9) (cq := (RX9, TX9, 13)) (As := [.int v]) (rest := []) pw_X9_74 X (c_X9_sealOf l D cI cZ cP 1 (by decide) hm hv_5 ) hP hD hS hA hm.1 rfl rfl ⟨by show _ ≤ d; omega, by show _ ≤ 30 * d; omega⟩ rfl hl.1 rfl (Nat.le_of_ble_eq_true rfl) dX9_seal_10 ⟨Nat.le_refl _, Nat.le_refl _⟩ (kI fun H locs hP hD hS => ?_)
    refine W.eq (g2 := F0 m 13 L [.int (mSeal ar (mI v))]) rfl ?_
    refine lv_goto (tgt := 17) hx hb dX9_seal_13 (by decide) ?_
    exact e_int X hP hD hS dX9_seal_17 ⟨by first | rfl | simp only [mSealP, if_neg c_5] | (simp only [mSealP, if_neg c_5]; rfl), rfl⟩
set_option maxHeartbeats 4000000 in
set_option maxRecDepth 100000 in
theorem c_X9_mark (l : Launch) (D : va_G) (cI cZ cP : ClassId) (d : Nat) (hd : 2 ≤ d) {ws : va_W} {h : Nat} {q ad : Nat → Nat} {sc : Nat → Int32} {ar : Nat → Nat → Int32} (hm : mo_at cI cZ ws h q ad sc ar) {n : Nat} (hn : sc 1 = nI n) (h40 : n ≤ 40) (v n0 : Int32) : Ct l D (vTy cI cZ cP) yX9_mark cX9_mark 3 (some .int) d 0 0 [.ref h, .int v, .int n0] ws (pI ws (mMark sc ar v n0)) := by
  refine ct_intro (by decide) (Nat.le_of_ble_eq_true rfl) ?_
  intro p e s m below meth c A L X hin hP hD hS hA hl
  have hl : lv_has L 3 [(0, .ref h), (1, .int v), (2, .int n0)] := hl
  obtain ⟨hx, hb, hr, hml, hown, hts, hK, hlk, hxK⟩ := id X
  have hfr := mo_fr_rf ws
  refine lv_aload_n hx hb dX9_mark_0 rfl (lv_at hl 0 rfl) ?_
  refine lv_iload_n hx hb dX9_mark_1 rfl (lv_at hl 1 rfl) ?_
  refine g_priv (ci := 9) (cq := (RX9, TX9, 13)) (As := [.int v]) (rest := []) pw_X9_58 X (c_X9_isThere l D cI cZ cP 1 (by decide) hm hn h40 v) hP hD hS hA hm.1 rfl rfl ⟨by show _ ≤ d; omega, by show _ ≤ 30 * d; omega⟩ rfl hl.1 rfl (Nat.le_of_ble_eq_true rfl) dX9_mark_2 ⟨Nat.le_refl _, Nat.le_refl _⟩ (kI fun H locs hP hD hS => ?_)
  refine W.eq (g2 := F0 m 5 L [.int (mThe sc ar v)]) rfl ?_
  refine lv_if_ne (tgt := 10) hx hb dX9_mark_5 (by decide) (fun c_5 => ?_) (fun c_5 => ?_)
  · -- c_5 True
    have hv_5 := the_vp hn h40 c_5
    refine lv_iload_n hx hb dX9_mark_10 rfl (lv_at hl 2 rfl) ?_
    refine lv_iconst (v := 0) hx hb dX9_mark_11 (by decide) ?_
    refine lv_sipush (v := 999) hx hb dX9_mark_12 (by decide) ?_
    refine g_static (As := [.int n0, .int 0, .int 999]) (rest := []) sw_X9_36 X (c_X9_within l D (vTy cI cZ cP) 0 (by decide) ws n0 0 999) hP hD hS hA ⟨by show _ ≤ d; omega, by show _ ≤ 30 * d; omega⟩ rfl hl.1 rfl (Nat.le_of_ble_eq_true rfl) dX9_mark_15 ⟨Nat.le_refl _, Nat.le_refl _⟩ (kI fun H locs hP hD hS => ?_)
    refine W.eq (g2 := F0 m 18 L [.int (mWin n0 0 999)]) rfl ?_
    refine lv_if_ne (tgt := 24) hx hb dX9_mark_18 (by decide) (fun c_18 => ?_) (fun c_18 => ?_)
    · -- c_18 True
      refine lv_aload_n hx hb dX9_mark_24 rfl (lv_at hl 0 rfl) ?_
      refine mo_r0 X hP hm mw_455 dX9_mark_25 ?_
      refine lv_iload_n hx hb dX9_mark_28 rfl (lv_at hl 1 rfl) ?_
      refine mo_a0 X hP hm hv_5 dX9_mark_29 ?_
      refine lv_iconst (v := 5) hx hb dX9_mark_30 (by decide) ?_
      refine lv_icmp_lt (tgt := 47) hx hb dX9_mark_31 (by decide) (fun c_31 => ?_) (fun c_31 => ?_)
      · -- c_31 True
        refine lv_bipush (v := (-3)) hx hb dX9_mark_47 (by decide) ?_
        exact e_int X hP hD hS dX9_mark_49 ⟨by first | rfl | simp only [mMark, if_neg c_5, if_neg c_18, if_pos c_31] | (simp only [mMark, if_neg c_5, if_neg c_18, if_pos c_31]; rfl), rfl⟩
      · -- c_31 False
        refine lv_aload_n hx hb dX9_mark_34 rfl (lv_at hl 0 rfl) ?_
        refine lv_iload_n hx hb dX9_mark_35 rfl (lv_at hl 1 rfl) ?_
        refine g_priv (ci := 9) (cq := (RX9, TX9, 13)) (As := [.int v]) (rest := []) pw_X9_74 X (c_X9_sealOf l D cI cZ cP 1 (by decide) hm hv_5 ) hP hD hS hA hm.1 rfl rfl ⟨by show _ ≤ d; omega, by show _ ≤ 30 * d; omega⟩ rfl hl.1 rfl (Nat.le_of_ble_eq_true rfl) dX9_mark_36 ⟨Nat.le_refl _, Nat.le_refl _⟩ (kI fun H locs hP hD hS => ?_)
        refine W.eq (g2 := F0 m 39 L [.int (mSeal ar (mI v))]) rfl ?_
        refine lv_bipush (v := 7) hx hb dX9_mark_39 (by decide) ?_
        refine lv_imul hx hb dX9_mark_41 ?_
        refine lv_iload_n hx hb dX9_mark_42 rfl (lv_at hl 2 rfl) ?_
        refine lv_iadd hx hb dX9_mark_43 ?_
        refine lv_goto (tgt := 49) hx hb dX9_mark_44 (by decide) ?_
        exact e_int X hP hD hS dX9_mark_49 ⟨by first | rfl | simp only [mMark, if_neg c_5, if_neg c_18, if_neg c_31] | (simp only [mMark, if_neg c_5, if_neg c_18, if_neg c_31]; rfl), rfl⟩
    · -- c_18 False
      refine lv_bipush (v := (-2)) hx hb dX9_mark_21 (by decide) ?_
      exact e_int X hP hD hS dX9_mark_23 ⟨by first | rfl | simp only [mMark, if_neg c_5, if_pos c_18] | (simp only [mMark, if_neg c_5, if_pos c_18]; rfl), rfl⟩
  · -- c_5 False
    refine lv_iconst (v := (-1)) hx hb dX9_mark_8 (by decide) ?_
    exact e_int X hP hD hS dX9_mark_9 ⟨by first | rfl | simp only [mMark, if_pos c_5] | (simp only [mMark, if_pos c_5]; rfl), rfl⟩
set_option maxHeartbeats 4000000 in
set_option maxRecDepth 100000 in
theorem c_X9_daysLeft (l : Launch) (D : va_G) (cI cZ cP : ClassId) (d : Nat) (hd : 2 ≤ d) {ws : va_W} {h : Nat} {q ad : Nat → Nat} {sc : Nat → Int32} {ar : Nat → Nat → Int32} (hm : mo_at cI cZ ws h q ad sc ar) {n : Nat} (hn : sc 1 = nI n) (h40 : n ≤ 40) (v t : Int32) : Ct l D (vTy cI cZ cP) yX9_daysLeft cX9_daysLeft 4 (some .int) d 0 0 [.ref h, .int v, .int t] ws (pI ws (mDays sc ar v t)) := by
  refine ct_intro (by decide) (Nat.le_of_ble_eq_true rfl) ?_
  intro p e s m below meth c A L X hin hP hD hS hA hl
  have hl : lv_has L 4 [(0, .ref h), (1, .int v), (2, .int t)] := hl
  obtain ⟨hx, hb, hr, hml, hown, hts, hK, hlk, hxK⟩ := id X
  have hfr := mo_fr_rf ws
  refine lv_aload_n hx hb dX9_daysLeft_0 rfl (lv_at hl 0 rfl) ?_
  refine lv_iload_n hx hb dX9_daysLeft_1 rfl (lv_at hl 1 rfl) ?_
  refine g_priv (ci := 9) (cq := (RX9, TX9, 13)) (As := [.int v]) (rest := []) pw_X9_58 X (c_X9_isThere l D cI cZ cP 1 (by decide) hm hn h40 v) hP hD hS hA hm.1 rfl rfl ⟨by show _ ≤ d; omega, by show _ ≤ 30 * d; omega⟩ rfl hl.1 rfl (Nat.le_of_ble_eq_true rfl) dX9_daysLeft_2 ⟨Nat.le_refl _, Nat.le_refl _⟩ (kI fun H locs hP hD hS => ?_)
  refine W.eq (g2 := F0 m 5 L [.int (mThe sc ar v)]) rfl ?_
  refine lv_if_ne (tgt := 10) hx hb dX9_daysLeft_5 (by decide) (fun c_5 => ?_) (fun c_5 => ?_)
  · -- c_5 True
    have hv_5 := the_vp hn h40 c_5
    refine lv_iload_n hx hb dX9_daysLeft_10 rfl (lv_at hl 2 rfl) ?_
    refine lv_iconst (v := 0) hx hb dX9_daysLeft_11 (by decide) ?_
    refine lv_sipush (v := 20000) hx hb dX9_daysLeft_12 (by decide) ?_
    refine g_static (As := [.int t, .int 0, .int 20000]) (rest := []) sw_X9_36 X (c_X9_within l D (vTy cI cZ cP) 0 (by decide) ws t 0 20000) hP hD hS hA ⟨by show _ ≤ d; omega, by show _ ≤ 30 * d; omega⟩ rfl hl.1 rfl (Nat.le_of_ble_eq_true rfl) dX9_daysLeft_15 ⟨Nat.le_refl _, Nat.le_refl _⟩ (kI fun H locs hP hD hS => ?_)
    refine W.eq (g2 := F0 m 18 L [.int (mWin t 0 20000)]) rfl ?_
    refine lv_if_ne (tgt := 24) hx hb dX9_daysLeft_18 (by decide) (fun c_18 => ?_) (fun c_18 => ?_)
    · -- c_18 True
      refine lv_aload_n hx hb dX9_daysLeft_24 rfl (lv_at hl 0 rfl) ?_
      refine lv_iload_n hx hb dX9_daysLeft_25 rfl (lv_at hl 1 rfl) ?_
      refine g_priv (ci := 9) (cq := (RX9, TX9, 13)) (As := [.int v]) (rest := []) pw_X9_40 X (c_X9_isDated l D cI cZ cP 0 (by decide) hm hv_5 ) hP hD hS hA hm.1 rfl rfl ⟨by show _ ≤ d; omega, by show _ ≤ 30 * d; omega⟩ rfl hl.1 rfl (Nat.le_of_ble_eq_true rfl) dX9_daysLeft_26 ⟨Nat.le_refl _, Nat.le_refl _⟩ (kI fun H locs hP hD hS => ?_)
      refine W.eq (g2 := F0 m 29 L [.int (mDat ar (mI v))]) rfl ?_
      refine lv_if_ne (tgt := 35) hx hb dX9_daysLeft_29 (by decide) (fun c_29 => ?_) (fun c_29 => ?_)
      · -- c_29 True
        refine lv_aload_n hx hb dX9_daysLeft_35 rfl (lv_at hl 0 rfl) ?_
        refine lv_iload_n hx hb dX9_daysLeft_36 rfl (lv_at hl 1 rfl) ?_
        refine g_priv (ci := 9) (cq := (RX9, TX9, 13)) (As := [.int v]) (rest := []) pw_X9_44 X (c_X9_lastDay l D cI cZ cP 0 (by decide) hm hv_5 ) hP hD hS hA hm.1 rfl rfl ⟨by show _ ≤ d; omega, by show _ ≤ 30 * d; omega⟩ rfl hl.1 rfl (Nat.le_of_ble_eq_true rfl) dX9_daysLeft_37 ⟨Nat.le_refl _, Nat.le_refl _⟩ (kI fun H locs hP hD hS => ?_)
        refine W.eq (g2 := F0 m 40 L [.int (mLast ar (mI v))]) rfl ?_
        refine lv_iload_n hx hb dX9_daysLeft_40 rfl (lv_at hl 2 rfl) ?_
        refine lv_isub hx hb dX9_daysLeft_41 ?_
        refine lv_istore_n (lv' := [(3, .int ((mLast ar (mI v)) - t)), (0, .ref h), (1, .int v), (2, .int t)]) hx hb dX9_daysLeft_42 rfl hl (by decide) rfl (fun L hl => ?_)
        refine lv_iload_n hx hb dX9_daysLeft_43 rfl (lv_at hl 0 rfl) ?_
        refine lv_if_le (tgt := 51) hx hb dX9_daysLeft_44 (by decide) (fun c_44 => ?_) (fun c_44 => ?_)
        · -- c_44 True
          refine lv_iconst (v := 0) hx hb dX9_daysLeft_51 (by decide) ?_
          exact e_int X hP hD hS dX9_daysLeft_52 ⟨by first | rfl | simp only [mDays, if_neg c_5, if_neg c_18, if_neg c_29, if_pos c_44] | (simp only [mDays, if_neg c_5, if_neg c_18, if_neg c_29, if_pos c_44]; rfl), rfl⟩
        · -- c_44 False
          refine lv_iload_n hx hb dX9_daysLeft_47 rfl (lv_at hl 0 rfl) ?_
          refine lv_goto (tgt := 52) hx hb dX9_daysLeft_48 (by decide) ?_
          exact e_int X hP hD hS dX9_daysLeft_52 ⟨by first | rfl | simp only [mDays, if_neg c_5, if_neg c_18, if_neg c_29, if_neg c_44] | (simp only [mDays, if_neg c_5, if_neg c_18, if_neg c_29, if_neg c_44]; rfl), rfl⟩
      · -- c_29 False
        refine lv_bipush (v := (-3)) hx hb dX9_daysLeft_32 (by decide) ?_
        exact e_int X hP hD hS dX9_daysLeft_34 ⟨by first | rfl | simp only [mDays, if_neg c_5, if_neg c_18, if_pos c_29] | (simp only [mDays, if_neg c_5, if_neg c_18, if_pos c_29]; rfl), rfl⟩
    · -- c_18 False
      refine lv_bipush (v := (-2)) hx hb dX9_daysLeft_21 (by decide) ?_
      exact e_int X hP hD hS dX9_daysLeft_23 ⟨by first | rfl | simp only [mDays, if_neg c_5, if_pos c_18] | (simp only [mDays, if_neg c_5, if_pos c_18]; rfl), rfl⟩
  · -- c_5 False
    refine lv_iconst (v := (-1)) hx hb dX9_daysLeft_8 (by decide) ?_
    exact e_int X hP hD hS dX9_daysLeft_9 ⟨by first | rfl | simp only [mDays, if_pos c_5] | (simp only [mDays, if_pos c_5]; rfl), rfl⟩
set_option maxHeartbeats 4000000 in
set_option maxRecDepth 100000 in
theorem c_X9_issue (l : Launch) (D : va_G) (cI cZ cP : ClassId) (d : Nat) (hd : 1 ≤ d) {ws : va_W} {h : Nat} {q ad : Nat → Nat} {sc : Nat → Int32} {ar : Nat → Nat → Int32} (hm : mo_at cI cZ ws h q ad sc ar) {n : Nat} (hn : sc 1 = nI n) (h40 : n ≤ 40) (k am : Int32) : Ct l D (vTy cI cZ cP) yX9_issue cX9_issue 4 (some .int) d 0 0 [.ref h, .int k, .int am] ws (pM cI cZ h q ad (mIssue sc ar k am) ws) := by
  refine ct_intro (by decide) (Nat.le_of_ble_eq_true rfl) ?_
  intro p e s m below meth c A L X hin hP hD hS hA hl
  have hl : lv_has L 4 [(0, .ref h), (1, .int k), (2, .int am)] := hl
  obtain ⟨hx, hb, hr, hml, hown, hts, hK, hlk, hxK⟩ := id X
  have hfr := mo_fr_rf ws
  refine lv_iload_n hx hb dX9_issue_0 rfl (lv_at hl 1 rfl) ?_
  refine lv_iconst (v := 0) hx hb dX9_issue_1 (by decide) ?_
  refine lv_bipush (v := 7) hx hb dX9_issue_2 (by decide) ?_
  refine g_static (As := [.int k, .int 0, .int 7]) (rest := []) sw_X9_36 X (c_X9_within l D (vTy cI cZ cP) 0 (by decide) ws k 0 7) hP hD hS hA ⟨by show _ ≤ d; omega, by show _ ≤ 30 * d; omega⟩ rfl hl.1 rfl (Nat.le_of_ble_eq_true rfl) dX9_issue_4 ⟨Nat.le_refl _, Nat.le_refl _⟩ (kI fun H locs hP hD hS => ?_)
  refine W.eq (g2 := F0 m 7 L [.int (mWin k 0 7)]) rfl ?_
  refine lv_if_eq (tgt := 20) hx hb dX9_issue_7 (by decide) (fun c_7 => ?_) (fun c_7 => ?_)
  · -- c_7 True
    refine lv_bipush (v := (-2)) hx hb dX9_issue_20 (by decide) ?_
    exact e_int X hP hD hS dX9_issue_22 (pM_of hm hfr (by first | (simp only [mIssue, if_pos c_7]; done) | (simp only [mIssue, if_pos c_7]; rfl)))
  · -- c_7 False
    refine lv_iload_n hx hb dX9_issue_10 rfl (lv_at hl 2 rfl) ?_
    refine lv_iconst (v := 1) hx hb dX9_issue_11 (by decide) ?_
    refine lv_ldc (v := 100000) hx hb hown (hts _ mw_498) dX9_issue_12 ?_
    refine g_static (As := [.int am, .int 1, .int 100000]) (rest := []) sw_X9_36 X (c_X9_within l D (vTy cI cZ cP) 0 (by decide) ws am 1 100000) hP hD hS hA ⟨by show _ ≤ d; omega, by show _ ≤ 30 * d; omega⟩ rfl hl.1 rfl (Nat.le_of_ble_eq_true rfl) dX9_issue_14 ⟨Nat.le_refl _, Nat.le_refl _⟩ (kI fun H locs hP hD hS => ?_)
    refine W.eq (g2 := F0 m 17 L [.int (mWin am 1 100000)]) rfl ?_
    refine lv_if_ne (tgt := 23) hx hb dX9_issue_17 (by decide) (fun c_17 => ?_) (fun c_17 => ?_)
    · -- c_17 True
      refine lv_aload_n hx hb dX9_issue_23 rfl (lv_at hl 0 rfl) ?_
      refine mo_g1 X hP hm mw_450 dX9_issue_24 ?_
      refine lv_bipush (v := 40) hx hb dX9_issue_27 (by decide) ?_
      refine lv_icmp_ne (tgt := 35) hx hb dX9_issue_29 (by decide) (fun c_29 => ?_) (fun c_29 => ?_)
      · -- c_29 True
        have hv : vp_in (sc 1) 40 := by
          rw [hn]; rw [hn] at c_29
          rcases Nat.lt_or_ge n 40 with q9 | q9
          · exact vp_in_nI q9 (by decide)
          · exact absurd (by rw [show n = 40 by omega]; rfl) c_29
        refine lv_aload_n hx hb dX9_issue_35 rfl (lv_at hl 0 rfl) ?_
        refine mo_g1 X hP hm mw_450 dX9_issue_36 ?_
        refine lv_istore_n (lv' := [(3, .int (sc 1)), (0, .ref h), (1, .int k), (2, .int am)]) hx hb dX9_issue_39 rfl hl (by decide) rfl (fun L hl => ?_)
        refine lv_aload_n hx hb dX9_issue_40 rfl (lv_at hl 1 rfl) ?_
        refine mo_r0 X hP hm mw_455 dX9_issue_41 ?_
        refine lv_iload_n hx hb dX9_issue_44 rfl (lv_at hl 0 rfl) ?_
        refine lv_iload_n hx hb dX9_issue_45 rfl (lv_at hl 2 rfl) ?_
        refine mo_s0 X hP hD hS hm hfr hv dX9_issue_46 (fun ws H locs hP hD hS hm hfr => ?_)
        refine lv_aload_n hx hb dX9_issue_47 rfl (lv_at hl 1 rfl) ?_
        refine mo_r1 X hP hm mw_456 dX9_issue_48 ?_
        refine lv_iload_n hx hb dX9_issue_51 rfl (lv_at hl 0 rfl) ?_
        refine lv_iload_n hx hb dX9_issue_52 rfl (lv_at hl 3 rfl) ?_
        refine mo_s1 X hP hD hS hm hfr hv dX9_issue_53 (fun ws H locs hP hD hS hm hfr => ?_)
        refine lv_aload_n hx hb dX9_issue_54 rfl (lv_at hl 1 rfl) ?_
        refine mo_r2 X hP hm mw_457 dX9_issue_55 ?_
        refine lv_iload_n hx hb dX9_issue_58 rfl (lv_at hl 0 rfl) ?_
        refine lv_iload_n hx hb dX9_issue_59 rfl (lv_at hl 3 rfl) ?_
        refine mo_s2 X hP hD hS hm hfr hv dX9_issue_60 (fun ws H locs hP hD hS hm hfr => ?_)
        refine lv_aload_n hx hb dX9_issue_61 rfl (lv_at hl 1 rfl) ?_
        refine mo_r3 X hP hm mw_458 dX9_issue_62 ?_
        refine lv_iload_n hx hb dX9_issue_65 rfl (lv_at hl 0 rfl) ?_
        refine lv_aload_n hx hb dX9_issue_66 rfl (lv_at hl 1 rfl) ?_
        refine mo_g0 X hP hm mw_449 dX9_issue_67 ?_
        refine mo_s3 X hP hD hS hm hfr hv dX9_issue_70 (fun ws H locs hP hD hS hm hfr => ?_)
        refine lv_aload_n hx hb dX9_issue_71 rfl (lv_at hl 1 rfl) ?_
        refine lv_dup hx hb dX9_issue_72 rfl ?_
        refine mo_g1 X hP hm mw_450 dX9_issue_73 ?_
        refine lv_iconst (v := 1) hx hb dX9_issue_76 (by decide) ?_
        refine lv_iadd hx hb dX9_issue_77 ?_
        refine mo_p1 X hP hD hS hm hfr mw_450 dX9_issue_78 (fun ws H locs hP hD hS hm hfr => ?_)
        refine lv_aload_n hx hb dX9_issue_81 rfl (lv_at hl 1 rfl) ?_
        refine lv_dup hx hb dX9_issue_82 rfl ?_
        refine mo_g2 X hP hm mw_451 dX9_issue_83 ?_
        refine lv_iload_n hx hb dX9_issue_86 rfl (lv_at hl 3 rfl) ?_
        refine lv_iadd hx hb dX9_issue_87 ?_
        refine mo_p2 X hP hD hS hm hfr mw_451 dX9_issue_88 (fun ws H locs hP hD hS hm hfr => ?_)
        refine lv_iload_n hx hb dX9_issue_91 rfl (lv_at hl 0 rfl) ?_
        exact e_int X hP hD hS dX9_issue_92 (pM_of hm hfr (by first | (simp only [mIssue, if_neg c_7, if_neg c_17, if_neg c_29]; done) | (simp only [mIssue, if_neg c_7, if_neg c_17, if_neg c_29]; rfl)))
      · -- c_29 False
        refine lv_bipush (v := (-4)) hx hb dX9_issue_32 (by decide) ?_
        exact e_int X hP hD hS dX9_issue_34 (pM_of hm hfr (by first | (simp only [mIssue, if_neg c_7, if_neg c_17, if_pos c_29]; done) | (simp only [mIssue, if_neg c_7, if_neg c_17, if_pos c_29]; rfl)))
    · -- c_17 False
      refine lv_bipush (v := (-2)) hx hb dX9_issue_20 (by decide) ?_
      exact e_int X hP hD hS dX9_issue_22 (pM_of hm hfr (by first | (simp only [mIssue, if_neg c_7, if_pos c_17]; done) | (simp only [mIssue, if_neg c_7, if_pos c_17]; rfl)))
set_option maxHeartbeats 4000000 in
set_option maxRecDepth 100000 in
theorem c_X9_spend (l : Launch) (D : va_G) (cI cZ cP : ClassId) (d : Nat) (hd : 2 ≤ d) {ws : va_W} {h : Nat} {q ad : Nat → Nat} {sc : Nat → Int32} {ar : Nat → Nat → Int32} (hm : mo_at cI cZ ws h q ad sc ar) {n : Nat} (hn : sc 1 = nI n) (h40 : n ≤ 40) (v g : Int32) : Ct l D (vTy cI cZ cP) yX9_spend cX9_spend 4 (some .int) d 0 0 [.ref h, .int v, .int g] ws (pM cI cZ h q ad (mSpend sc ar v g) ws) := by
  refine ct_intro (by decide) (Nat.le_of_ble_eq_true rfl) ?_
  intro p e s m below meth c A L X hin hP hD hS hA hl
  have hl : lv_has L 4 [(0, .ref h), (1, .int v), (2, .int g)] := hl
  obtain ⟨hx, hb, hr, hml, hown, hts, hK, hlk, hxK⟩ := id X
  have hfr := mo_fr_rf ws
  refine lv_aload_n hx hb dX9_spend_0 rfl (lv_at hl 0 rfl) ?_
  refine lv_iload_n hx hb dX9_spend_1 rfl (lv_at hl 1 rfl) ?_
  refine g_priv (ci := 9) (cq := (RX9, TX9, 13)) (As := [.int v]) (rest := []) pw_X9_58 X (c_X9_isThere l D cI cZ cP 1 (by decide) hm hn h40 v) hP hD hS hA hm.1 rfl rfl ⟨by show _ ≤ d; omega, by show _ ≤ 30 * d; omega⟩ rfl hl.1 rfl (Nat.le_of_ble_eq_true rfl) dX9_spend_2 ⟨Nat.le_refl _, Nat.le_refl _⟩ (kI fun H locs hP hD hS => ?_)
  refine W.eq (g2 := F0 m 5 L [.int (mThe sc ar v)]) rfl ?_
  refine lv_if_ne (tgt := 10) hx hb dX9_spend_5 (by decide) (fun c_5 => ?_) (fun c_5 => ?_)
  · -- c_5 True
    have hv_5 := the_vp hn h40 c_5
    refine lv_iload_n hx hb dX9_spend_10 rfl (lv_at hl 2 rfl) ?_
    refine lv_iconst (v := 1) hx hb dX9_spend_11 (by decide) ?_
    refine lv_ldc (v := 100000) hx hb hown (hts _ mw_498) dX9_spend_12 ?_
    refine g_static (As := [.int g, .int 1, .int 100000]) (rest := []) sw_X9_36 X (c_X9_within l D (vTy cI cZ cP) 0 (by decide) ws g 1 100000) hP hD hS hA ⟨by show _ ≤ d; omega, by show _ ≤ 30 * d; omega⟩ rfl hl.1 rfl (Nat.le_of_ble_eq_true rfl) dX9_spend_14 ⟨Nat.le_refl _, Nat.le_refl _⟩ (kI fun H locs hP hD hS => ?_)
    refine W.eq (g2 := F0 m 17 L [.int (mWin g 1 100000)]) rfl ?_
    refine lv_if_ne (tgt := 23) hx hb dX9_spend_17 (by decide) (fun c_17 => ?_) (fun c_17 => ?_)
    · -- c_17 True
      refine lv_aload_n hx hb dX9_spend_23 rfl (lv_at hl 0 rfl) ?_
      refine mo_r0 X hP hm mw_455 dX9_spend_24 ?_
      refine lv_iload_n hx hb dX9_spend_27 rfl (lv_at hl 1 rfl) ?_
      refine mo_a0 X hP hm hv_5 dX9_spend_28 ?_
      refine lv_iconst (v := 3) hx hb dX9_spend_29 (by decide) ?_
      refine lv_icmp_ne (tgt := 51) hx hb dX9_spend_30 (by decide) (fun c_30 => ?_) (fun c_30 => ?_)
      · -- c_30 True
        have ca : ¬ (ar 0 (mI v) = 3 ∧ ar 5 (mI v) = sc 0 + 1) := fun z => c_30 z.1
        refine lv_aload_n hx hb dX9_spend_51 rfl (lv_at hl 0 rfl) ?_
        refine lv_iload_n hx hb dX9_spend_52 rfl (lv_at hl 1 rfl) ?_
        refine lv_iload_n hx hb dX9_spend_53 rfl (lv_at hl 2 rfl) ?_
        refine g_priv (ci := 9) (cq := (RX9, TX9, 13)) (As := [.int v, .int g]) (rest := []) pw_X9_65 X (c_X9_feeOf l D cI cZ cP 0 (by decide) hm hv_5 g) hP hD hS hA hm.1 rfl rfl ⟨by show _ ≤ d; omega, by show _ ≤ 30 * d; omega⟩ rfl hl.1 rfl (Nat.le_of_ble_eq_true rfl) dX9_spend_54 ⟨Nat.le_refl _, Nat.le_refl _⟩ (kI fun H locs hP hD hS => ?_)
        refine W.eq (g2 := F0 m 57 L [.int (mFee ar (mI v) g)]) rfl ?_
        refine lv_istore_n (lv' := [(3, .int (mFee ar (mI v) g)), (0, .ref h), (1, .int v), (2, .int g)]) hx hb dX9_spend_57 rfl hl (by decide) rfl (fun L hl => ?_)
        refine lv_iload_n hx hb dX9_spend_58 rfl (lv_at hl 3 rfl) ?_
        refine lv_aload_n hx hb dX9_spend_59 rfl (lv_at hl 1 rfl) ?_
        refine lv_iload_n hx hb dX9_spend_60 rfl (lv_at hl 2 rfl) ?_
        refine lv_aload_n hx hb dX9_spend_61 rfl (lv_at hl 1 rfl) ?_
        refine mo_g0 X hP hm mw_449 dX9_spend_62 ?_
        refine g_priv (ci := 9) (cq := (RX9, TX9, 13)) (As := [.int v, .int (sc 0)]) (rest := [.int g]) pw_X9_61 X (c_X9_valueOf l D cI cZ cP 1 (by decide) hm hv_5 ((sc 0))) hP hD hS hA hm.1 rfl rfl ⟨by show _ ≤ d; omega, by show _ ≤ 30 * d; omega⟩ rfl hl.1 rfl (Nat.le_of_ble_eq_true rfl) dX9_spend_65 ⟨Nat.le_refl _, Nat.le_refl _⟩ (kI fun H locs hP hD hS => ?_)
        refine W.eq (g2 := F0 m 68 L [.int (mVal ar (mI v) (sc 0)), .int g]) rfl ?_
        refine lv_icmp_gt (tgt := 83) hx hb dX9_spend_68 (by decide) (fun c_68 => ?_) (fun c_68 => ?_)
        · -- c_68 True
          refine lv_bipush (v := (-5)) hx hb dX9_spend_83 (by decide) ?_
          exact e_int X hP hD hS dX9_spend_85 (pM_of hm hfr (by first | (simp only [mSpend, if_neg c_5, if_neg c_17, if_neg ca, if_pos c_68]; done) | (simp only [mSpend, if_neg c_5, if_neg c_17, if_neg ca, if_pos c_68]; exact Prod.ext (by simp [mSet, va_up, upd]) rfl)))
        · -- c_68 False
          refine lv_iload_n hx hb dX9_spend_71 rfl (lv_at hl 3 rfl) ?_
          refine lv_iload_n hx hb dX9_spend_72 rfl (lv_at hl 0 rfl) ?_
          refine lv_iadd hx hb dX9_spend_73 ?_
          refine lv_aload_n hx hb dX9_spend_74 rfl (lv_at hl 1 rfl) ?_
          refine mo_r2 X hP hm mw_457 dX9_spend_75 ?_
          refine lv_iload_n hx hb dX9_spend_78 rfl (lv_at hl 2 rfl) ?_
          refine mo_a2 X hP hm hv_5 dX9_spend_79 ?_
          refine lv_icmp_le (tgt := 86) hx hb dX9_spend_80 (by decide) (fun c_80 => ?_) (fun c_80 => ?_)
          · -- c_80 True
            refine lv_aload_n hx hb dX9_spend_86 rfl (lv_at hl 1 rfl) ?_
            refine mo_r2 X hP hm mw_457 dX9_spend_87 ?_
            refine lv_iload_n hx hb dX9_spend_90 rfl (lv_at hl 2 rfl) ?_
            refine lv_dup2_11 hx hb dX9_spend_91 rfl rfl ?_
            refine mo_a2 X hP hm hv_5 dX9_spend_92 ?_
            refine lv_iload_n hx hb dX9_spend_93 rfl (lv_at hl 3 rfl) ?_
            refine lv_iload_n hx hb dX9_spend_94 rfl (lv_at hl 0 rfl) ?_
            refine lv_iadd hx hb dX9_spend_95 ?_
            refine lv_isub hx hb dX9_spend_96 ?_
            refine mo_s2 X hP hD hS hm hfr hv_5 dX9_spend_97 (fun ws H locs hP hD hS hm hfr => ?_)
            refine lv_aload_n hx hb dX9_spend_98 rfl (lv_at hl 1 rfl) ?_
            refine mo_r5 X hP hm mw_460 dX9_spend_99 ?_
            refine lv_iload_n hx hb dX9_spend_102 rfl (lv_at hl 2 rfl) ?_
            refine lv_aload_n hx hb dX9_spend_103 rfl (lv_at hl 1 rfl) ?_
            refine mo_g0 X hP hm mw_449 dX9_spend_104 ?_
            refine lv_iconst (v := 1) hx hb dX9_spend_107 (by decide) ?_
            refine lv_iadd hx hb dX9_spend_108 ?_
            refine mo_s5 X hP hD hS hm hfr hv_5 dX9_spend_109 (fun ws H locs hP hD hS hm hfr => ?_)
            refine lv_aload_n hx hb dX9_spend_110 rfl (lv_at hl 1 rfl) ?_
            refine lv_dup hx hb dX9_spend_111 rfl ?_
            refine mo_g3 X hP hm mw_452 dX9_spend_112 ?_
            refine lv_iload_n hx hb dX9_spend_115 rfl (lv_at hl 3 rfl) ?_
            refine lv_iadd hx hb dX9_spend_116 ?_
            refine mo_p3 X hP hD hS hm hfr mw_452 dX9_spend_117 (fun ws H locs hP hD hS hm hfr => ?_)
            refine lv_aload_n hx hb dX9_spend_120 rfl (lv_at hl 1 rfl) ?_
            refine lv_dup hx hb dX9_spend_121 rfl ?_
            refine mo_g4 X hP hm mw_453 dX9_spend_122 ?_
            refine lv_iload_n hx hb dX9_spend_125 rfl (lv_at hl 0 rfl) ?_
            refine lv_iadd hx hb dX9_spend_126 ?_
            refine mo_p4 X hP hD hS hm hfr mw_453 dX9_spend_127 (fun ws H locs hP hD hS hm hfr => ?_)
            refine lv_aload_n hx hb dX9_spend_130 rfl (lv_at hl 1 rfl) ?_
            refine lv_iload_n hx hb dX9_spend_131 rfl (lv_at hl 2 rfl) ?_
            refine g_priv (ci := 9) (cq := (RX9, TX9, 13)) (As := [.int v]) (rest := []) pw_X9_48 X (c_X9_hasPoints l D cI cZ cP 0 (by decide) hm hv_5 ) hP hD hS hA hm.1 rfl rfl ⟨by show _ ≤ d; omega, by show _ ≤ 30 * d; omega⟩ rfl hl.1 rfl (Nat.le_of_ble_eq_true rfl) dX9_spend_132 ⟨Nat.le_refl _, Nat.le_refl _⟩ (kI fun H locs hP hD hS => ?_)
            refine W.eq (g2 := F0 m 135 L [.int (mHas (mSet (mSet ar 2 (mI v) ((ar 2 (mI v)) - (g + (mFee ar (mI v) g)))) 5 (mI v) ((sc 0) + 1)) (mI v))]) rfl ?_
            refine lv_if_eq (tgt := 151) hx hb dX9_spend_135 (by decide) (fun c_135 => ?_) (fun c_135 => ?_)
            · -- c_135 True
              have c_135 : mHas ar (mI v) = 0 := c_135
              refine lv_aload_n hx hb dX9_spend_151 rfl (lv_at hl 1 rfl) ?_
              refine mo_r2 X hP hm mw_457 dX9_spend_152 ?_
              refine lv_iload_n hx hb dX9_spend_155 rfl (lv_at hl 2 rfl) ?_
              refine mo_a2 X hP hm hv_5 dX9_spend_156 ?_
              exact e_int X hP hD hS dX9_spend_157 (pM_of hm hfr (by first | (simp only [mSpend, if_neg c_5, if_neg c_17, if_neg ca, if_neg c_68, if_pos c_80, if_pos c_135]; done) | (simp only [mSpend, if_neg c_5, if_neg c_17, if_neg ca, if_neg c_68, if_pos c_80, if_pos c_135]; exact Prod.ext (by simp [mSet, va_up, upd]) rfl)))
            · -- c_135 False
              have c_135 : ¬ mHas ar (mI v) = 0 := c_135
              refine lv_aload_n hx hb dX9_spend_138 rfl (lv_at hl 1 rfl) ?_
              refine mo_r4 X hP hm mw_459 dX9_spend_139 ?_
              refine lv_iload_n hx hb dX9_spend_142 rfl (lv_at hl 2 rfl) ?_
              refine lv_dup2_11 hx hb dX9_spend_143 rfl rfl ?_
              refine mo_a4 X hP hm hv_5 dX9_spend_144 ?_
              refine lv_iload_n hx hb dX9_spend_145 rfl (lv_at hl 3 rfl) ?_
              refine lv_bipush (v := 100) hx hb dX9_spend_146 (by decide) ?_
              refine lv_idiv hx hb dX9_spend_148 (by decide) ?_
              refine lv_iadd hx hb dX9_spend_149 ?_
              refine mo_s4 X hP hD hS hm hfr hv_5 dX9_spend_150 (fun ws H locs hP hD hS hm hfr => ?_)
              refine lv_aload_n hx hb dX9_spend_151 rfl (lv_at hl 1 rfl) ?_
              refine mo_r2 X hP hm mw_457 dX9_spend_152 ?_
              refine lv_iload_n hx hb dX9_spend_155 rfl (lv_at hl 2 rfl) ?_
              refine mo_a2 X hP hm hv_5 dX9_spend_156 ?_
              exact e_int X hP hD hS dX9_spend_157 (pM_of hm hfr (by first | (simp only [mSpend, if_neg c_5, if_neg c_17, if_neg ca, if_neg c_68, if_pos c_80, if_neg c_135]; done) | (simp only [mSpend, if_neg c_5, if_neg c_17, if_neg ca, if_neg c_68, if_pos c_80, if_neg c_135]; exact Prod.ext (by simp [mSet, va_up, upd]) rfl)))
          · -- c_80 False
            refine lv_bipush (v := (-5)) hx hb dX9_spend_83 (by decide) ?_
            exact e_int X hP hD hS dX9_spend_85 (pM_of hm hfr (by first | (simp only [mSpend, if_neg c_5, if_neg c_17, if_neg ca, if_neg c_68, if_neg c_80]; done) | (simp only [mSpend, if_neg c_5, if_neg c_17, if_neg ca, if_neg c_68, if_neg c_80]; exact Prod.ext (by simp [mSet, va_up, upd]) rfl)))
      · -- c_30 False
        refine lv_aload_n hx hb dX9_spend_33 rfl (lv_at hl 0 rfl) ?_
        refine mo_r5 X hP hm mw_460 dX9_spend_34 ?_
        refine lv_iload_n hx hb dX9_spend_37 rfl (lv_at hl 1 rfl) ?_
        refine mo_a5 X hP hm hv_5 dX9_spend_38 ?_
        refine lv_aload_n hx hb dX9_spend_39 rfl (lv_at hl 0 rfl) ?_
        refine mo_g0 X hP hm mw_449 dX9_spend_40 ?_
        refine lv_iconst (v := 1) hx hb dX9_spend_43 (by decide) ?_
        refine lv_iadd hx hb dX9_spend_44 ?_
        refine lv_icmp_ne (tgt := 51) hx hb dX9_spend_45 (by decide) (fun c_45 => ?_) (fun c_45 => ?_)
        · -- c_45 True
          have ca : ¬ (ar 0 (mI v) = 3 ∧ ar 5 (mI v) = sc 0 + 1) := fun z => c_45 z.2
          refine lv_aload_n hx hb dX9_spend_51 rfl (lv_at hl 0 rfl) ?_
          refine lv_iload_n hx hb dX9_spend_52 rfl (lv_at hl 1 rfl) ?_
          refine lv_iload_n hx hb dX9_spend_53 rfl (lv_at hl 2 rfl) ?_
          refine g_priv (ci := 9) (cq := (RX9, TX9, 13)) (As := [.int v, .int g]) (rest := []) pw_X9_65 X (c_X9_feeOf l D cI cZ cP 0 (by decide) hm hv_5 g) hP hD hS hA hm.1 rfl rfl ⟨by show _ ≤ d; omega, by show _ ≤ 30 * d; omega⟩ rfl hl.1 rfl (Nat.le_of_ble_eq_true rfl) dX9_spend_54 ⟨Nat.le_refl _, Nat.le_refl _⟩ (kI fun H locs hP hD hS => ?_)
          refine W.eq (g2 := F0 m 57 L [.int (mFee ar (mI v) g)]) rfl ?_
          refine lv_istore_n (lv' := [(3, .int (mFee ar (mI v) g)), (0, .ref h), (1, .int v), (2, .int g)]) hx hb dX9_spend_57 rfl hl (by decide) rfl (fun L hl => ?_)
          refine lv_iload_n hx hb dX9_spend_58 rfl (lv_at hl 3 rfl) ?_
          refine lv_aload_n hx hb dX9_spend_59 rfl (lv_at hl 1 rfl) ?_
          refine lv_iload_n hx hb dX9_spend_60 rfl (lv_at hl 2 rfl) ?_
          refine lv_aload_n hx hb dX9_spend_61 rfl (lv_at hl 1 rfl) ?_
          refine mo_g0 X hP hm mw_449 dX9_spend_62 ?_
          refine g_priv (ci := 9) (cq := (RX9, TX9, 13)) (As := [.int v, .int (sc 0)]) (rest := [.int g]) pw_X9_61 X (c_X9_valueOf l D cI cZ cP 1 (by decide) hm hv_5 ((sc 0))) hP hD hS hA hm.1 rfl rfl ⟨by show _ ≤ d; omega, by show _ ≤ 30 * d; omega⟩ rfl hl.1 rfl (Nat.le_of_ble_eq_true rfl) dX9_spend_65 ⟨Nat.le_refl _, Nat.le_refl _⟩ (kI fun H locs hP hD hS => ?_)
          refine W.eq (g2 := F0 m 68 L [.int (mVal ar (mI v) (sc 0)), .int g]) rfl ?_
          refine lv_icmp_gt (tgt := 83) hx hb dX9_spend_68 (by decide) (fun c_68 => ?_) (fun c_68 => ?_)
          · -- c_68 True
            refine lv_bipush (v := (-5)) hx hb dX9_spend_83 (by decide) ?_
            exact e_int X hP hD hS dX9_spend_85 (pM_of hm hfr (by first | (simp only [mSpend, if_neg c_5, if_neg c_17, if_neg ca, if_pos c_68]; done) | (simp only [mSpend, if_neg c_5, if_neg c_17, if_neg ca, if_pos c_68]; exact Prod.ext (by simp [mSet, va_up, upd]) rfl)))
          · -- c_68 False
            refine lv_iload_n hx hb dX9_spend_71 rfl (lv_at hl 3 rfl) ?_
            refine lv_iload_n hx hb dX9_spend_72 rfl (lv_at hl 0 rfl) ?_
            refine lv_iadd hx hb dX9_spend_73 ?_
            refine lv_aload_n hx hb dX9_spend_74 rfl (lv_at hl 1 rfl) ?_
            refine mo_r2 X hP hm mw_457 dX9_spend_75 ?_
            refine lv_iload_n hx hb dX9_spend_78 rfl (lv_at hl 2 rfl) ?_
            refine mo_a2 X hP hm hv_5 dX9_spend_79 ?_
            refine lv_icmp_le (tgt := 86) hx hb dX9_spend_80 (by decide) (fun c_80 => ?_) (fun c_80 => ?_)
            · -- c_80 True
              refine lv_aload_n hx hb dX9_spend_86 rfl (lv_at hl 1 rfl) ?_
              refine mo_r2 X hP hm mw_457 dX9_spend_87 ?_
              refine lv_iload_n hx hb dX9_spend_90 rfl (lv_at hl 2 rfl) ?_
              refine lv_dup2_11 hx hb dX9_spend_91 rfl rfl ?_
              refine mo_a2 X hP hm hv_5 dX9_spend_92 ?_
              refine lv_iload_n hx hb dX9_spend_93 rfl (lv_at hl 3 rfl) ?_
              refine lv_iload_n hx hb dX9_spend_94 rfl (lv_at hl 0 rfl) ?_
              refine lv_iadd hx hb dX9_spend_95 ?_
              refine lv_isub hx hb dX9_spend_96 ?_
              refine mo_s2 X hP hD hS hm hfr hv_5 dX9_spend_97 (fun ws H locs hP hD hS hm hfr => ?_)
              refine lv_aload_n hx hb dX9_spend_98 rfl (lv_at hl 1 rfl) ?_
              refine mo_r5 X hP hm mw_460 dX9_spend_99 ?_
              refine lv_iload_n hx hb dX9_spend_102 rfl (lv_at hl 2 rfl) ?_
              refine lv_aload_n hx hb dX9_spend_103 rfl (lv_at hl 1 rfl) ?_
              refine mo_g0 X hP hm mw_449 dX9_spend_104 ?_
              refine lv_iconst (v := 1) hx hb dX9_spend_107 (by decide) ?_
              refine lv_iadd hx hb dX9_spend_108 ?_
              refine mo_s5 X hP hD hS hm hfr hv_5 dX9_spend_109 (fun ws H locs hP hD hS hm hfr => ?_)
              refine lv_aload_n hx hb dX9_spend_110 rfl (lv_at hl 1 rfl) ?_
              refine lv_dup hx hb dX9_spend_111 rfl ?_
              refine mo_g3 X hP hm mw_452 dX9_spend_112 ?_
              refine lv_iload_n hx hb dX9_spend_115 rfl (lv_at hl 3 rfl) ?_
              refine lv_iadd hx hb dX9_spend_116 ?_
              refine mo_p3 X hP hD hS hm hfr mw_452 dX9_spend_117 (fun ws H locs hP hD hS hm hfr => ?_)
              refine lv_aload_n hx hb dX9_spend_120 rfl (lv_at hl 1 rfl) ?_
              refine lv_dup hx hb dX9_spend_121 rfl ?_
              refine mo_g4 X hP hm mw_453 dX9_spend_122 ?_
              refine lv_iload_n hx hb dX9_spend_125 rfl (lv_at hl 0 rfl) ?_
              refine lv_iadd hx hb dX9_spend_126 ?_
              refine mo_p4 X hP hD hS hm hfr mw_453 dX9_spend_127 (fun ws H locs hP hD hS hm hfr => ?_)
              refine lv_aload_n hx hb dX9_spend_130 rfl (lv_at hl 1 rfl) ?_
              refine lv_iload_n hx hb dX9_spend_131 rfl (lv_at hl 2 rfl) ?_
              refine g_priv (ci := 9) (cq := (RX9, TX9, 13)) (As := [.int v]) (rest := []) pw_X9_48 X (c_X9_hasPoints l D cI cZ cP 0 (by decide) hm hv_5 ) hP hD hS hA hm.1 rfl rfl ⟨by show _ ≤ d; omega, by show _ ≤ 30 * d; omega⟩ rfl hl.1 rfl (Nat.le_of_ble_eq_true rfl) dX9_spend_132 ⟨Nat.le_refl _, Nat.le_refl _⟩ (kI fun H locs hP hD hS => ?_)
              refine W.eq (g2 := F0 m 135 L [.int (mHas (mSet (mSet ar 2 (mI v) ((ar 2 (mI v)) - (g + (mFee ar (mI v) g)))) 5 (mI v) ((sc 0) + 1)) (mI v))]) rfl ?_
              refine lv_if_eq (tgt := 151) hx hb dX9_spend_135 (by decide) (fun c_135 => ?_) (fun c_135 => ?_)
              · -- c_135 True
                have c_135 : mHas ar (mI v) = 0 := c_135
                refine lv_aload_n hx hb dX9_spend_151 rfl (lv_at hl 1 rfl) ?_
                refine mo_r2 X hP hm mw_457 dX9_spend_152 ?_
                refine lv_iload_n hx hb dX9_spend_155 rfl (lv_at hl 2 rfl) ?_
                refine mo_a2 X hP hm hv_5 dX9_spend_156 ?_
                exact e_int X hP hD hS dX9_spend_157 (pM_of hm hfr (by first | (simp only [mSpend, if_neg c_5, if_neg c_17, if_neg ca, if_neg c_68, if_pos c_80, if_pos c_135]; done) | (simp only [mSpend, if_neg c_5, if_neg c_17, if_neg ca, if_neg c_68, if_pos c_80, if_pos c_135]; exact Prod.ext (by simp [mSet, va_up, upd]) rfl)))
              · -- c_135 False
                have c_135 : ¬ mHas ar (mI v) = 0 := c_135
                refine lv_aload_n hx hb dX9_spend_138 rfl (lv_at hl 1 rfl) ?_
                refine mo_r4 X hP hm mw_459 dX9_spend_139 ?_
                refine lv_iload_n hx hb dX9_spend_142 rfl (lv_at hl 2 rfl) ?_
                refine lv_dup2_11 hx hb dX9_spend_143 rfl rfl ?_
                refine mo_a4 X hP hm hv_5 dX9_spend_144 ?_
                refine lv_iload_n hx hb dX9_spend_145 rfl (lv_at hl 3 rfl) ?_
                refine lv_bipush (v := 100) hx hb dX9_spend_146 (by decide) ?_
                refine lv_idiv hx hb dX9_spend_148 (by decide) ?_
                refine lv_iadd hx hb dX9_spend_149 ?_
                refine mo_s4 X hP hD hS hm hfr hv_5 dX9_spend_150 (fun ws H locs hP hD hS hm hfr => ?_)
                refine lv_aload_n hx hb dX9_spend_151 rfl (lv_at hl 1 rfl) ?_
                refine mo_r2 X hP hm mw_457 dX9_spend_152 ?_
                refine lv_iload_n hx hb dX9_spend_155 rfl (lv_at hl 2 rfl) ?_
                refine mo_a2 X hP hm hv_5 dX9_spend_156 ?_
                exact e_int X hP hD hS dX9_spend_157 (pM_of hm hfr (by first | (simp only [mSpend, if_neg c_5, if_neg c_17, if_neg ca, if_neg c_68, if_pos c_80, if_neg c_135]; done) | (simp only [mSpend, if_neg c_5, if_neg c_17, if_neg ca, if_neg c_68, if_pos c_80, if_neg c_135]; exact Prod.ext (by simp [mSet, va_up, upd]) rfl)))
            · -- c_80 False
              refine lv_bipush (v := (-5)) hx hb dX9_spend_83 (by decide) ?_
              exact e_int X hP hD hS dX9_spend_85 (pM_of hm hfr (by first | (simp only [mSpend, if_neg c_5, if_neg c_17, if_neg ca, if_neg c_68, if_neg c_80]; done) | (simp only [mSpend, if_neg c_5, if_neg c_17, if_neg ca, if_neg c_68, if_neg c_80]; exact Prod.ext (by simp [mSet, va_up, upd]) rfl)))
        · -- c_45 False
          have ca : ar 0 (mI v) = 3 ∧ ar 5 (mI v) = sc 0 + 1 := ⟨c_30, c_45⟩
          refine lv_bipush (v := (-6)) hx hb dX9_spend_48 (by decide) ?_
          exact e_int X hP hD hS dX9_spend_50 (pM_of hm hfr (by first | (simp only [mSpend, if_neg c_5, if_neg c_17, if_pos ca]; done) | (simp only [mSpend, if_neg c_5, if_neg c_17, if_pos ca]; exact Prod.ext (by simp [mSet, va_up, upd]) rfl)))
    · -- c_17 False
      refine lv_bipush (v := (-2)) hx hb dX9_spend_20 (by decide) ?_
      exact e_int X hP hD hS dX9_spend_22 (pM_of hm hfr (by first | (simp only [mSpend, if_neg c_5, if_pos c_17]; done) | (simp only [mSpend, if_neg c_5, if_pos c_17]; exact Prod.ext (by simp [mSet, va_up, upd]) rfl)))
  · -- c_5 False
    refine lv_iconst (v := (-1)) hx hb dX9_spend_8 (by decide) ?_
    exact e_int X hP hD hS dX9_spend_9 (pM_of hm hfr (by first | (simp only [mSpend, if_pos c_5]; done) | (simp only [mSpend, if_pos c_5]; exact Prod.ext (by simp [mSet, va_up, upd]) rfl)))
set_option maxHeartbeats 4000000 in
set_option maxRecDepth 100000 in
theorem c_X9_merge (l : Launch) (D : va_G) (cI cZ cP : ClassId) (d : Nat) (hd : 2 ≤ d) {ws : va_W} {h : Nat} {q ad : Nat → Nat} {sc : Nat → Int32} {ar : Nat → Nat → Int32} (hm : mo_at cI cZ ws h q ad sc ar) {n : Nat} (hn : sc 1 = nI n) (h40 : n ≤ 40) (v v2 : Int32) : Ct l D (vTy cI cZ cP) yX9_merge cX9_merge 3 (some .int) d 0 0 [.ref h, .int v, .int v2] ws (pM cI cZ h q ad (mMerge sc ar v v2) ws) := by
  refine ct_intro (by decide) (Nat.le_of_ble_eq_true rfl) ?_
  intro p e s m below meth c A L X hin hP hD hS hA hl
  have hl : lv_has L 3 [(0, .ref h), (1, .int v), (2, .int v2)] := hl
  obtain ⟨hx, hb, hr, hml, hown, hts, hK, hlk, hxK⟩ := id X
  have hfr := mo_fr_rf ws
  refine lv_aload_n hx hb dX9_merge_0 rfl (lv_at hl 0 rfl) ?_
  refine lv_iload_n hx hb dX9_merge_1 rfl (lv_at hl 1 rfl) ?_
  refine g_priv (ci := 9) (cq := (RX9, TX9, 13)) (As := [.int v]) (rest := []) pw_X9_58 X (c_X9_isThere l D cI cZ cP 1 (by decide) hm hn h40 v) hP hD hS hA hm.1 rfl rfl ⟨by show _ ≤ d; omega, by show _ ≤ 30 * d; omega⟩ rfl hl.1 rfl (Nat.le_of_ble_eq_true rfl) dX9_merge_2 ⟨Nat.le_refl _, Nat.le_refl _⟩ (kI fun H locs hP hD hS => ?_)
  refine W.eq (g2 := F0 m 5 L [.int (mThe sc ar v)]) rfl ?_
  refine lv_if_eq (tgt := 16) hx hb dX9_merge_5 (by decide) (fun c_5 => ?_) (fun c_5 => ?_)
  · -- c_5 True
    refine lv_iconst (v := (-1)) hx hb dX9_merge_16 (by decide) ?_
    exact e_int X hP hD hS dX9_merge_17 (pM_of hm hfr (by first | (simp only [mMerge, if_pos c_5]; done) | (simp only [mMerge, if_pos c_5]; exact Prod.ext (by simp [mSet, va_up, upd]) rfl)))
  · -- c_5 False
    have hv_5 := the_vp hn h40 c_5
    refine lv_aload_n hx hb dX9_merge_8 rfl (lv_at hl 0 rfl) ?_
    refine lv_iload_n hx hb dX9_merge_9 rfl (lv_at hl 2 rfl) ?_
    refine g_priv (ci := 9) (cq := (RX9, TX9, 13)) (As := [.int v2]) (rest := []) pw_X9_58 X (c_X9_isThere l D cI cZ cP 1 (by decide) hm hn h40 v2) hP hD hS hA hm.1 rfl rfl ⟨by show _ ≤ d; omega, by show _ ≤ 30 * d; omega⟩ rfl hl.1 rfl (Nat.le_of_ble_eq_true rfl) dX9_merge_10 ⟨Nat.le_refl _, Nat.le_refl _⟩ (kI fun H locs hP hD hS => ?_)
    refine W.eq (g2 := F0 m 13 L [.int (mThe sc ar v2)]) rfl ?_
    refine lv_if_ne (tgt := 18) hx hb dX9_merge_13 (by decide) (fun c_13 => ?_) (fun c_13 => ?_)
    · -- c_13 True
      have hv_13 := the_vp hn h40 c_13
      refine lv_iload_n hx hb dX9_merge_18 rfl (lv_at hl 1 rfl) ?_
      refine lv_iload_n hx hb dX9_merge_19 rfl (lv_at hl 2 rfl) ?_
      refine lv_icmp_ne (tgt := 26) hx hb dX9_merge_20 (by decide) (fun c_20 => ?_) (fun c_20 => ?_)
      · -- c_20 True
        refine lv_aload_n hx hb dX9_merge_26 rfl (lv_at hl 0 rfl) ?_
        refine mo_r0 X hP hm mw_455 dX9_merge_27 ?_
        refine lv_iload_n hx hb dX9_merge_30 rfl (lv_at hl 1 rfl) ?_
        refine mo_a0 X hP hm hv_5 dX9_merge_31 ?_
        refine lv_aload_n hx hb dX9_merge_32 rfl (lv_at hl 0 rfl) ?_
        refine mo_r0 X hP hm mw_455 dX9_merge_33 ?_
        refine lv_iload_n hx hb dX9_merge_36 rfl (lv_at hl 2 rfl) ?_
        refine mo_a0 X hP hm hv_13 dX9_merge_37 ?_
        refine lv_icmp_eq (tgt := 44) hx hb dX9_merge_38 (by decide) (fun c_38 => ?_) (fun c_38 => ?_)
        · -- c_38 True
          refine lv_aload_n hx hb dX9_merge_44 rfl (lv_at hl 0 rfl) ?_
          refine mo_r1 X hP hm mw_456 dX9_merge_45 ?_
          refine lv_iload_n hx hb dX9_merge_48 rfl (lv_at hl 1 rfl) ?_
          refine mo_a1 X hP hm hv_5 dX9_merge_49 ?_
          refine lv_aload_n hx hb dX9_merge_50 rfl (lv_at hl 0 rfl) ?_
          refine mo_r1 X hP hm mw_456 dX9_merge_51 ?_
          refine lv_iload_n hx hb dX9_merge_54 rfl (lv_at hl 2 rfl) ?_
          refine mo_a1 X hP hm hv_13 dX9_merge_55 ?_
          refine lv_iadd hx hb dX9_merge_56 ?_
          refine lv_ldc (v := 100000) hx hb hown (hts _ mw_498) dX9_merge_57 ?_
          refine lv_icmp_le (tgt := 65) hx hb dX9_merge_59 (by decide) (fun c_59 => ?_) (fun c_59 => ?_)
          · -- c_59 True
            refine lv_aload_n hx hb dX9_merge_65 rfl (lv_at hl 0 rfl) ?_
            refine mo_r1 X hP hm mw_456 dX9_merge_66 ?_
            refine lv_iload_n hx hb dX9_merge_69 rfl (lv_at hl 1 rfl) ?_
            refine lv_dup2_11 hx hb dX9_merge_70 rfl rfl ?_
            refine mo_a1 X hP hm hv_5 dX9_merge_71 ?_
            refine lv_aload_n hx hb dX9_merge_72 rfl (lv_at hl 0 rfl) ?_
            refine mo_r1 X hP hm mw_456 dX9_merge_73 ?_
            refine lv_iload_n hx hb dX9_merge_76 rfl (lv_at hl 2 rfl) ?_
            refine mo_a1 X hP hm hv_13 dX9_merge_77 ?_
            refine lv_iadd hx hb dX9_merge_78 ?_
            refine mo_s1 X hP hD hS hm hfr hv_5 dX9_merge_79 (fun ws H locs hP hD hS hm hfr => ?_)
            refine lv_aload_n hx hb dX9_merge_80 rfl (lv_at hl 0 rfl) ?_
            refine mo_r2 X hP hm mw_457 dX9_merge_81 ?_
            refine lv_iload_n hx hb dX9_merge_84 rfl (lv_at hl 1 rfl) ?_
            refine lv_dup2_11 hx hb dX9_merge_85 rfl rfl ?_
            refine mo_a2 X hP hm hv_5 dX9_merge_86 ?_
            refine lv_aload_n hx hb dX9_merge_87 rfl (lv_at hl 0 rfl) ?_
            refine mo_r2 X hP hm mw_457 dX9_merge_88 ?_
            refine lv_iload_n hx hb dX9_merge_91 rfl (lv_at hl 2 rfl) ?_
            refine mo_a2 X hP hm hv_13 dX9_merge_92 ?_
            refine lv_iadd hx hb dX9_merge_93 ?_
            refine mo_s2 X hP hD hS hm hfr hv_5 dX9_merge_94 (fun ws H locs hP hD hS hm hfr => ?_)
            refine lv_aload_n hx hb dX9_merge_95 rfl (lv_at hl 0 rfl) ?_
            refine mo_r4 X hP hm mw_459 dX9_merge_96 ?_
            refine lv_iload_n hx hb dX9_merge_99 rfl (lv_at hl 1 rfl) ?_
            refine lv_dup2_11 hx hb dX9_merge_100 rfl rfl ?_
            refine mo_a4 X hP hm hv_5 dX9_merge_101 ?_
            refine lv_aload_n hx hb dX9_merge_102 rfl (lv_at hl 0 rfl) ?_
            refine mo_r4 X hP hm mw_459 dX9_merge_103 ?_
            refine lv_iload_n hx hb dX9_merge_106 rfl (lv_at hl 2 rfl) ?_
            refine mo_a4 X hP hm hv_13 dX9_merge_107 ?_
            refine lv_iadd hx hb dX9_merge_108 ?_
            refine mo_s4 X hP hD hS hm hfr hv_5 dX9_merge_109 (fun ws H locs hP hD hS hm hfr => ?_)
            refine lv_aload_n hx hb dX9_merge_110 rfl (lv_at hl 0 rfl) ?_
            refine mo_r5 X hP hm mw_460 dX9_merge_111 ?_
            refine lv_iload_n hx hb dX9_merge_114 rfl (lv_at hl 1 rfl) ?_
            refine lv_aload_n hx hb dX9_merge_115 rfl (lv_at hl 0 rfl) ?_
            refine mo_r5 X hP hm mw_460 dX9_merge_116 ?_
            refine lv_iload_n hx hb dX9_merge_119 rfl (lv_at hl 2 rfl) ?_
            refine mo_a5 X hP hm hv_13 dX9_merge_120 ?_
            refine lv_aload_n hx hb dX9_merge_121 rfl (lv_at hl 0 rfl) ?_
            refine mo_r5 X hP hm mw_460 dX9_merge_122 ?_
            refine lv_iload_n hx hb dX9_merge_125 rfl (lv_at hl 1 rfl) ?_
            refine mo_a5 X hP hm hv_5 dX9_merge_126 ?_
            refine lv_icmp_le (tgt := 139) hx hb dX9_merge_127 (by decide) (fun c_127 => ?_) (fun c_127 => ?_)
            · -- c_127 True
              have c_127 : ar 5 (mI v2) ≤ ar 5 (mI v) := c_127
              refine lv_aload_n hx hb dX9_merge_139 rfl (lv_at hl 0 rfl) ?_
              refine mo_r5 X hP hm mw_460 dX9_merge_140 ?_
              refine lv_iload_n hx hb dX9_merge_143 rfl (lv_at hl 1 rfl) ?_
              refine mo_a5 X hP hm hv_5 dX9_merge_144 ?_
              refine mo_s5 X hP hD hS hm hfr hv_5 dX9_merge_145 (fun ws H locs hP hD hS hm hfr => ?_)
              refine lv_aload_n hx hb dX9_merge_146 rfl (lv_at hl 0 rfl) ?_
              refine mo_r6 X hP hm mw_461 dX9_merge_147 ?_
              refine lv_iload_n hx hb dX9_merge_150 rfl (lv_at hl 2 rfl) ?_
              refine lv_iconst (v := 1) hx hb dX9_merge_151 (by decide) ?_
              refine mo_s6 X hP hD hS hm hfr hv_13 dX9_merge_152 (fun ws H locs hP hD hS hm hfr => ?_)
              refine lv_aload_n hx hb dX9_merge_153 rfl (lv_at hl 0 rfl) ?_
              refine mo_r1 X hP hm mw_456 dX9_merge_154 ?_
              refine lv_iload_n hx hb dX9_merge_157 rfl (lv_at hl 1 rfl) ?_
              refine mo_a1 X hP hm hv_5 dX9_merge_158 ?_
              exact e_int X hP hD hS dX9_merge_159 (pM_of hm hfr (by first | (simp only [mMerge, if_neg c_5, if_neg c_13, if_neg c_20, if_pos c_38, if_pos c_59, if_pos c_127]; done) | (simp only [mMerge, if_neg c_5, if_neg c_13, if_neg c_20, if_pos c_38, if_pos c_59, if_pos c_127]; exact Prod.ext (by simp [mSet, va_up, upd]) rfl)))
            · -- c_127 False
              have c_127 : ¬ ar 5 (mI v2) ≤ ar 5 (mI v) := c_127
              refine lv_aload_n hx hb dX9_merge_130 rfl (lv_at hl 0 rfl) ?_
              refine mo_r5 X hP hm mw_460 dX9_merge_131 ?_
              refine lv_iload_n hx hb dX9_merge_134 rfl (lv_at hl 2 rfl) ?_
              refine mo_a5 X hP hm hv_13 dX9_merge_135 ?_
              refine lv_goto (tgt := 145) hx hb dX9_merge_136 (by decide) ?_
              refine mo_s5 X hP hD hS hm hfr hv_5 dX9_merge_145 (fun ws H locs hP hD hS hm hfr => ?_)
              refine lv_aload_n hx hb dX9_merge_146 rfl (lv_at hl 0 rfl) ?_
              refine mo_r6 X hP hm mw_461 dX9_merge_147 ?_
              refine lv_iload_n hx hb dX9_merge_150 rfl (lv_at hl 2 rfl) ?_
              refine lv_iconst (v := 1) hx hb dX9_merge_151 (by decide) ?_
              refine mo_s6 X hP hD hS hm hfr hv_13 dX9_merge_152 (fun ws H locs hP hD hS hm hfr => ?_)
              refine lv_aload_n hx hb dX9_merge_153 rfl (lv_at hl 0 rfl) ?_
              refine mo_r1 X hP hm mw_456 dX9_merge_154 ?_
              refine lv_iload_n hx hb dX9_merge_157 rfl (lv_at hl 1 rfl) ?_
              refine mo_a1 X hP hm hv_5 dX9_merge_158 ?_
              exact e_int X hP hD hS dX9_merge_159 (pM_of hm hfr (by first | (simp only [mMerge, if_neg c_5, if_neg c_13, if_neg c_20, if_pos c_38, if_pos c_59, if_neg c_127]; done) | (simp only [mMerge, if_neg c_5, if_neg c_13, if_neg c_20, if_pos c_38, if_pos c_59, if_neg c_127]; exact Prod.ext (by simp [mSet, va_up, upd]) rfl)))
          · -- c_59 False
            refine lv_bipush (v := (-4)) hx hb dX9_merge_62 (by decide) ?_
            exact e_int X hP hD hS dX9_merge_64 (pM_of hm hfr (by first | (simp only [mMerge, if_neg c_5, if_neg c_13, if_neg c_20, if_pos c_38, if_neg c_59]; done) | (simp only [mMerge, if_neg c_5, if_neg c_13, if_neg c_20, if_pos c_38, if_neg c_59]; exact Prod.ext (by simp [mSet, va_up, upd]) rfl)))
        · -- c_38 False
          refine lv_bipush (v := (-3)) hx hb dX9_merge_41 (by decide) ?_
          exact e_int X hP hD hS dX9_merge_43 (pM_of hm hfr (by first | (simp only [mMerge, if_neg c_5, if_neg c_13, if_neg c_20, if_neg c_38]; done) | (simp only [mMerge, if_neg c_5, if_neg c_13, if_neg c_20, if_neg c_38]; exact Prod.ext (by simp [mSet, va_up, upd]) rfl)))
      · -- c_20 False
        refine lv_bipush (v := (-2)) hx hb dX9_merge_23 (by decide) ?_
        exact e_int X hP hD hS dX9_merge_25 (pM_of hm hfr (by first | (simp only [mMerge, if_neg c_5, if_neg c_13, if_pos c_20]; done) | (simp only [mMerge, if_neg c_5, if_neg c_13, if_pos c_20]; exact Prod.ext (by simp [mSet, va_up, upd]) rfl)))
    · -- c_13 False
      refine lv_iconst (v := (-1)) hx hb dX9_merge_16 (by decide) ?_
      exact e_int X hP hD hS dX9_merge_17 (pM_of hm hfr (by first | (simp only [mMerge, if_neg c_5, if_pos c_13]; done) | (simp only [mMerge, if_neg c_5, if_pos c_13]; exact Prod.ext (by simp [mSet, va_up, upd]) rfl)))
set_option maxHeartbeats 4000000 in
set_option maxRecDepth 100000 in
theorem c_X9_paper (l : Launch) (D : va_G) (cI cZ cP : ClassId) (d : Nat) (hd : 2 ≤ d) {ws : va_W} {h : Nat} {q ad : Nat → Nat} {sc : Nat → Int32} {ar : Nat → Nat → Int32} (hm : mo_at cI cZ ws h q ad sc ar) {n : Nat} (hn : sc 1 = nI n) (h40 : n ≤ 40) (v w : Int32) : Ct l D (vTy cI cZ cP) yX9_paper cX9_paper 3 (some .int) d 0 0 [.ref h, .int v, .int w] ws (pI ws (mPaper sc ar v w)) := by
  refine ct_intro (by decide) (Nat.le_of_ble_eq_true rfl) ?_
  intro p e s m below meth c A L X hin hP hD hS hA hl
  have hl : lv_has L 3 [(0, .ref h), (1, .int v), (2, .int w)] := hl
  obtain ⟨hx, hb, hr, hml, hown, hts, hK, hlk, hxK⟩ := id X
  have hfr := mo_fr_rf ws
  refine lv_aload_n hx hb dX9_paper_0 rfl (lv_at hl 0 rfl) ?_
  refine lv_iload_n hx hb dX9_paper_1 rfl (lv_at hl 1 rfl) ?_
  refine g_priv (ci := 9) (cq := (RX9, TX9, 13)) (As := [.int v]) (rest := []) pw_X9_58 X (c_X9_isThere l D cI cZ cP 1 (by decide) hm hn h40 v) hP hD hS hA hm.1 rfl rfl ⟨by show _ ≤ d; omega, by show _ ≤ 30 * d; omega⟩ rfl hl.1 rfl (Nat.le_of_ble_eq_true rfl) dX9_paper_2 ⟨Nat.le_refl _, Nat.le_refl _⟩ (kI fun H locs hP hD hS => ?_)
  refine W.eq (g2 := F0 m 5 L [.int (mThe sc ar v)]) rfl ?_
  refine lv_if_ne (tgt := 10) hx hb dX9_paper_5 (by decide) (fun c_5 => ?_) (fun c_5 => ?_)
  · -- c_5 True
    have hv_5 := the_vp hn h40 c_5
    refine lv_iload_n hx hb dX9_paper_10 rfl (lv_at hl 2 rfl) ?_
    refine lv_iconst (v := 0) hx hb dX9_paper_11 (by decide) ?_
    refine lv_iconst (v := 5) hx hb dX9_paper_12 (by decide) ?_
    refine g_static (As := [.int w, .int 0, .int 5]) (rest := []) sw_X9_36 X (c_X9_within l D (vTy cI cZ cP) 0 (by decide) ws w 0 5) hP hD hS hA ⟨by show _ ≤ d; omega, by show _ ≤ 30 * d; omega⟩ rfl hl.1 rfl (Nat.le_of_ble_eq_true rfl) dX9_paper_13 ⟨Nat.le_refl _, Nat.le_refl _⟩ (kI fun H locs hP hD hS => ?_)
    refine W.eq (g2 := F0 m 16 L [.int (mWin w 0 5)]) rfl ?_
    refine lv_if_ne (tgt := 22) hx hb dX9_paper_16 (by decide) (fun c_16 => ?_) (fun c_16 => ?_)
    · -- c_16 True
      refine lv_iload_n hx hb dX9_paper_22 rfl (lv_at hl 2 rfl) ?_
      by_cases s_23 : w.toInt < 0 ∨ 4 < w.toInt
      · refine lv_tableOut (tgt := 91) hx hb dX9_paper_23 s_23 (by decide) ?_
        refine lv_aload_n hx hb dX9_paper_91 rfl (lv_at hl 0 rfl) ?_
        refine lv_iload_n hx hb dX9_paper_92 rfl (lv_at hl 1 rfl) ?_
        refine g_priv (ci := 9) (cq := (RX9, TX9, 13)) (As := [.int v]) (rest := []) pw_X9_40 X (c_X9_isDated l D cI cZ cP 0 (by decide) hm hv_5 ) hP hD hS hA hm.1 rfl rfl ⟨by show _ ≤ d; omega, by show _ ≤ 30 * d; omega⟩ rfl hl.1 rfl (Nat.le_of_ble_eq_true rfl) dX9_paper_93 ⟨Nat.le_refl _, Nat.le_refl _⟩ (kI fun H locs hP hD hS => ?_)
        refine W.eq (g2 := F0 m 96 L [.int (mDat ar (mI v))]) rfl ?_
        refine lv_if_eq (tgt := 107) hx hb dX9_paper_96 (by decide) (fun c_96 => ?_) (fun c_96 => ?_)
        · -- c_96 True
          refine lv_bipush (v := (-3)) hx hb dX9_paper_107 (by decide) ?_
          exact e_int X hP hD hS dX9_paper_109 ⟨by first | rfl | (simp only [mPaper, if_neg c_5, if_neg c_16, if_pos c_96, if_neg (sw_out (y := 0) s_23 (by decide)), if_neg (sw_out (y := 1) s_23 (by decide)), if_neg (sw_out (y := 2) s_23 (by decide)), if_neg (sw_out (y := 3) s_23 (by decide)), if_neg (sw_out (y := 4) s_23 (by decide))]; done) | (simp only [mPaper, if_neg c_5, if_neg c_16, if_pos c_96, if_neg (sw_out (y := 0) s_23 (by decide)), if_neg (sw_out (y := 1) s_23 (by decide)), if_neg (sw_out (y := 2) s_23 (by decide)), if_neg (sw_out (y := 3) s_23 (by decide)), if_neg (sw_out (y := 4) s_23 (by decide))]; rfl), rfl⟩
        · -- c_96 False
          refine lv_aload_n hx hb dX9_paper_99 rfl (lv_at hl 0 rfl) ?_
          refine lv_iload_n hx hb dX9_paper_100 rfl (lv_at hl 1 rfl) ?_
          refine g_priv (ci := 9) (cq := (RX9, TX9, 13)) (As := [.int v]) (rest := []) pw_X9_44 X (c_X9_lastDay l D cI cZ cP 0 (by decide) hm hv_5 ) hP hD hS hA hm.1 rfl rfl ⟨by show _ ≤ d; omega, by show _ ≤ 30 * d; omega⟩ rfl hl.1 rfl (Nat.le_of_ble_eq_true rfl) dX9_paper_101 ⟨Nat.le_refl _, Nat.le_refl _⟩ (kI fun H locs hP hD hS => ?_)
          refine W.eq (g2 := F0 m 104 L [.int (mLast ar (mI v))]) rfl ?_
          refine lv_goto (tgt := 109) hx hb dX9_paper_104 (by decide) ?_
          exact e_int X hP hD hS dX9_paper_109 ⟨by first | rfl | (simp only [mPaper, if_neg c_5, if_neg c_16, if_neg c_96, if_neg (sw_out (y := 0) s_23 (by decide)), if_neg (sw_out (y := 1) s_23 (by decide)), if_neg (sw_out (y := 2) s_23 (by decide)), if_neg (sw_out (y := 3) s_23 (by decide)), if_neg (sw_out (y := 4) s_23 (by decide))]; done) | (simp only [mPaper, if_neg c_5, if_neg c_16, if_neg c_96, if_neg (sw_out (y := 0) s_23 (by decide)), if_neg (sw_out (y := 1) s_23 (by decide)), if_neg (sw_out (y := 2) s_23 (by decide)), if_neg (sw_out (y := 3) s_23 (by decide)), if_neg (sw_out (y := 4) s_23 (by decide))]; rfl), rfl⟩
      · have e_23 : w = 0 ∨ w = 1 ∨ w = 2 ∨ w = 3 ∨ w = 4 := sw_5 s_23
        rcases e_23 with f_0 | f_1 | f_2 | f_3 | f_4
        · refine lv_tableIn (tgt := 56) (off := 33) hx hb dX9_paper_23 (by rw [f_0]; decide) (by rw [f_0]; decide) (by rw [f_0]; rfl) (by decide) ?_
          refine lv_aload_n hx hb dX9_paper_56 rfl (lv_at hl 0 rfl) ?_
          refine mo_r0 X hP hm mw_455 dX9_paper_57 ?_
          refine lv_iload_n hx hb dX9_paper_60 rfl (lv_at hl 1 rfl) ?_
          refine mo_a0 X hP hm hv_5 dX9_paper_61 ?_
          exact e_int X hP hD hS dX9_paper_62 ⟨by subst f_0; first | (simp only [mPaper, if_neg c_5, if_neg c_16]; done) | (simp only [mPaper, if_neg c_5, if_neg c_16]; rfl) | (simp [mPaper, if_neg c_5, if_neg c_16]; done), rfl⟩
        · refine lv_tableIn (tgt := 63) (off := 40) hx hb dX9_paper_23 (by rw [f_1]; decide) (by rw [f_1]; decide) (by rw [f_1]; rfl) (by decide) ?_
          refine lv_aload_n hx hb dX9_paper_63 rfl (lv_at hl 0 rfl) ?_
          refine mo_r1 X hP hm mw_456 dX9_paper_64 ?_
          refine lv_iload_n hx hb dX9_paper_67 rfl (lv_at hl 1 rfl) ?_
          refine mo_a1 X hP hm hv_5 dX9_paper_68 ?_
          exact e_int X hP hD hS dX9_paper_69 ⟨by subst f_1; first | (simp only [mPaper, if_neg c_5, if_neg c_16]; done) | (simp only [mPaper, if_neg c_5, if_neg c_16]; rfl) | (simp [mPaper, if_neg c_5, if_neg c_16]; done), rfl⟩
        · refine lv_tableIn (tgt := 70) (off := 47) hx hb dX9_paper_23 (by rw [f_2]; decide) (by rw [f_2]; decide) (by rw [f_2]; rfl) (by decide) ?_
          refine lv_aload_n hx hb dX9_paper_70 rfl (lv_at hl 0 rfl) ?_
          refine mo_r2 X hP hm mw_457 dX9_paper_71 ?_
          refine lv_iload_n hx hb dX9_paper_74 rfl (lv_at hl 1 rfl) ?_
          refine mo_a2 X hP hm hv_5 dX9_paper_75 ?_
          exact e_int X hP hD hS dX9_paper_76 ⟨by subst f_2; first | (simp only [mPaper, if_neg c_5, if_neg c_16]; done) | (simp only [mPaper, if_neg c_5, if_neg c_16]; rfl) | (simp [mPaper, if_neg c_5, if_neg c_16]; done), rfl⟩
        · refine lv_tableIn (tgt := 77) (off := 54) hx hb dX9_paper_23 (by rw [f_3]; decide) (by rw [f_3]; decide) (by rw [f_3]; rfl) (by decide) ?_
          refine lv_aload_n hx hb dX9_paper_77 rfl (lv_at hl 0 rfl) ?_
          refine mo_r3 X hP hm mw_458 dX9_paper_78 ?_
          refine lv_iload_n hx hb dX9_paper_81 rfl (lv_at hl 1 rfl) ?_
          refine mo_a3 X hP hm hv_5 dX9_paper_82 ?_
          exact e_int X hP hD hS dX9_paper_83 ⟨by subst f_3; first | (simp only [mPaper, if_neg c_5, if_neg c_16]; done) | (simp only [mPaper, if_neg c_5, if_neg c_16]; rfl) | (simp [mPaper, if_neg c_5, if_neg c_16]; done), rfl⟩
        · refine lv_tableIn (tgt := 84) (off := 61) hx hb dX9_paper_23 (by rw [f_4]; decide) (by rw [f_4]; decide) (by rw [f_4]; rfl) (by decide) ?_
          refine lv_aload_n hx hb dX9_paper_84 rfl (lv_at hl 0 rfl) ?_
          refine mo_r4 X hP hm mw_459 dX9_paper_85 ?_
          refine lv_iload_n hx hb dX9_paper_88 rfl (lv_at hl 1 rfl) ?_
          refine mo_a4 X hP hm hv_5 dX9_paper_89 ?_
          exact e_int X hP hD hS dX9_paper_90 ⟨by subst f_4; first | (simp only [mPaper, if_neg c_5, if_neg c_16]; done) | (simp only [mPaper, if_neg c_5, if_neg c_16]; rfl) | (simp [mPaper, if_neg c_5, if_neg c_16]; done), rfl⟩
    · -- c_16 False
      refine lv_bipush (v := (-2)) hx hb dX9_paper_19 (by decide) ?_
      exact e_int X hP hD hS dX9_paper_21 ⟨by first | rfl | (simp only [mPaper, if_neg c_5, if_pos c_16]; done) | (simp only [mPaper, if_neg c_5, if_pos c_16]; rfl), rfl⟩
  · -- c_5 False
    refine lv_iconst (v := (-1)) hx hb dX9_paper_8 (by decide) ?_
    exact e_int X hP hD hS dX9_paper_9 ⟨by first | rfl | (simp only [mPaper, if_pos c_5]; done) | (simp only [mPaper, if_pos c_5]; rfl), rfl⟩
