theorem sw_X8_34 : SW RX8 34 yX8_isOutside cX8_isOutside 3 (some .boolean) 3 := ⟨mw_48, mw_49, mw_1, mw_50, by decide +kernel⟩
theorem pw_X8_43 : PW RX8 43 "VoucherOffice" yX8_find cX8_find 2 (some (.object "VoucherOffice$Plain")) 1 := ⟨mw_177, mw_179, mp_0, mw_1, mw_180, by decide +kernel⟩
set_option maxHeartbeats 4000000 in
set_option maxRecDepth 100000 in
theorem c_X8_isOutside (l : Launch) (D : va_G) (tys : List (ClassId × FieldType)) (d : Nat) (hd : 0 ≤ d) (ws : va_W) (v lo hi : Int32) : Ct l D tys yX8_isOutside cX8_isOutside 3 (some .boolean) d 0 0 [.int v, .int lo, .int hi] ws (pI ws (mOut v lo hi)) := by
  refine ct_intro (by decide) (Nat.le_of_ble_eq_true rfl) ?_
  intro p e s m below meth c A L X hin hP hD hS hA hl
  have hl : lv_has L 3 [(0, .int v), (1, .int lo), (2, .int hi)] := hl
  obtain ⟨hx, hb, hr, hml, hown, hts, hK, hlk, hxK⟩ := id X
  refine lv_iload_n hx hb dX8_isOutside_0 rfl (lv_at hl 0 rfl) ?_
  refine lv_iload_n hx hb dX8_isOutside_1 rfl (lv_at hl 1 rfl) ?_
  refine lv_icmp_lt (tgt := 10) hx hb dX8_isOutside_2 (by decide) (fun c_2 => ?_) (fun c_2 => ?_)
  · -- c_2 True
    refine lv_iconst (v := 1) hx hb dX8_isOutside_10 (by decide) ?_
    refine lv_goto (tgt := 15) hx hb dX8_isOutside_11 (by decide) ?_
    exact e_bool X hP hD hS dX8_isOutside_15 (by first | exact Or.inl rfl | exact Or.inr rfl) ⟨by simp only [mOut, mWin, if_pos c_2]; rfl, rfl⟩
  · -- c_2 False
    refine lv_iload_n hx hb dX8_isOutside_5 rfl (lv_at hl 0 rfl) ?_
    refine lv_iload_n hx hb dX8_isOutside_6 rfl (lv_at hl 2 rfl) ?_
    refine lv_icmp_le (tgt := 14) hx hb dX8_isOutside_7 (by decide) (fun c_7 => ?_) (fun c_7 => ?_)
    · -- c_7 True
      refine lv_iconst (v := 0) hx hb dX8_isOutside_14 (by decide) ?_
      exact e_bool X hP hD hS dX8_isOutside_15 (by first | exact Or.inl rfl | exact Or.inr rfl) ⟨by simp only [mOut, mWin, if_neg c_2, if_neg (Int32.not_lt.mpr c_7), if_neg (by decide : ¬ (1 : Int32) = 0)], rfl⟩
    · -- c_7 False
      refine lv_iconst (v := 1) hx hb dX8_isOutside_10 (by decide) ?_
      refine lv_goto (tgt := 15) hx hb dX8_isOutside_11 (by decide) ?_
      exact e_bool X hP hD hS dX8_isOutside_15 (by first | exact Or.inl rfl | exact Or.inr rfl) ⟨by simp only [mOut, mWin, if_neg c_2, if_pos (Int32.not_le.mp c_7)]; rfl, rfl⟩
theorem oo_nM {sc : Nat → Int32} {ha : Nat} : ¬ isM (of_o sc ha) := fun h => by
  have h : (8 : Nat) = 9 := h
  omega
theorem rr_nM {cP : ClassId} {row : Nat → Option Nat} : ¬ isM (of_r cP row) := fun h => h
def pF (row : Nat → Option Nat) (sc : Nat → Int32) (ar : Nat → Nat → Int32) (n : Nat) (v : Int32) (ws : va_W) : Option Value → va_W → Prop := fun r w => w = ws ∧ ((mThe sc ar v = 0 ∧ r = some .null) ∨ (∃ j a : Nat, j < n ∧ v = nI j ∧ ar 6 j = 0 ∧ row j = some a ∧ ¬ mThe sc ar v = 0 ∧ r = some (.ref a)))
set_option maxHeartbeats 4000000 in
set_option maxRecDepth 100000 in
theorem c_X8_find (l : Launch) (D : va_G) (cI cZ cP : ClassId) (d : Nat) (hd : 1 ≤ d) {ws : va_W} {h p0 p1 ha n : Nat} {row : Nat → Option Nat} {pv : Nat → Nat} {sc : Nat → Int32} {ar : Nat → Nat → Int32} (hO : of_at cP ws h p0 p1 ha row pv sc ar n) (hn : sc 1 = nI n) (h40 : n ≤ 40) (v : Int32) : Ct l D (vTy cI cZ cP) yX8_find cX8_find 2 (some (.object "VoucherOffice$Plain")) d 0 0 [.ref h, .int v] ws (pF row sc ar n v ws) := by
  refine ct_intro (by decide) (Nat.le_of_ble_eq_true rfl) ?_
  intro p e s m below meth c A L X hin hP hD hS hA hl
  have hl : lv_has L 2 [(0, .ref h), (1, .int v)] := hl
  obtain ⟨hx, hb, hr, hml, hown, hts, hK, hlk, hxK⟩ := id X
  have hfr := of_fr_rf ws
  refine lv_iload_n hx hb dX8_find_0 rfl (lv_at hl 1 rfl) ?_
  refine lv_iconst (v := 0) hx hb dX8_find_1 (by decide) ?_
  refine lv_bipush (v := 39) hx hb dX8_find_2 (by decide) ?_
  refine g_static (As := [.int v, .int 0, .int 39]) (rest := []) sw_X8_34 X (c_X8_isOutside l D (vTy cI cZ cP) 0 (by decide) ws v 0 39) hP hD hS hA ⟨by show _ ≤ d; omega, by show _ ≤ 30 * d; omega⟩ rfl hl.1 rfl (Nat.le_of_ble_eq_true rfl) dX8_find_4 ⟨Nat.le_refl _, Nat.le_refl _⟩ (kI fun H locs hP hD hS => ?_)
  refine W.eq (g2 := F0 m 7 L [.int (mOut v 0 39)]) rfl ?_
  refine lv_if_eq (tgt := 12) hx hb dX8_find_7 (by decide) (fun c_7 => ?_) (fun c_7 => ?_)
  · -- c_7 True
    have c_7 : ¬ mWin v 0 39 = 0 := out_0 c_7
    refine lv_aload_n hx hb dX8_find_12 rfl (lv_at hl 0 rfl) ?_
    refine of_gV X hP hO.1 mw_22 dX8_find_13 ?_
    refine lv_iload_n hx hb dX8_find_16 rfl (lv_at hl 1 rfl) ?_
    obtain ⟨j, hj, ej⟩ := in_40 c_7
    have hv : vp_in v 40 := by rw [ej]; exact vp_in_nI hj (by decide)
    refine va_aldq hx hb hK hP p1 2 hO.2.1 rfl hv dX8_find_17 ?_
    have em : v.toNatClampNeg = j := by rw [ej]; exact nI_clamp (by omega)
    rw [em]
    rcases hO.2.2.1 j hj with ⟨f1, a, f2, f3⟩ | ⟨f1, f2⟩
    · rw [f2]
      exact e_ref X hP hD hS dX8_find_18 (Or.inr ⟨_, rfl⟩) ⟨rfl, Or.inr ⟨j, a, f1.1, ej, f1.2, f2, by rw [ej]; exact the_nI hn h40 f1.1 f1.2, rfl⟩⟩
    · rw [f2]
      exact e_ref X hP hD hS dX8_find_18 (Or.inl rfl) ⟨rfl, Or.inl ⟨by rw [ej]; exact the_no hn h40 (by omega) f1, rfl⟩⟩
  · -- c_7 False
    have c_7 : mWin v 0 39 = 0 := out_1 c_7
    refine lv_null hx hb dX8_find_10 ?_
    exact e_ref X hP hD hS dX8_find_11 (Or.inl rfl) ⟨rfl, Or.inl ⟨the_out hn h40 c_7, rfl⟩⟩
set_option maxHeartbeats 4000000 in
set_option maxRecDepth 100000 in
theorem c_X8_value (l : Launch) (D : va_G) (cI cZ cP : ClassId) (d : Nat) (hd : 4 ≤ d) {ws : va_W} {h p0 p1 ha n : Nat} {row : Nat → Option Nat} {pv : Nat → Nat} {sc : Nat → Int32} {ar : Nat → Nat → Int32} (hO : of_at cP ws h p0 p1 ha row pv sc ar n) (hI : mInv sc ar n) (v t : Int32) : Ct l D (vTy cI cZ cP) yX8_value cX8_value 4 (some .int) d 0 0 [.ref h, .int v, .int t] ws (pI ws (mValue sc ar v t)) := by
  obtain ⟨hn, h40, hday, hvs, hout⟩ := id hI
  refine ct_intro (by decide) (Nat.le_of_ble_eq_true rfl) ?_
  intro p e s m below meth c A L X hin hP hD hS hA hl
  have hl : lv_has L 4 [(0, .ref h), (1, .int v), (2, .int t)] := hl
  obtain ⟨hx, hb, hr, hml, hown, hts, hK, hlk, hxK⟩ := id X
  have hfr := of_fr_rf ws
  refine lv_aload_n hx hb dX8_value_0 rfl (lv_at hl 0 rfl) ?_
  refine lv_iload_n hx hb dX8_value_1 rfl (lv_at hl 1 rfl) ?_
  refine g_priv (ci := 8) (cq := (RX8, TX8, 7)) (As := [.int v]) (rest := []) pw_X8_43 X (c_X8_find l D cI cZ cP 1 (by decide) hO hn h40 v) hP hD hS hA hO.1 rfl rfl ⟨by show _ ≤ d; omega, by show _ ≤ 30 * d; omega⟩ rfl hl.1 rfl (Nat.le_of_ble_eq_true rfl) dX8_value_2 ⟨Nat.le_refl _, Nat.le_refl _⟩ (fun v1 ws1 H locs hq hP hD hS => ?_)
  obtain ⟨ew, hq⟩ := hq
  rw [ew] at hP hD
  rcases hq with ⟨hz_2, rfl⟩ | ⟨j_2, a_2, hj_2, ev_2, h6_2, hr_2, hz_2, rfl⟩
  · -- none
    refine W.eq (g2 := F0 m 5 L [.null]) rfl ?_
    refine lv_astore_nN (lv' := [(3, .null), (0, .ref h), (1, .int v), (2, .int t)]) hx hb dX8_value_5 rfl hl (by decide) rfl (fun L hl => ?_)
    refine lv_aload_nN hx hb dX8_value_6 rfl (lv_at hl 0 rfl) ?_
    refine lv_ifnonnullN hx hb dX8_value_7 ?_
    refine lv_iconst (v := (-1)) hx hb dX8_value_10 (by decide) ?_
    exact e_int X hP hD hS dX8_value_11 ⟨by simp only [mValue, if_pos hz_2], rfl⟩
  · -- found
    refine W.eq (g2 := F0 m 5 L [.ref a_2]) rfl ?_
    have hc_2 := (hO.get (by omega) hr_2).2
    obtain ⟨k_2, hvI_2⟩ := hvs j_2 hj_2
    have ek_2 : mI (ar 0 j_2) = k_2 := by rw [hvI_2.2.1]; exact nI_clamp (by have := hvI_2.1; omega)
    have em_2 : mI v = j_2 := by rw [ev_2]; exact nI_clamp (by omega)
    rw [ofE, ek_2] at hc_2
    refine lv_astore_n (lv' := [(3, .ref a_2), (0, .ref h), (1, .int v), (2, .int t)]) hx hb dX8_value_5 rfl hl (by decide) rfl (fun L hl => ?_)
    refine lv_aload_n hx hb dX8_value_6 rfl (lv_at hl 0 rfl) ?_
    refine lv_ifnonnull (tgt := 12) hx hb dX8_value_7 (by decide) ?_
    refine lv_iload_n hx hb dX8_value_12 rfl (lv_at hl 3 rfl) ?_
    refine lv_iconst (v := 0) hx hb dX8_value_13 (by decide) ?_
    refine lv_sipush (v := 20000) hx hb dX8_value_14 (by decide) ?_
    refine g_static (As := [.int t, .int 0, .int 20000]) (rest := []) sw_X8_34 X (c_X8_isOutside l D (vTy cI cZ cP) 0 (by decide) ws t 0 20000) hP hD hS hA ⟨by show _ ≤ d; omega, by show _ ≤ 30 * d; omega⟩ rfl hl.1 rfl (Nat.le_of_ble_eq_true rfl) dX8_value_17 ⟨Nat.le_refl _, Nat.le_refl _⟩ (kI fun H locs hP hD hS => ?_)
    refine W.eq (g2 := F0 m 20 L [.int (mOut t 0 20000)]) rfl ?_
    refine lv_if_eq (tgt := 26) hx hb dX8_value_20 (by decide) (fun c_20 => ?_) (fun c_20 => ?_)
    · -- c_20 True
      have c_20 : ¬ mWin t 0 20000 = 0 := out_0 c_20
      refine lv_aload_n hx hb dX8_value_26 rfl (lv_at hl 0 rfl) ?_
      refine lv_iload_n hx hb dX8_value_27 rfl (lv_at hl 3 rfl) ?_
      refine dv_valueOn (rest := []) X mw_181 hP hD hS hA hc_2 ⟨by show _ ≤ d; omega, by show _ ≤ 30 * d; omega⟩ hl.1 (Nat.le_of_ble_eq_true rfl) dX8_value_28 ⟨Nat.le_refl _, Nat.le_refl _⟩ (fun H locs hP hD hS => ?_)
      exact e_int X hP hD hS dX8_value_31 ⟨congrArg (fun z => some (Value.int z)) (by simp only [mValue, if_neg hz_2, if_neg c_20, em_2]; exact (val_eq hvI_2.1 hvI_2.2.1 t).symm), rfl⟩
    · -- c_20 False
      have c_20 : mWin t 0 20000 = 0 := out_1 c_20
      refine lv_bipush (v := (-2)) hx hb dX8_value_23 (by decide) ?_
      exact e_int X hP hD hS dX8_value_25 ⟨by simp only [mValue, if_neg hz_2, if_pos c_20], rfl⟩
set_option maxHeartbeats 4000000 in
set_option maxRecDepth 100000 in
theorem c_X8_fee (l : Launch) (D : va_G) (cI cZ cP : ClassId) (d : Nat) (hd : 2 ≤ d) {ws : va_W} {h p0 p1 ha n : Nat} {row : Nat → Option Nat} {pv : Nat → Nat} {sc : Nat → Int32} {ar : Nat → Nat → Int32} (hO : of_at cP ws h p0 p1 ha row pv sc ar n) (hI : mInv sc ar n) (v g : Int32) : Ct l D (vTy cI cZ cP) yX8_fee cX8_fee 4 (some .int) d 0 0 [.ref h, .int v, .int g] ws (pI ws (mFeeP sc ar v g)) := by
  obtain ⟨hn, h40, hday, hvs, hout⟩ := id hI
  refine ct_intro (by decide) (Nat.le_of_ble_eq_true rfl) ?_
  intro p e s m below meth c A L X hin hP hD hS hA hl
  have hl : lv_has L 4 [(0, .ref h), (1, .int v), (2, .int g)] := hl
  obtain ⟨hx, hb, hr, hml, hown, hts, hK, hlk, hxK⟩ := id X
  have hfr := of_fr_rf ws
  refine lv_aload_n hx hb dX8_fee_0 rfl (lv_at hl 0 rfl) ?_
  refine lv_iload_n hx hb dX8_fee_1 rfl (lv_at hl 1 rfl) ?_
  refine g_priv (ci := 8) (cq := (RX8, TX8, 7)) (As := [.int v]) (rest := []) pw_X8_43 X (c_X8_find l D cI cZ cP 1 (by decide) hO hn h40 v) hP hD hS hA hO.1 rfl rfl ⟨by show _ ≤ d; omega, by show _ ≤ 30 * d; omega⟩ rfl hl.1 rfl (Nat.le_of_ble_eq_true rfl) dX8_fee_2 ⟨Nat.le_refl _, Nat.le_refl _⟩ (fun v1 ws1 H locs hq hP hD hS => ?_)
  obtain ⟨ew, hq⟩ := hq
  rw [ew] at hP hD
  rcases hq with ⟨hz_2, rfl⟩ | ⟨j_2, a_2, hj_2, ev_2, h6_2, hr_2, hz_2, rfl⟩
  · -- none
    refine W.eq (g2 := F0 m 5 L [.null]) rfl ?_
    refine lv_astore_nN (lv' := [(3, .null), (0, .ref h), (1, .int v), (2, .int g)]) hx hb dX8_fee_5 rfl hl (by decide) rfl (fun L hl => ?_)
    refine lv_aload_nN hx hb dX8_fee_6 rfl (lv_at hl 0 rfl) ?_
    refine lv_ifnonnullN hx hb dX8_fee_7 ?_
    refine lv_iconst (v := (-1)) hx hb dX8_fee_10 (by decide) ?_
    exact e_int X hP hD hS dX8_fee_11 ⟨by simp only [mFeeP, if_pos hz_2], rfl⟩
  · -- found
    refine W.eq (g2 := F0 m 5 L [.ref a_2]) rfl ?_
    have hc_2 := (hO.get (by omega) hr_2).2
    obtain ⟨k_2, hvI_2⟩ := hvs j_2 hj_2
    have ek_2 : mI (ar 0 j_2) = k_2 := by rw [hvI_2.2.1]; exact nI_clamp (by have := hvI_2.1; omega)
    have em_2 : mI v = j_2 := by rw [ev_2]; exact nI_clamp (by omega)
    rw [ofE, ek_2] at hc_2
    refine lv_astore_n (lv' := [(3, .ref a_2), (0, .ref h), (1, .int v), (2, .int g)]) hx hb dX8_fee_5 rfl hl (by decide) rfl (fun L hl => ?_)
    refine lv_aload_n hx hb dX8_fee_6 rfl (lv_at hl 0 rfl) ?_
    refine lv_ifnonnull (tgt := 12) hx hb dX8_fee_7 (by decide) ?_
    refine lv_iload_n hx hb dX8_fee_12 rfl (lv_at hl 3 rfl) ?_
    refine lv_iconst (v := 1) hx hb dX8_fee_13 (by decide) ?_
    refine lv_ldc (v := 100000) hx hb hown (hts _ mw_51) dX8_fee_14 ?_
    refine g_static (As := [.int g, .int 1, .int 100000]) (rest := []) sw_X8_34 X (c_X8_isOutside l D (vTy cI cZ cP) 0 (by decide) ws g 1 100000) hP hD hS hA ⟨by show _ ≤ d; omega, by show _ ≤ 30 * d; omega⟩ rfl hl.1 rfl (Nat.le_of_ble_eq_true rfl) dX8_fee_16 ⟨Nat.le_refl _, Nat.le_refl _⟩ (kI fun H locs hP hD hS => ?_)
    refine W.eq (g2 := F0 m 19 L [.int (mOut g 1 100000)]) rfl ?_
    refine lv_if_eq (tgt := 25) hx hb dX8_fee_19 (by decide) (fun c_19 => ?_) (fun c_19 => ?_)
    · -- c_19 True
      have c_19 : ¬ mWin g 1 100000 = 0 := out_0 c_19
      refine lv_aload_n hx hb dX8_fee_25 rfl (lv_at hl 0 rfl) ?_
      refine lv_iload_n hx hb dX8_fee_26 rfl (lv_at hl 3 rfl) ?_
      refine dv_feeOf (rest := []) X mw_224 hP hD hS hA hc_2 ⟨by show _ ≤ d; omega, by show _ ≤ 30 * d; omega⟩ hl.1 (Nat.le_of_ble_eq_true rfl) dX8_fee_27 ⟨Nat.le_refl _, Nat.le_refl _⟩ (fun H locs hP hD hS => ?_)
      exact e_int X hP hD hS dX8_fee_30 ⟨congrArg (fun z => some (Value.int z)) (by simp only [mFeeP, if_neg hz_2, if_neg c_19, em_2]; exact (fee_w hvI_2 c_19).1.symm), rfl⟩
    · -- c_19 False
      have c_19 : mWin g 1 100000 = 0 := out_1 c_19
      refine lv_bipush (v := (-2)) hx hb dX8_fee_22 (by decide) ?_
      exact e_int X hP hD hS dX8_fee_24 ⟨by simp only [mFeeP, if_neg hz_2, if_pos c_19], rfl⟩
set_option maxHeartbeats 4000000 in
set_option maxRecDepth 100000 in
theorem c_X8_seal (l : Launch) (D : va_G) (cI cZ cP : ClassId) (d : Nat) (hd : 2 ≤ d) {ws : va_W} {h p0 p1 ha n : Nat} {row : Nat → Option Nat} {pv : Nat → Nat} {sc : Nat → Int32} {ar : Nat → Nat → Int32} (hO : of_at cP ws h p0 p1 ha row pv sc ar n) (hI : mInv sc ar n) (v : Int32) : Ct l D (vTy cI cZ cP) yX8_seal cX8_seal 3 (some .int) d 0 0 [.ref h, .int v] ws (pI ws (mSealP sc ar v)) := by
  obtain ⟨hn, h40, hday, hvs, hout⟩ := id hI
  refine ct_intro (by decide) (Nat.le_of_ble_eq_true rfl) ?_
  intro p e s m below meth c A L X hin hP hD hS hA hl
  have hl : lv_has L 3 [(0, .ref h), (1, .int v)] := hl
  obtain ⟨hx, hb, hr, hml, hown, hts, hK, hlk, hxK⟩ := id X
  have hfr := of_fr_rf ws
  refine lv_aload_n hx hb dX8_seal_0 rfl (lv_at hl 0 rfl) ?_
  refine lv_iload_n hx hb dX8_seal_1 rfl (lv_at hl 1 rfl) ?_
  refine g_priv (ci := 8) (cq := (RX8, TX8, 7)) (As := [.int v]) (rest := []) pw_X8_43 X (c_X8_find l D cI cZ cP 1 (by decide) hO hn h40 v) hP hD hS hA hO.1 rfl rfl ⟨by show _ ≤ d; omega, by show _ ≤ 30 * d; omega⟩ rfl hl.1 rfl (Nat.le_of_ble_eq_true rfl) dX8_seal_2 ⟨Nat.le_refl _, Nat.le_refl _⟩ (fun v1 ws1 H locs hq hP hD hS => ?_)
  obtain ⟨ew, hq⟩ := hq
  rw [ew] at hP hD
  rcases hq with ⟨hz_2, rfl⟩ | ⟨j_2, a_2, hj_2, ev_2, h6_2, hr_2, hz_2, rfl⟩
  · -- none
    refine W.eq (g2 := F0 m 5 L [.null]) rfl ?_
    refine lv_astore_nN (lv' := [(2, .null), (0, .ref h), (1, .int v)]) hx hb dX8_seal_5 rfl hl (by decide) rfl (fun L hl => ?_)
    refine lv_aload_nN hx hb dX8_seal_6 rfl (lv_at hl 0 rfl) ?_
    refine lv_ifnonnullN hx hb dX8_seal_7 ?_
    refine lv_iconst (v := (-1)) hx hb dX8_seal_10 (by decide) ?_
    exact e_int X hP hD hS dX8_seal_11 ⟨by simp only [mSealP, if_pos hz_2], rfl⟩
  · -- found
    refine W.eq (g2 := F0 m 5 L [.ref a_2]) rfl ?_
    have hc_2 := (hO.get (by omega) hr_2).2
    obtain ⟨k_2, hvI_2⟩ := hvs j_2 hj_2
    have ek_2 : mI (ar 0 j_2) = k_2 := by rw [hvI_2.2.1]; exact nI_clamp (by have := hvI_2.1; omega)
    have em_2 : mI v = j_2 := by rw [ev_2]; exact nI_clamp (by omega)
    rw [ofE, ek_2] at hc_2
    refine lv_astore_n (lv' := [(2, .ref a_2), (0, .ref h), (1, .int v)]) hx hb dX8_seal_5 rfl hl (by decide) rfl (fun L hl => ?_)
    refine lv_aload_n hx hb dX8_seal_6 rfl (lv_at hl 0 rfl) ?_
    refine lv_ifnonnull (tgt := 12) hx hb dX8_seal_7 (by decide) ?_
    refine lv_aload_n hx hb dX8_seal_12 rfl (lv_at hl 0 rfl) ?_
    refine dv_sealNow (rest := []) X mw_279 hP hD hS hA hc_2 ⟨by show _ ≤ d; omega, by show _ ≤ 30 * d; omega⟩ hl.1 (Nat.le_of_ble_eq_true rfl) dX8_seal_13 ⟨Nat.le_refl _, Nat.le_refl _⟩ (fun H locs hP hD hS => ?_)
    exact e_int X hP hD hS dX8_seal_16 ⟨congrArg (fun z => some (Value.int z)) (by simp only [mSealP, if_neg hz_2, em_2]; exact (seal_eq hvI_2.1 hvI_2.2.1).symm), rfl⟩
set_option maxHeartbeats 4000000 in
set_option maxRecDepth 100000 in
theorem c_X8_mark (l : Launch) (D : va_G) (cI cZ cP : ClassId) (d : Nat) (hd : 3 ≤ d) {ws : va_W} {h p0 p1 ha n : Nat} {row : Nat → Option Nat} {pv : Nat → Nat} {sc : Nat → Int32} {ar : Nat → Nat → Int32} (hO : of_at cP ws h p0 p1 ha row pv sc ar n) (hI : mInv sc ar n) (v n0 : Int32) : Ct l D (vTy cI cZ cP) yX8_mark cX8_mark 4 (some .int) d 0 0 [.ref h, .int v, .int n0] ws (pI ws (mMark sc ar v n0)) := by
  obtain ⟨hn, h40, hday, hvs, hout⟩ := id hI
  refine ct_intro (by decide) (Nat.le_of_ble_eq_true rfl) ?_
  intro p e s m below meth c A L X hin hP hD hS hA hl
  have hl : lv_has L 4 [(0, .ref h), (1, .int v), (2, .int n0)] := hl
  obtain ⟨hx, hb, hr, hml, hown, hts, hK, hlk, hxK⟩ := id X
  have hfr := of_fr_rf ws
  refine lv_aload_n hx hb dX8_mark_0 rfl (lv_at hl 0 rfl) ?_
  refine lv_iload_n hx hb dX8_mark_1 rfl (lv_at hl 1 rfl) ?_
  refine g_priv (ci := 8) (cq := (RX8, TX8, 7)) (As := [.int v]) (rest := []) pw_X8_43 X (c_X8_find l D cI cZ cP 1 (by decide) hO hn h40 v) hP hD hS hA hO.1 rfl rfl ⟨by show _ ≤ d; omega, by show _ ≤ 30 * d; omega⟩ rfl hl.1 rfl (Nat.le_of_ble_eq_true rfl) dX8_mark_2 ⟨Nat.le_refl _, Nat.le_refl _⟩ (fun v1 ws1 H locs hq hP hD hS => ?_)
  obtain ⟨ew, hq⟩ := hq
  rw [ew] at hP hD
  rcases hq with ⟨hz_2, rfl⟩ | ⟨j_2, a_2, hj_2, ev_2, h6_2, hr_2, hz_2, rfl⟩
  · -- none
    refine W.eq (g2 := F0 m 5 L [.null]) rfl ?_
    refine lv_astore_nN (lv' := [(3, .null), (0, .ref h), (1, .int v), (2, .int n0)]) hx hb dX8_mark_5 rfl hl (by decide) rfl (fun L hl => ?_)
    refine lv_aload_nN hx hb dX8_mark_6 rfl (lv_at hl 0 rfl) ?_
    refine lv_ifnonnullN hx hb dX8_mark_7 ?_
    refine lv_iconst (v := (-1)) hx hb dX8_mark_10 (by decide) ?_
    exact e_int X hP hD hS dX8_mark_11 ⟨by simp only [mMark, if_pos hz_2], rfl⟩
  · -- found
    refine W.eq (g2 := F0 m 5 L [.ref a_2]) rfl ?_
    have hc_2 := (hO.get (by omega) hr_2).2
    obtain ⟨k_2, hvI_2⟩ := hvs j_2 hj_2
    have ek_2 : mI (ar 0 j_2) = k_2 := by rw [hvI_2.2.1]; exact nI_clamp (by have := hvI_2.1; omega)
    have em_2 : mI v = j_2 := by rw [ev_2]; exact nI_clamp (by omega)
    rw [ofE, ek_2] at hc_2
    refine lv_astore_n (lv' := [(3, .ref a_2), (0, .ref h), (1, .int v), (2, .int n0)]) hx hb dX8_mark_5 rfl hl (by decide) rfl (fun L hl => ?_)
    refine lv_aload_n hx hb dX8_mark_6 rfl (lv_at hl 0 rfl) ?_
    refine lv_ifnonnull (tgt := 12) hx hb dX8_mark_7 (by decide) ?_
    refine lv_iload_n hx hb dX8_mark_12 rfl (lv_at hl 3 rfl) ?_
    refine lv_iconst (v := 0) hx hb dX8_mark_13 (by decide) ?_
    refine lv_sipush (v := 999) hx hb dX8_mark_14 (by decide) ?_
    refine g_static (As := [.int n0, .int 0, .int 999]) (rest := []) sw_X8_34 X (c_X8_isOutside l D (vTy cI cZ cP) 0 (by decide) ws n0 0 999) hP hD hS hA ⟨by show _ ≤ d; omega, by show _ ≤ 30 * d; omega⟩ rfl hl.1 rfl (Nat.le_of_ble_eq_true rfl) dX8_mark_17 ⟨Nat.le_refl _, Nat.le_refl _⟩ (kI fun H locs hP hD hS => ?_)
    refine W.eq (g2 := F0 m 20 L [.int (mOut n0 0 999)]) rfl ?_
    refine lv_if_eq (tgt := 26) hx hb dX8_mark_20 (by decide) (fun c_20 => ?_) (fun c_20 => ?_)
    · -- c_20 True
      have c_20 : ¬ mWin n0 0 999 = 0 := out_0 c_20
      refine lv_aload_n hx hb dX8_mark_26 rfl (lv_at hl 0 rfl) ?_
      refine lv_iload_n hx hb dX8_mark_27 rfl (lv_at hl 3 rfl) ?_
      refine dv_markOf (rest := []) X mw_304 hP hD hS hA hc_2 ⟨by show _ ≤ d; omega, by show _ ≤ 30 * d; omega⟩ hl.1 (Nat.le_of_ble_eq_true rfl) dX8_mark_28 ⟨Nat.le_refl _, Nat.le_refl _⟩ (fun H locs hP hD hS => ?_)
      exact e_int X hP hD hS dX8_mark_31 ⟨congrArg (fun z => some (Value.int z)) (by simp only [mMark, if_neg hz_2, if_neg c_20, em_2]; exact (mark_eq hvI_2.1 hvI_2.2.1 n0).symm), rfl⟩
    · -- c_20 False
      have c_20 : mWin n0 0 999 = 0 := out_1 c_20
      refine lv_bipush (v := (-2)) hx hb dX8_mark_23 (by decide) ?_
      exact e_int X hP hD hS dX8_mark_25 ⟨by simp only [mMark, if_neg hz_2, if_pos c_20], rfl⟩
set_option maxHeartbeats 4000000 in
set_option maxRecDepth 100000 in
theorem c_X8_daysLeft (l : Launch) (D : va_G) (cI cZ cP : ClassId) (d : Nat) (hd : 2 ≤ d) {ws : va_W} {h p0 p1 ha n : Nat} {row : Nat → Option Nat} {pv : Nat → Nat} {sc : Nat → Int32} {ar : Nat → Nat → Int32} (hO : of_at cP ws h p0 p1 ha row pv sc ar n) (hI : mInv sc ar n) (v t : Int32) : Ct l D (vTy cI cZ cP) yX8_daysLeft cX8_daysLeft 4 (some .int) d 0 0 [.ref h, .int v, .int t] ws (pI ws (mDays sc ar v t)) := by
  obtain ⟨hn, h40, hday, hvs, hout⟩ := id hI
  refine ct_intro (by decide) (Nat.le_of_ble_eq_true rfl) ?_
  intro p e s m below meth c A L X hin hP hD hS hA hl
  have hl : lv_has L 4 [(0, .ref h), (1, .int v), (2, .int t)] := hl
  obtain ⟨hx, hb, hr, hml, hown, hts, hK, hlk, hxK⟩ := id X
  have hfr := of_fr_rf ws
  refine lv_aload_n hx hb dX8_daysLeft_0 rfl (lv_at hl 0 rfl) ?_
  refine lv_iload_n hx hb dX8_daysLeft_1 rfl (lv_at hl 1 rfl) ?_
  refine g_priv (ci := 8) (cq := (RX8, TX8, 7)) (As := [.int v]) (rest := []) pw_X8_43 X (c_X8_find l D cI cZ cP 1 (by decide) hO hn h40 v) hP hD hS hA hO.1 rfl rfl ⟨by show _ ≤ d; omega, by show _ ≤ 30 * d; omega⟩ rfl hl.1 rfl (Nat.le_of_ble_eq_true rfl) dX8_daysLeft_2 ⟨Nat.le_refl _, Nat.le_refl _⟩ (fun v1 ws1 H locs hq hP hD hS => ?_)
  obtain ⟨ew, hq⟩ := hq
  rw [ew] at hP hD
  rcases hq with ⟨hz_2, rfl⟩ | ⟨j_2, a_2, hj_2, ev_2, h6_2, hr_2, hz_2, rfl⟩
  · -- none
    refine W.eq (g2 := F0 m 5 L [.null]) rfl ?_
    refine lv_astore_nN (lv' := [(3, .null), (0, .ref h), (1, .int v), (2, .int t)]) hx hb dX8_daysLeft_5 rfl hl (by decide) rfl (fun L hl => ?_)
    refine lv_aload_nN hx hb dX8_daysLeft_6 rfl (lv_at hl 0 rfl) ?_
    refine lv_ifnonnullN hx hb dX8_daysLeft_7 ?_
    refine lv_iconst (v := (-1)) hx hb dX8_daysLeft_10 (by decide) ?_
    exact e_int X hP hD hS dX8_daysLeft_11 ⟨by simp only [mDays, if_pos hz_2], rfl⟩
  · -- found
    refine W.eq (g2 := F0 m 5 L [.ref a_2]) rfl ?_
    have hc_2 := (hO.get (by omega) hr_2).2
    obtain ⟨k_2, hvI_2⟩ := hvs j_2 hj_2
    have ek_2 : mI (ar 0 j_2) = k_2 := by rw [hvI_2.2.1]; exact nI_clamp (by have := hvI_2.1; omega)
    have em_2 : mI v = j_2 := by rw [ev_2]; exact nI_clamp (by omega)
    rw [ofE, ek_2] at hc_2
    refine lv_astore_n (lv' := [(3, .ref a_2), (0, .ref h), (1, .int v), (2, .int t)]) hx hb dX8_daysLeft_5 rfl hl (by decide) rfl (fun L hl => ?_)
    refine lv_aload_n hx hb dX8_daysLeft_6 rfl (lv_at hl 0 rfl) ?_
    refine lv_ifnonnull (tgt := 12) hx hb dX8_daysLeft_7 (by decide) ?_
    refine lv_iload_n hx hb dX8_daysLeft_12 rfl (lv_at hl 3 rfl) ?_
    refine lv_iconst (v := 0) hx hb dX8_daysLeft_13 (by decide) ?_
    refine lv_sipush (v := 20000) hx hb dX8_daysLeft_14 (by decide) ?_
    refine g_static (As := [.int t, .int 0, .int 20000]) (rest := []) sw_X8_34 X (c_X8_isOutside l D (vTy cI cZ cP) 0 (by decide) ws t 0 20000) hP hD hS hA ⟨by show _ ≤ d; omega, by show _ ≤ 30 * d; omega⟩ rfl hl.1 rfl (Nat.le_of_ble_eq_true rfl) dX8_daysLeft_17 ⟨Nat.le_refl _, Nat.le_refl _⟩ (kI fun H locs hP hD hS => ?_)
    refine W.eq (g2 := F0 m 20 L [.int (mOut t 0 20000)]) rfl ?_
    refine lv_if_eq (tgt := 26) hx hb dX8_daysLeft_20 (by decide) (fun c_20 => ?_) (fun c_20 => ?_)
    · -- c_20 True
      have c_20 : ¬ mWin t 0 20000 = 0 := out_0 c_20
      refine lv_aload_n hx hb dX8_daysLeft_26 rfl (lv_at hl 0 rfl) ?_
      refine lv_iload_n hx hb dX8_daysLeft_27 rfl (lv_at hl 3 rfl) ?_
      refine dv_daysLeftOn (rest := []) X mw_327 hP hD hS hA hc_2 ⟨by show _ ≤ d; omega, by show _ ≤ 30 * d; omega⟩ hl.1 (Nat.le_of_ble_eq_true rfl) dX8_daysLeft_28 ⟨Nat.le_refl _, Nat.le_refl _⟩ (fun H locs hP hD hS => ?_)
      exact e_int X hP hD hS dX8_daysLeft_31 ⟨congrArg (fun z => some (Value.int z)) (by simp only [mDays, if_neg hz_2, if_neg c_20, em_2]; exact (days_eq hvI_2.1 hvI_2.2.1 t).symm), rfl⟩
    · -- c_20 False
      have c_20 : mWin t 0 20000 = 0 := out_1 c_20
      refine lv_bipush (v := (-2)) hx hb dX8_daysLeft_23 (by decide) ?_
      exact e_int X hP hD hS dX8_daysLeft_25 ⟨by simp only [mDays, if_neg hz_2, if_pos c_20], rfl⟩
def pO (cP : ClassId) (h : Nat) (f : mT) (ws0 : va_W) : Option Value → va_W → Prop := fun v w => v = some (.int f.1) ∧ (∃ (p0 p1 ha n : Nat) (row : Nat → Option Nat) (pv : Nat → Nat), of_at cP w h p0 p1 ha row pv f.2.1 f.2.2 n ∧ f.2.1 1 = nI n ∧ n ≤ 40) ∧ of_fr ws0 w
theorem pO_of {cP : ClassId} {h p0 p1 ha n : Nat} {row : Nat → Option Nat} {pv : Nat → Nat} {f : mT} {ws0 w : va_W} {r : Int32} {sc : Nat → Int32} {ar : Nat → Nat → Int32} (hO : of_at cP w h p0 p1 ha row pv sc ar n) (hn : sc 1 = nI n) (hfr : of_fr ws0 w) (hf : f = (r, sc, ar)) (h40 : n ≤ 40 := by omega) : pO cP h f ws0 (some (.int r)) w := by
  subst hf
  exact ⟨rfl, ⟨p0, p1, ha, n, row, pv, hO, hn, h40⟩, hfr⟩
set_option maxHeartbeats 4000000 in
set_option maxRecDepth 100000 in
theorem c_X8_pass (l : Launch) (D : va_G) (cI cZ cP : ClassId) (d : Nat) (hd : 1 ≤ d) {ws : va_W} {h p0 p1 ha n : Nat} {row : Nat → Option Nat} {pv : Nat → Nat} {sc : Nat → Int32} {ar : Nat → Nat → Int32} (hO : of_at cP ws h p0 p1 ha row pv sc ar n) (hI : mInv sc ar n) (dd : Int32) : Ct l D (vTy cI cZ cP) yX8_pass cX8_pass 2 (some .int) d 0 0 [.ref h, .int dd] ws (pO cP h (mPass sc ar dd) ws) := by
  obtain ⟨hn, h40, hday, hvs, hout⟩ := id hI
  refine ct_intro (by decide) (Nat.le_of_ble_eq_true rfl) ?_
  intro p e s m below meth c A L X hin hP hD hS hA hl
  have hl : lv_has L 2 [(0, .ref h), (1, .int dd)] := hl
  obtain ⟨hx, hb, hr, hml, hown, hts, hK, hlk, hxK⟩ := id X
  have hfr := of_fr_rf ws
  refine lv_iload_n hx hb dX8_pass_0 rfl (lv_at hl 1 rfl) ?_
  refine lv_iconst (v := 1) hx hb dX8_pass_1 (by decide) ?_
  refine lv_sipush (v := 1000) hx hb dX8_pass_2 (by decide) ?_
  refine g_static (As := [.int dd, .int 1, .int 1000]) (rest := []) sw_X8_34 X (c_X8_isOutside l D (vTy cI cZ cP) 0 (by decide) ws dd 1 1000) hP hD hS hA ⟨by show _ ≤ d; omega, by show _ ≤ 30 * d; omega⟩ rfl hl.1 rfl (Nat.le_of_ble_eq_true rfl) dX8_pass_5 ⟨Nat.le_refl _, Nat.le_refl _⟩ (kI fun H locs hP hD hS => ?_)
  refine W.eq (g2 := F0 m 8 L [.int (mOut dd 1 1000)]) rfl ?_
  refine lv_if_eq (tgt := 14) hx hb dX8_pass_8 (by decide) (fun c_8 => ?_) (fun c_8 => ?_)
  · -- c_8 True
    have c_8 : ¬ mWin dd 1 1000 = 0 := out_0 c_8
    refine lv_aload_n hx hb dX8_pass_14 rfl (lv_at hl 0 rfl) ?_
    refine of_g0 X hP hO.1 mw_24 dX8_pass_15 ?_
    refine lv_iload_n hx hb dX8_pass_18 rfl (lv_at hl 1 rfl) ?_
    refine lv_iadd hx hb dX8_pass_19 ?_
    refine lv_sipush (v := 20000) hx hb dX8_pass_20 (by decide) ?_
    refine lv_icmp_le (tgt := 29) hx hb dX8_pass_23 (by decide) (fun c_23 => ?_) (fun c_23 => ?_)
    · -- c_23 True
      refine lv_aload_n hx hb dX8_pass_29 rfl (lv_at hl 0 rfl) ?_
      refine lv_dup hx hb dX8_pass_30 rfl ?_
      refine of_g0 X hP hO.1 mw_24 dX8_pass_31 ?_
      refine lv_iload_n hx hb dX8_pass_34 rfl (lv_at hl 1 rfl) ?_
      refine lv_iadd hx hb dX8_pass_35 ?_
      refine of_p0 X hP hD hS hO.1 mw_24 dX8_pass_36 (fun H locs hP hD hS => ?_)
      have hfr := of_fr_tr hfr (of_fr_set (y := (h, of_o (va_up sc 0 ((sc 0) + dd)) ha)) hO.1 oo_nM)
      have hO := hO.put (va_up sc 0 ((sc 0) + dd))
      refine lv_aload_n hx hb dX8_pass_39 rfl (lv_at hl 0 rfl) ?_
      refine of_g0 X hP hO.1 mw_24 dX8_pass_40 ?_
      exact e_int X hP hD hS dX8_pass_43 (pO_of hO hn hfr (by first | (simp only [mPass, if_neg c_8, if_pos c_23]; done) | (simp only [mPass, if_neg c_8, if_pos c_23]; rfl)))
    · -- c_23 False
      refine lv_bipush (v := (-4)) hx hb dX8_pass_26 (by decide) ?_
      exact e_int X hP hD hS dX8_pass_28 (pO_of hO hn hfr (by first | (simp only [mPass, if_neg c_8, if_neg c_23]; done) | (simp only [mPass, if_neg c_8, if_neg c_23]; rfl)))
  · -- c_8 False
    have c_8 : mWin dd 1 1000 = 0 := out_1 c_8
    refine lv_bipush (v := (-2)) hx hb dX8_pass_11 (by decide) ?_
    exact e_int X hP hD hS dX8_pass_13 (pO_of hO hn hfr (by first | (simp only [mPass, if_pos c_8]; done) | (simp only [mPass, if_pos c_8]; rfl)))
set_option maxHeartbeats 4000000 in
set_option maxRecDepth 100000 in
theorem c_X8_spend (l : Launch) (D : va_G) (cI cZ cP : ClassId) (d : Nat) (hd : 6 ≤ d) {ws : va_W} {h p0 p1 ha n : Nat} {row : Nat → Option Nat} {pv : Nat → Nat} {sc : Nat → Int32} {ar : Nat → Nat → Int32} (hO : of_at cP ws h p0 p1 ha row pv sc ar n) (hI : mInv sc ar n) (v g : Int32) : Ct l D (vTy cI cZ cP) yX8_spend cX8_spend 6 (some .int) d 0 0 [.ref h, .int v, .int g] ws (pO cP h (mSpend sc ar v g) ws) := by
  obtain ⟨hn, h40, hday, hvs, hout⟩ := id hI
  refine ct_intro (by decide) (Nat.le_of_ble_eq_true rfl) ?_
  intro p e s m below meth c A L X hin hP hD hS hA hl
  have hl : lv_has L 6 [(0, .ref h), (1, .int v), (2, .int g)] := hl
  obtain ⟨hx, hb, hr, hml, hown, hts, hK, hlk, hxK⟩ := id X
  have hfr := of_fr_rf ws
  refine lv_aload_n hx hb dX8_spend_0 rfl (lv_at hl 0 rfl) ?_
  refine lv_iload_n hx hb dX8_spend_1 rfl (lv_at hl 1 rfl) ?_
  refine g_priv (ci := 8) (cq := (RX8, TX8, 7)) (As := [.int v]) (rest := []) pw_X8_43 X (c_X8_find l D cI cZ cP 1 (by decide) hO hn h40 v) hP hD hS hA hO.1 rfl rfl ⟨by show _ ≤ d; omega, by show _ ≤ 30 * d; omega⟩ rfl hl.1 rfl (Nat.le_of_ble_eq_true rfl) dX8_spend_2 ⟨Nat.le_refl _, Nat.le_refl _⟩ (fun v1 ws1 H locs hq hP hD hS => ?_)
  obtain ⟨ew, hq⟩ := hq
  rw [ew] at hP hD
  rcases hq with ⟨hz_2, rfl⟩ | ⟨j_2, a_2, hj_2, ev_2, h6_2, hr_2, hz_2, rfl⟩
  · -- none
    refine W.eq (g2 := F0 m 5 L [.null]) rfl ?_
    refine lv_astore_nN (lv' := [(3, .null), (0, .ref h), (1, .int v), (2, .int g)]) hx hb dX8_spend_5 rfl hl (by decide) rfl (fun L hl => ?_)
    refine lv_aload_nN hx hb dX8_spend_6 rfl (lv_at hl 0 rfl) ?_
    refine lv_ifnonnullN hx hb dX8_spend_7 ?_
    refine lv_iconst (v := (-1)) hx hb dX8_spend_10 (by decide) ?_
    exact e_int X hP hD hS dX8_spend_11 (pO_of hO hn hfr (by first | (simp only [mSpend, if_pos hz_2]; done) | (simp only [mSpend, if_pos hz_2]; rfl)))
  · -- found
    refine W.eq (g2 := F0 m 5 L [.ref a_2]) rfl ?_
    have hc_2 := (hO.get (by omega) hr_2).2
    obtain ⟨k_2, hvI_2⟩ := hvs j_2 hj_2
    have ek_2 : mI (ar 0 j_2) = k_2 := by rw [hvI_2.2.1]; exact nI_clamp (by have := hvI_2.1; omega)
    have em_2 : mI v = j_2 := by rw [ev_2]; exact nI_clamp (by omega)
    rw [ofE, ek_2] at hc_2
    refine lv_astore_n (lv' := [(3, .ref a_2), (0, .ref h), (1, .int v), (2, .int g)]) hx hb dX8_spend_5 rfl hl (by decide) rfl (fun L hl => ?_)
    refine lv_aload_n hx hb dX8_spend_6 rfl (lv_at hl 0 rfl) ?_
    refine lv_ifnonnull (tgt := 12) hx hb dX8_spend_7 (by decide) ?_
    refine lv_iload_n hx hb dX8_spend_12 rfl (lv_at hl 3 rfl) ?_
    refine lv_iconst (v := 1) hx hb dX8_spend_13 (by decide) ?_
    refine lv_ldc (v := 100000) hx hb hown (hts _ mw_51) dX8_spend_14 ?_
    refine g_static (As := [.int g, .int 1, .int 100000]) (rest := []) sw_X8_34 X (c_X8_isOutside l D (vTy cI cZ cP) 0 (by decide) ws g 1 100000) hP hD hS hA ⟨by show _ ≤ d; omega, by show _ ≤ 30 * d; omega⟩ rfl hl.1 rfl (Nat.le_of_ble_eq_true rfl) dX8_spend_16 ⟨Nat.le_refl _, Nat.le_refl _⟩ (kI fun H locs hP hD hS => ?_)
    refine W.eq (g2 := F0 m 19 L [.int (mOut g 1 100000)]) rfl ?_
    refine lv_if_eq (tgt := 25) hx hb dX8_spend_19 (by decide) (fun c_19 => ?_) (fun c_19 => ?_)
    · -- c_19 True
      have c_19 : ¬ mWin g 1 100000 = 0 := out_0 c_19
      refine lv_aload_n hx hb dX8_spend_25 rfl (lv_at hl 0 rfl) ?_
      refine lv_iload_n hx hb dX8_spend_26 rfl (lv_at hl 3 rfl) ?_
      refine dv_feeOf (rest := []) X mw_224 hP hD hS hA hc_2 ⟨by show _ ≤ d; omega, by show _ ≤ 30 * d; omega⟩ hl.1 (Nat.le_of_ble_eq_true rfl) dX8_spend_27 ⟨Nat.le_refl _, Nat.le_refl _⟩ (fun H locs hP hD hS => ?_)
      refine lv_istore (lv' := [(4, .int (vFee k_2 (ar 4 j_2) g)), (3, .ref a_2), (0, .ref h), (1, .int v), (2, .int g)]) hx hb dX8_spend_30 hl (by decide) rfl (fun L hl => ?_)
      refine lv_aload_n hx hb dX8_spend_32 rfl (lv_at hl 1 rfl) ?_
      refine lv_aload_n hx hb dX8_spend_33 rfl (lv_at hl 2 rfl) ?_
      refine of_g0 X hP hO.1 mw_24 dX8_spend_34 ?_
      refine lv_iload_n hx hb dX8_spend_37 rfl (lv_at hl 4 rfl) ?_
      obtain ⟨-, G, F, hG1, hG2, eg, hF, eF⟩ := fee_w hvI_2 c_19
      refine dv_spendOn (rest := []) X mw_252 hP hD hS hA hc_2 ⟨by show _ ≤ d; omega, by show _ ≤ 30 * d; omega⟩ hl.1 (Nat.le_of_ble_eq_true rfl) dX8_spend_38 ⟨Nat.le_refl _, Nat.le_refl _⟩ (fun H locs hP hD hS => ?_)
      rcases sp_cases (g := g) hvI_2 em_2 hz_2 c_19 with ⟨q1, q2, q3⟩ | ⟨q1, ar2, q2, q3, q4, q5⟩
      · -- refused
        rw [q3, st_self hc_2] at hP hD
        refine lv_istore (lv' := [(5, .int (vSR k_2 (ar 3 j_2) (ar 2 j_2) (ar 4 j_2) (ar 5 j_2 - 1) (sc 0) g)), (4, .int (vFee k_2 (ar 4 j_2) g)), (3, .ref a_2), (0, .ref h), (1, .int v), (2, .int g)]) hx hb dX8_spend_41 hl (by decide) rfl (fun L hl => ?_)
        refine lv_iload hx hb dX8_spend_43 (lv_at hl 0 rfl) ?_
        refine lv_if_lt (tgt := 69) hx hb dX8_spend_45 (by decide) (fun c_45 => ?_) (fun c_45 => absurd q1 c_45)
        refine lv_iload hx hb dX8_spend_69 (lv_at hl 0 rfl) ?_
        exact e_int X hP hD hS dX8_spend_71 (pO_of hO hn hfr q2)
      · -- spent
        rw [q3] at hP hD
        have hfr := of_fr_tr hfr (of_fr_set (y := (a_2, ofE ar2 j_2)) hc_2 (vo_nM _ _ _ _ _ _ _))
        have hO := hO.setV (by omega) hr_2 ar2 q4 q5 rfl
        refine lv_istore (lv' := [(5, .int (vSR k_2 (ar 3 j_2) (ar 2 j_2) (ar 4 j_2) (ar 5 j_2 - 1) (sc 0) g)), (4, .int (vFee k_2 (ar 4 j_2) g)), (3, .ref a_2), (0, .ref h), (1, .int v), (2, .int g)]) hx hb dX8_spend_41 hl (by decide) rfl (fun L hl => ?_)
        refine lv_iload hx hb dX8_spend_43 (lv_at hl 0 rfl) ?_
        refine lv_if_lt (tgt := 69) hx hb dX8_spend_45 (by decide) (fun c_45 => absurd c_45 q1) (fun c_45 => ?_)
        refine lv_aload_n hx hb dX8_spend_48 rfl (lv_at hl 3 rfl) ?_
        refine lv_dup hx hb dX8_spend_49 rfl ?_
        refine of_g3 X hP hO.1 mw_26 dX8_spend_50 ?_
        refine lv_iload_n hx hb dX8_spend_53 rfl (lv_at hl 5 rfl) ?_
        refine lv_iadd hx hb dX8_spend_54 ?_
        refine of_p3 X hP hD hS hO.1 mw_26 dX8_spend_55 (fun H locs hP hD hS => ?_)
        have hfr := of_fr_tr hfr (of_fr_set (y := (h, of_o (va_up sc 3 ((sc 3) + g)) ha)) hO.1 oo_nM)
        have hO := hO.put (va_up sc 3 ((sc 3) + g))
        refine lv_aload_n hx hb dX8_spend_58 rfl (lv_at hl 3 rfl) ?_
        refine lv_dup hx hb dX8_spend_59 rfl ?_
        refine of_g4 X hP hO.1 mw_27 dX8_spend_60 ?_
        refine lv_iload hx hb dX8_spend_63 (lv_at hl 1 rfl) ?_
        refine lv_iadd hx hb dX8_spend_65 ?_
        refine of_p4 X hP hD hS hO.1 mw_27 dX8_spend_66 (fun H locs hP hD hS => ?_)
        have hfr := of_fr_tr hfr (of_fr_set (y := (h, of_o (va_up (va_up sc 3 ((sc 3) + g)) 4 (((va_up sc 3 ((sc 3) + g)) 4) + (vFee k_2 (ar 4 j_2) g))) ha)) hO.1 oo_nM)
        have hO := hO.put (va_up (va_up sc 3 ((sc 3) + g)) 4 (((va_up sc 3 ((sc 3) + g)) 4) + (vFee k_2 (ar 4 j_2) g)))
        refine lv_iload hx hb dX8_spend_69 (lv_at hl 0 rfl) ?_
        exact e_int X hP hD hS dX8_spend_71 (pO_of hO hn hfr q2)
    · -- c_19 False
      have c_19 : mWin g 1 100000 = 0 := out_1 c_19
      refine lv_bipush (v := (-2)) hx hb dX8_spend_22 (by decide) ?_
      exact e_int X hP hD hS dX8_spend_24 (pO_of hO hn hfr (by first | (simp only [mSpend, if_neg hz_2, if_pos c_19]; done) | (simp only [mSpend, if_neg hz_2, if_pos c_19]; rfl)))
theorem pap_out {w : Int32} (h : w.toInt < 0 ∨ 5 < w.toInt) : mWin w 0 5 = 0 := by
  by_cases z : mWin w 0 5 = 0
  · exact z
  · obtain ⟨h1, h2⟩ := win_ii z
    have g1 := Int32.not_lt.mp h1
    have g2 := Int32.not_lt.mp h2
    rw [Int32.le_iff_toInt_le] at g1 g2
    have e0 : (0 : Int32).toInt = 0 := by decide
    have e5 : (5 : Int32).toInt = 5 := by decide
    omega
set_option maxHeartbeats 4000000 in
set_option maxRecDepth 100000 in
theorem c_X8_paper (l : Launch) (D : va_G) (cI cZ cP : ClassId) (d : Nat) (hd : 2 ≤ d) {ws : va_W} {h p0 p1 ha n : Nat} {row : Nat → Option Nat} {pv : Nat → Nat} {sc : Nat → Int32} {ar : Nat → Nat → Int32} (hO : of_at cP ws h p0 p1 ha row pv sc ar n) (hI : mInv sc ar n) (v w : Int32) : Ct l D (vTy cI cZ cP) yX8_paper cX8_paper 4 (some .int) d 0 0 [.ref h, .int v, .int w] ws (pI ws (mPaper sc ar v w)) := by
  obtain ⟨hn, h40, hday, hvs, hout⟩ := id hI
  refine ct_intro (by decide) (Nat.le_of_ble_eq_true rfl) ?_
  intro p e s m below meth c A L X hin hP hD hS hA hl
  have hl : lv_has L 4 [(0, .ref h), (1, .int v), (2, .int w)] := hl
  obtain ⟨hx, hb, hr, hml, hown, hts, hK, hlk, hxK⟩ := id X
  have hfr := of_fr_rf ws
  refine lv_aload_n hx hb dX8_paper_0 rfl (lv_at hl 0 rfl) ?_
  refine lv_iload_n hx hb dX8_paper_1 rfl (lv_at hl 1 rfl) ?_
  refine g_priv (ci := 8) (cq := (RX8, TX8, 7)) (As := [.int v]) (rest := []) pw_X8_43 X (c_X8_find l D cI cZ cP 1 (by decide) hO hn h40 v) hP hD hS hA hO.1 rfl rfl ⟨by show _ ≤ d; omega, by show _ ≤ 30 * d; omega⟩ rfl hl.1 rfl (Nat.le_of_ble_eq_true rfl) dX8_paper_2 ⟨Nat.le_refl _, Nat.le_refl _⟩ (fun v1 ws1 H locs hq hP hD hS => ?_)
  obtain ⟨ew, hq⟩ := hq
  rw [ew] at hP hD
  rcases hq with ⟨hz_2, rfl⟩ | ⟨j_2, a_2, hj_2, ev_2, h6_2, hr_2, hz_2, rfl⟩
  · -- none
    refine W.eq (g2 := F0 m 5 L [.null]) rfl ?_
    refine lv_astore_nN (lv' := [(3, .null), (0, .ref h), (1, .int v), (2, .int w)]) hx hb dX8_paper_5 rfl hl (by decide) rfl (fun L hl => ?_)
    refine lv_aload_nN hx hb dX8_paper_6 rfl (lv_at hl 0 rfl) ?_
    refine lv_ifnonnullN hx hb dX8_paper_7 ?_
    refine lv_iconst (v := (-1)) hx hb dX8_paper_10 (by decide) ?_
    exact e_int X hP hD hS dX8_paper_11 ⟨by simp only [mPaper, if_pos hz_2], rfl⟩
  · -- found
    refine W.eq (g2 := F0 m 5 L [.ref a_2]) rfl ?_
    have hc_2 := (hO.get (by omega) hr_2).2
    obtain ⟨k_2, hvI_2⟩ := hvs j_2 hj_2
    have ek_2 : mI (ar 0 j_2) = k_2 := by rw [hvI_2.2.1]; exact nI_clamp (by have := hvI_2.1; omega)
    have em_2 : mI v = j_2 := by rw [ev_2]; exact nI_clamp (by omega)
    rw [ofE, ek_2] at hc_2
    refine lv_astore_n (lv' := [(3, .ref a_2), (0, .ref h), (1, .int v), (2, .int w)]) hx hb dX8_paper_5 rfl hl (by decide) rfl (fun L hl => ?_)
    refine lv_aload_n hx hb dX8_paper_6 rfl (lv_at hl 0 rfl) ?_
    refine lv_ifnonnull (tgt := 12) hx hb dX8_paper_7 (by decide) ?_
    refine lv_iload_n hx hb dX8_paper_12 rfl (lv_at hl 3 rfl) ?_
    by_cases s_13 : w.toInt < 0 ∨ 5 < w.toInt
    · refine lv_tableOut (tgt := 82) hx hb dX8_paper_13 s_13 (by decide) ?_
      refine lv_bipush (v := (-2)) hx hb dX8_paper_82 (by decide) ?_
      exact e_int X hP hD hS dX8_paper_84 ⟨by simp only [mPaper, if_neg hz_2, if_pos (pap_out s_13)], rfl⟩
    · have e_13 : w = 0 ∨ w = 1 ∨ w = 2 ∨ w = 3 ∨ w = 4 ∨ w = 5 := sw_6 s_13
      rcases e_13 with f_0 | f_1 | f_2 | f_3 | f_4 | f_5
      · refine lv_tableIn (tgt := 52) (off := 39) hx hb dX8_paper_13 (by rw [f_0]; decide) (by rw [f_0]; decide) (by rw [f_0]; rfl) (by decide) ?_
        refine lv_aload_n hx hb dX8_paper_52 rfl (lv_at hl 0 rfl) ?_
        refine vo_gK X hP hc_2 mw_61 (Or.inl rfl) dX8_paper_53 ?_
        exact e_int X hP hD hS dX8_paper_56 ⟨by subst f_0; simp only [mPaper, if_neg hz_2, em_2, if_neg (by decide : ¬ mWin 0 0 5 = 0), if_pos], rfl⟩
      · refine lv_tableIn (tgt := 57) (off := 44) hx hb dX8_paper_13 (by rw [f_1]; decide) (by rw [f_1]; decide) (by rw [f_1]; rfl) (by decide) ?_
        refine lv_aload_n hx hb dX8_paper_57 rfl (lv_at hl 0 rfl) ?_
        refine vo_gA X hP hc_2 mw_69 (Or.inl rfl) dX8_paper_58 ?_
        exact e_int X hP hD hS dX8_paper_61 ⟨by subst f_1; simp only [mPaper, if_neg hz_2, em_2, if_neg (by decide : ¬ mWin 1 0 5 = 0), if_neg (by decide : ¬ (1 : Int32) = 0), if_pos], rfl⟩
      · refine lv_tableIn (tgt := 62) (off := 49) hx hb dX8_paper_13 (by rw [f_2]; decide) (by rw [f_2]; decide) (by rw [f_2]; rfl) (by decide) ?_
        refine lv_aload_n hx hb dX8_paper_62 rfl (lv_at hl 0 rfl) ?_
        refine vo_gL X hP hc_2 mw_73 (Or.inl rfl) dX8_paper_63 ?_
        exact e_int X hP hD hS dX8_paper_66 ⟨by subst f_2; simp only [mPaper, if_neg hz_2, em_2, if_neg (by decide : ¬ mWin 2 0 5 = 0), if_neg (by decide : ¬ (2 : Int32) = 0), if_neg (by decide : ¬ (2 : Int32) = 1), if_pos], rfl⟩
      · refine lv_tableIn (tgt := 67) (off := 54) hx hb dX8_paper_13 (by rw [f_3]; decide) (by rw [f_3]; decide) (by rw [f_3]; rfl) (by decide) ?_
        refine lv_aload_n hx hb dX8_paper_67 rfl (lv_at hl 0 rfl) ?_
        refine vo_gF X hP hc_2 mw_67 (Or.inl rfl) dX8_paper_68 ?_
        exact e_int X hP hD hS dX8_paper_71 ⟨by subst f_3; simp only [mPaper, if_neg hz_2, em_2, if_neg (by decide : ¬ mWin 3 0 5 = 0), if_neg (by decide : ¬ (3 : Int32) = 0), if_neg (by decide : ¬ (3 : Int32) = 1), if_neg (by decide : ¬ (3 : Int32) = 2), if_pos], rfl⟩
      · refine lv_tableIn (tgt := 72) (off := 59) hx hb dX8_paper_13 (by rw [f_4]; decide) (by rw [f_4]; decide) (by rw [f_4]; rfl) (by decide) ?_
        refine lv_aload_n hx hb dX8_paper_72 rfl (lv_at hl 0 rfl) ?_
        refine dv_pointsNow (rest := []) X mw_422 hP hD hS hA hc_2 ⟨by show _ ≤ d; omega, by show _ ≤ 30 * d; omega⟩ hl.1 (Nat.le_of_ble_eq_true rfl) dX8_paper_73 ⟨Nat.le_refl _, Nat.le_refl _⟩ (fun H locs hP hD hS => ?_)
        exact e_int X hP hD hS dX8_paper_76 ⟨congrArg (fun z => some (Value.int z)) (by subst f_4; simp only [mPaper, if_neg hz_2, em_2, if_neg (by decide : ¬ mWin 4 0 5 = 0), if_neg (by decide : ¬ (4 : Int32) = 0), if_neg (by decide : ¬ (4 : Int32) = 1), if_neg (by decide : ¬ (4 : Int32) = 2), if_neg (by decide : ¬ (4 : Int32) = 3), if_pos]; exact (pts_eq hvI_2).symm), rfl⟩
      · refine lv_tableIn (tgt := 77) (off := 64) hx hb dX8_paper_13 (by rw [f_5]; decide) (by rw [f_5]; decide) (by rw [f_5]; rfl) (by decide) ?_
        refine lv_aload_n hx hb dX8_paper_77 rfl (lv_at hl 0 rfl) ?_
        refine dv_lastDay (rest := []) X mw_423 hP hD hS hA hc_2 ⟨by show _ ≤ d; omega, by show _ ≤ 30 * d; omega⟩ hl.1 (Nat.le_of_ble_eq_true rfl) dX8_paper_78 ⟨Nat.le_refl _, Nat.le_refl _⟩ (fun H locs hP hD hS => ?_)
        exact e_int X hP hD hS dX8_paper_81 ⟨congrArg (fun z => some (Value.int z)) (by subst f_5; simp only [mPaper, if_neg hz_2, em_2, if_neg (by decide : ¬ mWin 5 0 5 = 0), if_neg (by decide : ¬ (5 : Int32) = 0), if_neg (by decide : ¬ (5 : Int32) = 1), if_neg (by decide : ¬ (5 : Int32) = 2), if_neg (by decide : ¬ (5 : Int32) = 3), if_neg (by decide : ¬ (5 : Int32) = 4)]; exact (last_eq hvI_2.1 hvI_2.2.1).symm), rfl⟩
