theorem iw_X8_96 : IW RX8 96 yX4_init cX4_init 4 3 := ⟨mw_56, mw_57, mw_3, mw_58, rfl, by decide +kernel⟩
theorem iw_X8_101 : IW RX8 101 yX2_init cX2_init 4 3 := ⟨mw_85, mw_86, mw_4, mw_87, rfl, by decide +kernel⟩
theorem iw_X8_104 : IW RX8 104 yX6_init cX6_init 4 3 := ⟨mw_96, mw_97, mw_5, mw_98, rfl, by decide +kernel⟩
theorem iw_X8_107 : IW RX8 107 yX7_init cX7_init 4 3 := ⟨mw_107, mw_108, mw_6, mw_109, rfl, by decide +kernel⟩
theorem iw_X8_110 : IW RX8 110 yX5_init cX5_init 4 3 := ⟨mw_121, mw_122, mw_7, mw_123, rfl, by decide +kernel⟩
theorem iw_X8_113 : IW RX8 113 yX0_init cX0_init 4 3 := ⟨mw_132, mw_133, mw_8, mw_134, rfl, by decide +kernel⟩
theorem iw_X8_116 : IW RX8 116 yX3_init cX3_init 4 3 := ⟨mw_143, mw_144, mw_9, mw_145, rfl, by decide +kernel⟩
theorem iw_X8_119 : IW RX8 119 yX1_init cX1_init 4 3 := ⟨mw_159, mw_160, mw_10, mw_161, rfl, by decide +kernel⟩
theorem sw_X8_39 : SW RX8 39 yX8_newVoucher cX8_newVoucher 3 (some (.object "VoucherOffice$Plain")) 3 := ⟨mw_52, mw_53, mw_1, mw_54, by decide +kernel⟩
theorem ap_up {ws : va_W} {x y : Nat × va_E} {i : Nat} (h : ws[i]? = some x) : (ws ++ [y])[i]? = some x := by
  rw [List.getElem?_append_left (List.getElem?_eq_some_iff.mp h).1]; exact h
theorem ap_new (ws : va_W) (y : Nat × va_E) : (ws ++ [y])[ws.length]? = some y := by simp
theorem ap_set (ws : va_W) (x y : Nat × va_E) : (ws ++ [x]).set ws.length y = ws ++ [y] := by
  simp
def pN (K : Nat) (am fr : Int32) (ws : va_W) : Option Value → va_W → Prop := fun r w => ∃ q, r = some (.ref q) ∧ w = ws ++ [(q, vo_E K (nI K) fr am am 0 (-1))]
/-- a voucher may lie in the office's row -/
theorem as_any {s : State} {H : Heap} {D : va_G} {tys : List (ClassId × FieldType)} {ws : va_W} {a q0 k : Nat} {kd fr am le po ls : Int32} (hK : va_K D vwCl tys s) (hxK : xK s) (hP : va_P D vwCl ws H) (he : ws[q0]? = some (a, vo_E k kd fr am le po ls)) : va_Any "VoucherOffice$Plain" s H a := by
  have cst : ∀ {C : String}, va_Nw (.castable C "VoucherOffice$Plain") s → ∀ comp c0 : ClassId, s.vm.findClass "VoucherOffice$Plain" = some comp → s.vm.findClass C = some c0 → s.vm.assignable c0 comp = true := by
    intro C h comp c0 h1 h2
    obtain ⟨c, t, g1, g2, g3⟩ := Cond.castable_spec h
    cases h1.symm.trans g2
    cases h2.symm.trans g1
    exact g3
  obtain ⟨-, x1, x2, x3, x4, x5, x6, x7⟩ := hxK
  match k, he with
  | 0, he =>
    refine va_rAny (ci := 4) (r := (RX4, TX4, 4)) hK hP he rfl ?_
    intro comp c0 h1 h2
    have h3 := hK.1 4 _ rfl
    cases h1.symm.trans h2
    cases h1.symm.trans h3.2.1
    exact va_assign h3.2
  | 1, he => exact va_rAny (ci := 2) (r := (RX2, TX2, 4)) hK hP he rfl (cst x1)
  | 2, he => exact va_rAny (ci := 6) (r := (RX6, TX6, 4)) hK hP he rfl (cst x2)
  | 3, he => exact va_rAny (ci := 7) (r := (RX7, TX7, 5)) hK hP he rfl (cst x3)
  | 4, he => exact va_rAny (ci := 5) (r := (RX5, TX5, 4)) hK hP he rfl (cst x4)
  | 5, he => exact va_rAny (ci := 0) (r := (RX0, TX0, 4)) hK hP he rfl (cst x5)
  | 6, he => exact va_rAny (ci := 3) (r := (RX3, TX3, 5)) hK hP he rfl (cst x6)
  | n + 7, he => exact va_rAny (ci := 1) (r := (RX1, TX1, 5)) hK hP he rfl (cst x7)
theorem in_7 {k : Int32} (h : ¬ mWin k 0 7 = 0) : ∃ K : Nat, K ≤ 7 ∧ k = nI K := by
  obtain ⟨h1, h2⟩ := win_ii h
  obtain ⟨j, hj, rfl⟩ := nI_of h1
  refine ⟨j, ?_, rfl⟩
  rcases Nat.lt_or_ge 7 j with q | q
  · exact absurd (nI_lt q hj) h2
  · exact q
set_option maxHeartbeats 4000000 in
set_option maxRecDepth 100000 in
theorem c_nv_0 (l : Launch) (D : va_G) (cI cZ cP : ClassId) (d : Nat) (hd : 6 ≤ d) (ws : va_W) (am fr : Int32) : Ct l D (vTy cI cZ cP) yX8_newVoucher cX8_newVoucher 3 (some (.object "VoucherOffice$Plain")) d 1 5 [.int (nI 0), .int am, .int fr] ws (pN 0 am fr ws) := by
  refine ct_intro (by decide) (Nat.le_of_ble_eq_true rfl) ?_
  intro p e s m below meth c A L X hin hP hD hS hA hl
  have hl : lv_has L 3 [(0, .int (nI 0)), (1, .int am), (2, .int fr)] := hl
  obtain ⟨hx, hb, hr, hml, hown, hts, hK, hlk, hxK⟩ := id X
  refine lv_iload_n hx hb dX8_newVoucher_0 rfl (lv_at hl 0 rfl) ?_
  refine lv_tableIn (tgt := 44) (off := 43) hx hb dX8_newVoucher_1 (by decide) (by decide) (by rfl) (by decide) ?_
  refine va_new (ci := 4) (fs := [.int 0, .int 0, .int 0, .int 0]) (C := RX4) (T := TX4) (N := 4) hx hb hts in_X4 tyX4 tyX4_ok hown (hts _ mw_20) (hts _ mw_55) (hts _ mw_3) hK hP hD hS hA rfl (fun j hj => by rcases (show j = 0 ∨ j = 1 ∨ j = 2 ∨ j = 3 by omega) with rfl | rfl | rfl | rfl <;> rfl) (Nat.le_of_ble_eq_true rfl) (Nat.le_of_ble_eq_true rfl) dX8_newVoucher_44 (fun q H hP hD hS => ?_)
  have hP : va_P D vwCl (ws ++ [(q, vo_E 0 0 0 0 0 0 0)]) H := hP
  have hD : va_D A (ws ++ [(q, vo_E 0 0 0 0 0 0 0)]) := hD
  have he : (ws ++ [(q, vo_E 0 0 0 0 0 0 0)])[ws.length]? = some (q, vo_E 0 0 0 0 0 0 0) := ap_new _ _
  refine lv_dup hx hb dX8_newVoucher_47 rfl ?_
  refine lv_iload_n hx hb dX8_newVoucher_48 rfl (lv_at hl 0 rfl) ?_
  refine lv_iload_n hx hb dX8_newVoucher_49 rfl (lv_at hl 1 rfl) ?_
  refine lv_iload_n hx hb dX8_newVoucher_50 rfl (lv_at hl 2 rfl) ?_
  refine g_ctor (As := [.int (nI 0), .int am, .int fr]) (rest := [.ref q]) iw_X8_96 X (c_X4_init l D (vTy cI cZ cP) 1 (by decide) he (nI 0) am fr) hP hD hS hA ⟨by show _ ≤ d; omega, by show _ ≤ 30 * d; omega⟩ rfl hl.1 rfl (Nat.le_of_ble_eq_true rfl) dX8_newVoucher_51 ⟨(Nat.le_of_ble_eq_true rfl), (Nat.le_of_ble_eq_true rfl)⟩ (kW fun H locs hP hD hS => ?_)
  rw [ap_set] at hP hD
  refine W.eq (g2 := F0 m 54 L [.ref q]) rfl ?_
  refine W.widen (k := 1) (n := 5) (Nat.le_of_ble_eq_true rfl) (Nat.le_of_ble_eq_true rfl) ?_
  exact e_ref X hP hD hS dX8_newVoucher_54 (Or.inr ⟨_, rfl⟩) ⟨q, rfl, rfl⟩
set_option maxHeartbeats 4000000 in
set_option maxRecDepth 100000 in
theorem c_nv_1 (l : Launch) (D : va_G) (cI cZ cP : ClassId) (d : Nat) (hd : 6 ≤ d) (ws : va_W) (am fr : Int32) : Ct l D (vTy cI cZ cP) yX8_newVoucher cX8_newVoucher 3 (some (.object "VoucherOffice$Plain")) d 1 5 [.int (nI 1), .int am, .int fr] ws (pN 1 am fr ws) := by
  refine ct_intro (by decide) (Nat.le_of_ble_eq_true rfl) ?_
  intro p e s m below meth c A L X hin hP hD hS hA hl
  have hl : lv_has L 3 [(0, .int (nI 1)), (1, .int am), (2, .int fr)] := hl
  obtain ⟨hx, hb, hr, hml, hown, hts, hK, hlk, hxK⟩ := id X
  refine lv_iload_n hx hb dX8_newVoucher_0 rfl (lv_at hl 0 rfl) ?_
  refine lv_tableIn (tgt := 55) (off := 54) hx hb dX8_newVoucher_1 (by decide) (by decide) (by rfl) (by decide) ?_
  refine va_new (ci := 2) (fs := [.int 0, .int 0, .int 0, .int 0]) (C := RX2) (T := TX2) (N := 4) hx hb hts in_X2 tyX2 tyX2_ok hown (hts _ mw_83) (hts _ mw_84) (hts _ mw_4) hK hP hD hS hA rfl (fun j hj => by rcases (show j = 0 ∨ j = 1 ∨ j = 2 ∨ j = 3 by omega) with rfl | rfl | rfl | rfl <;> rfl) (Nat.le_of_ble_eq_true rfl) (Nat.le_of_ble_eq_true rfl) dX8_newVoucher_55 (fun q H hP hD hS => ?_)
  have hP : va_P D vwCl (ws ++ [(q, vo_E 1 0 0 0 0 0 0)]) H := hP
  have hD : va_D A (ws ++ [(q, vo_E 1 0 0 0 0 0 0)]) := hD
  have he : (ws ++ [(q, vo_E 1 0 0 0 0 0 0)])[ws.length]? = some (q, vo_E 1 0 0 0 0 0 0) := ap_new _ _
  refine lv_dup hx hb dX8_newVoucher_58 rfl ?_
  refine lv_iload_n hx hb dX8_newVoucher_59 rfl (lv_at hl 0 rfl) ?_
  refine lv_iload_n hx hb dX8_newVoucher_60 rfl (lv_at hl 1 rfl) ?_
  refine lv_iload_n hx hb dX8_newVoucher_61 rfl (lv_at hl 2 rfl) ?_
  refine g_ctor (As := [.int (nI 1), .int am, .int fr]) (rest := [.ref q]) iw_X8_101 X (c_X2_init l D (vTy cI cZ cP) 2 (by decide) he (nI 1) am fr) hP hD hS hA ⟨by show _ ≤ d; omega, by show _ ≤ 30 * d; omega⟩ rfl hl.1 rfl (Nat.le_of_ble_eq_true rfl) dX8_newVoucher_62 ⟨(Nat.le_of_ble_eq_true rfl), (Nat.le_of_ble_eq_true rfl)⟩ (kW fun H locs hP hD hS => ?_)
  rw [ap_set] at hP hD
  refine W.eq (g2 := F0 m 65 L [.ref q]) rfl ?_
  refine W.widen (k := 1) (n := 5) (Nat.le_of_ble_eq_true rfl) (Nat.le_of_ble_eq_true rfl) ?_
  exact e_ref X hP hD hS dX8_newVoucher_65 (Or.inr ⟨_, rfl⟩) ⟨q, rfl, rfl⟩
set_option maxHeartbeats 4000000 in
set_option maxRecDepth 100000 in
theorem c_nv_2 (l : Launch) (D : va_G) (cI cZ cP : ClassId) (d : Nat) (hd : 6 ≤ d) (ws : va_W) (am fr : Int32) : Ct l D (vTy cI cZ cP) yX8_newVoucher cX8_newVoucher 3 (some (.object "VoucherOffice$Plain")) d 1 5 [.int (nI 2), .int am, .int fr] ws (pN 2 am fr ws) := by
  refine ct_intro (by decide) (Nat.le_of_ble_eq_true rfl) ?_
  intro p e s m below meth c A L X hin hP hD hS hA hl
  have hl : lv_has L 3 [(0, .int (nI 2)), (1, .int am), (2, .int fr)] := hl
  obtain ⟨hx, hb, hr, hml, hown, hts, hK, hlk, hxK⟩ := id X
  refine lv_iload_n hx hb dX8_newVoucher_0 rfl (lv_at hl 0 rfl) ?_
  refine lv_tableIn (tgt := 66) (off := 65) hx hb dX8_newVoucher_1 (by decide) (by decide) (by rfl) (by decide) ?_
  refine va_new (ci := 6) (fs := [.int 0, .int 0, .int 0, .int 0]) (C := RX6) (T := TX6) (N := 4) hx hb hts in_X6 tyX6 tyX6_ok hown (hts _ mw_94) (hts _ mw_95) (hts _ mw_5) hK hP hD hS hA rfl (fun j hj => by rcases (show j = 0 ∨ j = 1 ∨ j = 2 ∨ j = 3 by omega) with rfl | rfl | rfl | rfl <;> rfl) (Nat.le_of_ble_eq_true rfl) (Nat.le_of_ble_eq_true rfl) dX8_newVoucher_66 (fun q H hP hD hS => ?_)
  have hP : va_P D vwCl (ws ++ [(q, vo_E 2 0 0 0 0 0 0)]) H := hP
  have hD : va_D A (ws ++ [(q, vo_E 2 0 0 0 0 0 0)]) := hD
  have he : (ws ++ [(q, vo_E 2 0 0 0 0 0 0)])[ws.length]? = some (q, vo_E 2 0 0 0 0 0 0) := ap_new _ _
  refine lv_dup hx hb dX8_newVoucher_69 rfl ?_
  refine lv_iload_n hx hb dX8_newVoucher_70 rfl (lv_at hl 0 rfl) ?_
  refine lv_iload_n hx hb dX8_newVoucher_71 rfl (lv_at hl 1 rfl) ?_
  refine lv_iload_n hx hb dX8_newVoucher_72 rfl (lv_at hl 2 rfl) ?_
  refine g_ctor (As := [.int (nI 2), .int am, .int fr]) (rest := [.ref q]) iw_X8_104 X (c_X6_init l D (vTy cI cZ cP) 3 (by decide) he (nI 2) am fr) hP hD hS hA ⟨by show _ ≤ d; omega, by show _ ≤ 30 * d; omega⟩ rfl hl.1 rfl (Nat.le_of_ble_eq_true rfl) dX8_newVoucher_73 ⟨(Nat.le_of_ble_eq_true rfl), (Nat.le_of_ble_eq_true rfl)⟩ (kW fun H locs hP hD hS => ?_)
  rw [ap_set] at hP hD
  refine W.eq (g2 := F0 m 76 L [.ref q]) rfl ?_
  refine W.widen (k := 1) (n := 5) (Nat.le_of_ble_eq_true rfl) (Nat.le_of_ble_eq_true rfl) ?_
  exact e_ref X hP hD hS dX8_newVoucher_76 (Or.inr ⟨_, rfl⟩) ⟨q, rfl, rfl⟩
set_option maxHeartbeats 4000000 in
set_option maxRecDepth 100000 in
theorem c_nv_3 (l : Launch) (D : va_G) (cI cZ cP : ClassId) (d : Nat) (hd : 6 ≤ d) (ws : va_W) (am fr : Int32) : Ct l D (vTy cI cZ cP) yX8_newVoucher cX8_newVoucher 3 (some (.object "VoucherOffice$Plain")) d 1 5 [.int (nI 3), .int am, .int fr] ws (pN 3 am fr ws) := by
  refine ct_intro (by decide) (Nat.le_of_ble_eq_true rfl) ?_
  intro p e s m below meth c A L X hin hP hD hS hA hl
  have hl : lv_has L 3 [(0, .int (nI 3)), (1, .int am), (2, .int fr)] := hl
  obtain ⟨hx, hb, hr, hml, hown, hts, hK, hlk, hxK⟩ := id X
  refine lv_iload_n hx hb dX8_newVoucher_0 rfl (lv_at hl 0 rfl) ?_
  refine lv_tableIn (tgt := 77) (off := 76) hx hb dX8_newVoucher_1 (by decide) (by decide) (by rfl) (by decide) ?_
  refine va_new (ci := 7) (fs := [.int 0, .int 0, .int 0, .int 0, .int 0]) (C := RX7) (T := TX7) (N := 5) hx hb hts in_X7 tyX7 tyX7_ok hown (hts _ mw_105) (hts _ mw_106) (hts _ mw_6) hK hP hD hS hA rfl (fun j hj => by rcases (show j = 0 ∨ j = 1 ∨ j = 2 ∨ j = 3 ∨ j = 4 by omega) with rfl | rfl | rfl | rfl | rfl <;> rfl) (Nat.le_of_ble_eq_true rfl) (Nat.le_of_ble_eq_true rfl) dX8_newVoucher_77 (fun q H hP hD hS => ?_)
  have hP : va_P D vwCl (ws ++ [(q, vo_E 3 0 0 0 0 0 0)]) H := hP
  have hD : va_D A (ws ++ [(q, vo_E 3 0 0 0 0 0 0)]) := hD
  have he : (ws ++ [(q, vo_E 3 0 0 0 0 0 0)])[ws.length]? = some (q, vo_E 3 0 0 0 0 0 0) := ap_new _ _
  refine lv_dup hx hb dX8_newVoucher_80 rfl ?_
  refine lv_iload_n hx hb dX8_newVoucher_81 rfl (lv_at hl 0 rfl) ?_
  refine lv_iload_n hx hb dX8_newVoucher_82 rfl (lv_at hl 1 rfl) ?_
  refine lv_iload_n hx hb dX8_newVoucher_83 rfl (lv_at hl 2 rfl) ?_
  refine g_ctor (As := [.int (nI 3), .int am, .int fr]) (rest := [.ref q]) iw_X8_107 X (c_X7_init l D (vTy cI cZ cP) 4 (by decide) he rfl (nI 3) am fr) hP hD hS hA ⟨by show _ ≤ d; omega, by show _ ≤ 30 * d; omega⟩ rfl hl.1 rfl (Nat.le_of_ble_eq_true rfl) dX8_newVoucher_84 ⟨(Nat.le_of_ble_eq_true rfl), (Nat.le_of_ble_eq_true rfl)⟩ (kW fun H locs hP hD hS => ?_)
  rw [ap_set] at hP hD
  refine W.eq (g2 := F0 m 87 L [.ref q]) rfl ?_
  refine W.widen (k := 1) (n := 5) (Nat.le_of_ble_eq_true rfl) (Nat.le_of_ble_eq_true rfl) ?_
  exact e_ref X hP hD hS dX8_newVoucher_87 (Or.inr ⟨_, rfl⟩) ⟨q, rfl, rfl⟩
set_option maxHeartbeats 4000000 in
set_option maxRecDepth 100000 in
theorem c_nv_4 (l : Launch) (D : va_G) (cI cZ cP : ClassId) (d : Nat) (hd : 6 ≤ d) (ws : va_W) (am fr : Int32) : Ct l D (vTy cI cZ cP) yX8_newVoucher cX8_newVoucher 3 (some (.object "VoucherOffice$Plain")) d 1 5 [.int (nI 4), .int am, .int fr] ws (pN 4 am fr ws) := by
  refine ct_intro (by decide) (Nat.le_of_ble_eq_true rfl) ?_
  intro p e s m below meth c A L X hin hP hD hS hA hl
  have hl : lv_has L 3 [(0, .int (nI 4)), (1, .int am), (2, .int fr)] := hl
  obtain ⟨hx, hb, hr, hml, hown, hts, hK, hlk, hxK⟩ := id X
  refine lv_iload_n hx hb dX8_newVoucher_0 rfl (lv_at hl 0 rfl) ?_
  refine lv_tableIn (tgt := 88) (off := 87) hx hb dX8_newVoucher_1 (by decide) (by decide) (by rfl) (by decide) ?_
  refine va_new (ci := 5) (fs := [.int 0, .int 0, .int 0, .int 0]) (C := RX5) (T := TX5) (N := 4) hx hb hts in_X5 tyX5 tyX5_ok hown (hts _ mw_119) (hts _ mw_120) (hts _ mw_7) hK hP hD hS hA rfl (fun j hj => by rcases (show j = 0 ∨ j = 1 ∨ j = 2 ∨ j = 3 by omega) with rfl | rfl | rfl | rfl <;> rfl) (Nat.le_of_ble_eq_true rfl) (Nat.le_of_ble_eq_true rfl) dX8_newVoucher_88 (fun q H hP hD hS => ?_)
  have hP : va_P D vwCl (ws ++ [(q, vo_E 4 0 0 0 0 0 0)]) H := hP
  have hD : va_D A (ws ++ [(q, vo_E 4 0 0 0 0 0 0)]) := hD
  have he : (ws ++ [(q, vo_E 4 0 0 0 0 0 0)])[ws.length]? = some (q, vo_E 4 0 0 0 0 0 0) := ap_new _ _
  refine lv_dup hx hb dX8_newVoucher_91 rfl ?_
  refine lv_iload_n hx hb dX8_newVoucher_92 rfl (lv_at hl 0 rfl) ?_
  refine lv_iload_n hx hb dX8_newVoucher_93 rfl (lv_at hl 1 rfl) ?_
  refine lv_iload_n hx hb dX8_newVoucher_94 rfl (lv_at hl 2 rfl) ?_
  refine g_ctor (As := [.int (nI 4), .int am, .int fr]) (rest := [.ref q]) iw_X8_110 X (c_X5_init l D (vTy cI cZ cP) 2 (by decide) he (nI 4) am fr) hP hD hS hA ⟨by show _ ≤ d; omega, by show _ ≤ 30 * d; omega⟩ rfl hl.1 rfl (Nat.le_of_ble_eq_true rfl) dX8_newVoucher_95 ⟨(Nat.le_of_ble_eq_true rfl), (Nat.le_of_ble_eq_true rfl)⟩ (kW fun H locs hP hD hS => ?_)
  rw [ap_set] at hP hD
  refine W.eq (g2 := F0 m 98 L [.ref q]) rfl ?_
  refine W.widen (k := 1) (n := 5) (Nat.le_of_ble_eq_true rfl) (Nat.le_of_ble_eq_true rfl) ?_
  exact e_ref X hP hD hS dX8_newVoucher_98 (Or.inr ⟨_, rfl⟩) ⟨q, rfl, rfl⟩
set_option maxHeartbeats 4000000 in
set_option maxRecDepth 100000 in
theorem c_nv_5 (l : Launch) (D : va_G) (cI cZ cP : ClassId) (d : Nat) (hd : 6 ≤ d) (ws : va_W) (am fr : Int32) : Ct l D (vTy cI cZ cP) yX8_newVoucher cX8_newVoucher 3 (some (.object "VoucherOffice$Plain")) d 1 5 [.int (nI 5), .int am, .int fr] ws (pN 5 am fr ws) := by
  refine ct_intro (by decide) (Nat.le_of_ble_eq_true rfl) ?_
  intro p e s m below meth c A L X hin hP hD hS hA hl
  have hl : lv_has L 3 [(0, .int (nI 5)), (1, .int am), (2, .int fr)] := hl
  obtain ⟨hx, hb, hr, hml, hown, hts, hK, hlk, hxK⟩ := id X
  refine lv_iload_n hx hb dX8_newVoucher_0 rfl (lv_at hl 0 rfl) ?_
  refine lv_tableIn (tgt := 99) (off := 98) hx hb dX8_newVoucher_1 (by decide) (by decide) (by rfl) (by decide) ?_
  refine va_new (ci := 0) (fs := [.int 0, .int 0, .int 0, .int 0]) (C := RX0) (T := TX0) (N := 4) hx hb hts in_X0 tyX0 tyX0_ok hown (hts _ mw_130) (hts _ mw_131) (hts _ mw_8) hK hP hD hS hA rfl (fun j hj => by rcases (show j = 0 ∨ j = 1 ∨ j = 2 ∨ j = 3 by omega) with rfl | rfl | rfl | rfl <;> rfl) (Nat.le_of_ble_eq_true rfl) (Nat.le_of_ble_eq_true rfl) dX8_newVoucher_99 (fun q H hP hD hS => ?_)
  have hP : va_P D vwCl (ws ++ [(q, vo_E 5 0 0 0 0 0 0)]) H := hP
  have hD : va_D A (ws ++ [(q, vo_E 5 0 0 0 0 0 0)]) := hD
  have he : (ws ++ [(q, vo_E 5 0 0 0 0 0 0)])[ws.length]? = some (q, vo_E 5 0 0 0 0 0 0) := ap_new _ _
  refine lv_dup hx hb dX8_newVoucher_102 rfl ?_
  refine lv_iload_n hx hb dX8_newVoucher_103 rfl (lv_at hl 0 rfl) ?_
  refine lv_iload_n hx hb dX8_newVoucher_104 rfl (lv_at hl 1 rfl) ?_
  refine lv_iload_n hx hb dX8_newVoucher_105 rfl (lv_at hl 2 rfl) ?_
  refine g_ctor (As := [.int (nI 5), .int am, .int fr]) (rest := [.ref q]) iw_X8_113 X (c_X0_init l D (vTy cI cZ cP) 3 (by decide) he (nI 5) am fr) hP hD hS hA ⟨by show _ ≤ d; omega, by show _ ≤ 30 * d; omega⟩ rfl hl.1 rfl (Nat.le_of_ble_eq_true rfl) dX8_newVoucher_106 ⟨(Nat.le_of_ble_eq_true rfl), (Nat.le_of_ble_eq_true rfl)⟩ (kW fun H locs hP hD hS => ?_)
  rw [ap_set] at hP hD
  refine W.eq (g2 := F0 m 109 L [.ref q]) rfl ?_
  refine W.widen (k := 1) (n := 5) (Nat.le_of_ble_eq_true rfl) (Nat.le_of_ble_eq_true rfl) ?_
  exact e_ref X hP hD hS dX8_newVoucher_109 (Or.inr ⟨_, rfl⟩) ⟨q, rfl, rfl⟩
set_option maxHeartbeats 4000000 in
set_option maxRecDepth 100000 in
theorem c_nv_6 (l : Launch) (D : va_G) (cI cZ cP : ClassId) (d : Nat) (hd : 6 ≤ d) (ws : va_W) (am fr : Int32) : Ct l D (vTy cI cZ cP) yX8_newVoucher cX8_newVoucher 3 (some (.object "VoucherOffice$Plain")) d 1 5 [.int (nI 6), .int am, .int fr] ws (pN 6 am fr ws) := by
  refine ct_intro (by decide) (Nat.le_of_ble_eq_true rfl) ?_
  intro p e s m below meth c A L X hin hP hD hS hA hl
  have hl : lv_has L 3 [(0, .int (nI 6)), (1, .int am), (2, .int fr)] := hl
  obtain ⟨hx, hb, hr, hml, hown, hts, hK, hlk, hxK⟩ := id X
  refine lv_iload_n hx hb dX8_newVoucher_0 rfl (lv_at hl 0 rfl) ?_
  refine lv_tableIn (tgt := 110) (off := 109) hx hb dX8_newVoucher_1 (by decide) (by decide) (by rfl) (by decide) ?_
  refine va_new (ci := 3) (fs := [.int 0, .int 0, .int 0, .int 0, .int 0]) (C := RX3) (T := TX3) (N := 5) hx hb hts in_X3 tyX3 tyX3_ok hown (hts _ mw_141) (hts _ mw_142) (hts _ mw_9) hK hP hD hS hA rfl (fun j hj => by rcases (show j = 0 ∨ j = 1 ∨ j = 2 ∨ j = 3 ∨ j = 4 by omega) with rfl | rfl | rfl | rfl | rfl <;> rfl) (Nat.le_of_ble_eq_true rfl) (Nat.le_of_ble_eq_true rfl) dX8_newVoucher_110 (fun q H hP hD hS => ?_)
  have hP : va_P D vwCl (ws ++ [(q, vo_E 6 0 0 0 0 0 0)]) H := hP
  have hD : va_D A (ws ++ [(q, vo_E 6 0 0 0 0 0 0)]) := hD
  have he : (ws ++ [(q, vo_E 6 0 0 0 0 0 0)])[ws.length]? = some (q, vo_E 6 0 0 0 0 0 0) := ap_new _ _
  refine lv_dup hx hb dX8_newVoucher_113 rfl ?_
  refine lv_iload_n hx hb dX8_newVoucher_114 rfl (lv_at hl 0 rfl) ?_
  refine lv_iload_n hx hb dX8_newVoucher_115 rfl (lv_at hl 1 rfl) ?_
  refine lv_iload_n hx hb dX8_newVoucher_116 rfl (lv_at hl 2 rfl) ?_
  refine g_ctor (As := [.int (nI 6), .int am, .int fr]) (rest := [.ref q]) iw_X8_116 X (c_X3_init l D (vTy cI cZ cP) 4 (by decide) he (by decide) (nI 6) am fr) hP hD hS hA ⟨by show _ ≤ d; omega, by show _ ≤ 30 * d; omega⟩ rfl hl.1 rfl (Nat.le_of_ble_eq_true rfl) dX8_newVoucher_117 ⟨(Nat.le_of_ble_eq_true rfl), (Nat.le_of_ble_eq_true rfl)⟩ (kW fun H locs hP hD hS => ?_)
  rw [ap_set] at hP hD
  refine W.eq (g2 := F0 m 120 L [.ref q]) rfl ?_
  refine W.widen (k := 1) (n := 5) (Nat.le_of_ble_eq_true rfl) (Nat.le_of_ble_eq_true rfl) ?_
  exact e_ref X hP hD hS dX8_newVoucher_120 (Or.inr ⟨_, rfl⟩) ⟨q, rfl, rfl⟩
set_option maxHeartbeats 4000000 in
set_option maxRecDepth 100000 in
theorem c_nv_7 (l : Launch) (D : va_G) (cI cZ cP : ClassId) (d : Nat) (hd : 6 ≤ d) (ws : va_W) (am fr : Int32) : Ct l D (vTy cI cZ cP) yX8_newVoucher cX8_newVoucher 3 (some (.object "VoucherOffice$Plain")) d 1 5 [.int (nI 7), .int am, .int fr] ws (pN 7 am fr ws) := by
  refine ct_intro (by decide) (Nat.le_of_ble_eq_true rfl) ?_
  intro p e s m below meth c A L X hin hP hD hS hA hl
  have hl : lv_has L 3 [(0, .int (nI 7)), (1, .int am), (2, .int fr)] := hl
  obtain ⟨hx, hb, hr, hml, hown, hts, hK, hlk, hxK⟩ := id X
  refine lv_iload_n hx hb dX8_newVoucher_0 rfl (lv_at hl 0 rfl) ?_
  refine lv_tableOut (tgt := 121) hx hb dX8_newVoucher_1 (Or.inr (by decide)) (by decide) ?_
  refine va_new (ci := 1) (fs := [.int 0, .int 0, .int 0, .int 0, .int 0]) (C := RX1) (T := TX1) (N := 5) hx hb hts in_X1 tyX1 tyX1_ok hown (hts _ mw_157) (hts _ mw_158) (hts _ mw_10) hK hP hD hS hA rfl (fun j hj => by rcases (show j = 0 ∨ j = 1 ∨ j = 2 ∨ j = 3 ∨ j = 4 by omega) with rfl | rfl | rfl | rfl | rfl <;> rfl) (Nat.le_of_ble_eq_true rfl) (Nat.le_of_ble_eq_true rfl) dX8_newVoucher_121 (fun q H hP hD hS => ?_)
  have hP : va_P D vwCl (ws ++ [(q, vo_E 7 0 0 0 0 0 0)]) H := hP
  have hD : va_D A (ws ++ [(q, vo_E 7 0 0 0 0 0 0)]) := hD
  have he : (ws ++ [(q, vo_E 7 0 0 0 0 0 0)])[ws.length]? = some (q, vo_E 7 0 0 0 0 0 0) := ap_new _ _
  refine lv_dup hx hb dX8_newVoucher_124 rfl ?_
  refine lv_iload_n hx hb dX8_newVoucher_125 rfl (lv_at hl 0 rfl) ?_
  refine lv_iload_n hx hb dX8_newVoucher_126 rfl (lv_at hl 1 rfl) ?_
  refine lv_iload_n hx hb dX8_newVoucher_127 rfl (lv_at hl 2 rfl) ?_
  refine g_ctor (As := [.int (nI 7), .int am, .int fr]) (rest := [.ref q]) iw_X8_119 X (c_X1_init l D (vTy cI cZ cP) 5 (by decide) he (by decide) (nI 7) am fr) hP hD hS hA ⟨by show _ ≤ d; omega, by show _ ≤ 30 * d; omega⟩ rfl hl.1 rfl (Nat.le_of_ble_eq_true rfl) dX8_newVoucher_128 ⟨(Nat.le_of_ble_eq_true rfl), (Nat.le_of_ble_eq_true rfl)⟩ (kW fun H locs hP hD hS => ?_)
  rw [ap_set] at hP hD
  refine W.eq (g2 := F0 m 131 L [.ref q]) rfl ?_
  refine W.widen (k := 1) (n := 5) (Nat.le_of_ble_eq_true rfl) (Nat.le_of_ble_eq_true rfl) ?_
  exact e_ref X hP hD hS dX8_newVoucher_131 (Or.inr ⟨_, rfl⟩) ⟨q, rfl, rfl⟩
theorem c_X8_newVoucher (l : Launch) (D : va_G) (cI cZ cP : ClassId) (d : Nat) (hd : 6 ≤ d) (ws : va_W) {K : Nat} (hK : K ≤ 7) (am fr : Int32) : Ct l D (vTy cI cZ cP) yX8_newVoucher cX8_newVoucher 3 (some (.object "VoucherOffice$Plain")) d 1 5 [.int (nI K), .int am, .int fr] ws (pN K am fr ws) := by
  rcases k_cases hK with rfl | rfl | rfl | rfl | rfl | rfl | rfl | rfl
  · exact c_nv_0 l D cI cZ cP d hd ws am fr
  · exact c_nv_1 l D cI cZ cP d hd ws am fr
  · exact c_nv_2 l D cI cZ cP d hd ws am fr
  · exact c_nv_3 l D cI cZ cP d hd ws am fr
  · exact c_nv_4 l D cI cZ cP d hd ws am fr
  · exact c_nv_5 l D cI cZ cP d hd ws am fr
  · exact c_nv_6 l D cI cZ cP d hd ws am fr
  · exact c_nv_7 l D cI cZ cP d hd ws am fr
theorem is40 {x : Int32} {n : Nat} (hn : x = nI n) (h40 : n ≤ 40) (h : ¬ x < 40) : x = 40 := by
  rcases Nat.lt_or_ge n 40 with q | q
  · exact absurd (by rw [hn]; exact nI_lt (b := 40) q (by decide)) h
  · rw [hn, show n = 40 by omega]; rfl
set_option maxHeartbeats 4000000 in
set_option maxRecDepth 100000 in
theorem c_X8_issue (l : Launch) (D : va_G) (cI cZ cP : ClassId) (d : Nat) (hd : 7 ≤ d) {ws : va_W} {h p0 p1 ha n : Nat} {row : Nat → Option Nat} {pv : Nat → Nat} {sc : Nat → Int32} {ar : Nat → Nat → Int32} (hO : of_at cP ws h p0 p1 ha row pv sc ar n) (hI : mInv sc ar n) (k am : Int32) : Ct l D (vTy cI cZ cP) yX8_issue cX8_issue 4 (some .int) d 1 5 [.ref h, .int k, .int am] ws (pO cP h (mIssue sc ar k am) ws) := by
  obtain ⟨hn, h40, hday, hvs, hout⟩ := id hI
  refine ct_intro (by decide) (Nat.le_of_ble_eq_true rfl) ?_
  intro p e s m below meth c A L X hin hP hD hS hA hl
  have hl : lv_has L 4 [(0, .ref h), (1, .int k), (2, .int am)] := hl
  obtain ⟨hx, hb, hr, hml, hown, hts, hK, hlk, hxK⟩ := id X
  have hfr := of_fr_rf ws
  refine lv_iload_n hx hb dX8_issue_0 rfl (lv_at hl 1 rfl) ?_
  refine lv_iconst (v := 0) hx hb dX8_issue_1 (by decide) ?_
  refine lv_bipush (v := 7) hx hb dX8_issue_2 (by decide) ?_
  refine g_static (As := [.int k, .int 0, .int 7]) (rest := []) sw_X8_34 X (c_X8_isOutside l D (vTy cI cZ cP) 0 (by decide) ws k 0 7) hP hD hS hA ⟨by show _ ≤ d; omega, by show _ ≤ 30 * d; omega⟩ rfl hl.1 rfl (Nat.le_of_ble_eq_true rfl) dX8_issue_4 ⟨(Nat.le_of_ble_eq_true rfl), (Nat.le_of_ble_eq_true rfl)⟩ (kI fun H locs hP hD hS => ?_)
  refine W.eq (g2 := F0 m 7 L [.int (mOut k 0 7)]) rfl ?_
  refine lv_if_ne (tgt := 20) hx hb dX8_issue_7 (by decide) (fun c_7 => ?_) (fun c_7 => ?_)
  · -- c_7 True
    have c_7 : mWin k 0 7 = 0 := out_1 c_7
    refine lv_bipush (v := (-2)) hx hb dX8_issue_20 (by decide) ?_
    refine W.widen (k := 1) (n := 5) (Nat.le_of_ble_eq_true rfl) (Nat.le_of_ble_eq_true rfl) ?_
    exact e_int X hP hD hS dX8_issue_22 (pO_of hO hn hfr (by simp only [mIssue, if_pos c_7]))
  · -- c_7 False
    have c_7 : ¬ mWin k 0 7 = 0 := out_0 c_7
    refine lv_iload_n hx hb dX8_issue_10 rfl (lv_at hl 2 rfl) ?_
    refine lv_iconst (v := 1) hx hb dX8_issue_11 (by decide) ?_
    refine lv_ldc (v := 100000) hx hb hown (hts _ mw_51) dX8_issue_12 ?_
    refine g_static (As := [.int am, .int 1, .int 100000]) (rest := []) sw_X8_34 X (c_X8_isOutside l D (vTy cI cZ cP) 0 (by decide) ws am 1 100000) hP hD hS hA ⟨by show _ ≤ d; omega, by show _ ≤ 30 * d; omega⟩ rfl hl.1 rfl (Nat.le_of_ble_eq_true rfl) dX8_issue_14 ⟨(Nat.le_of_ble_eq_true rfl), (Nat.le_of_ble_eq_true rfl)⟩ (kI fun H locs hP hD hS => ?_)
    refine W.eq (g2 := F0 m 17 L [.int (mOut am 1 100000)]) rfl ?_
    refine lv_if_eq (tgt := 23) hx hb dX8_issue_17 (by decide) (fun c_17 => ?_) (fun c_17 => ?_)
    · -- c_17 True
      have c_17 : ¬ mWin am 1 100000 = 0 := out_0 c_17
      refine lv_aload_n hx hb dX8_issue_23 rfl (lv_at hl 0 rfl) ?_
      refine of_g1 X hP hO.1 mw_23 dX8_issue_24 ?_
      refine lv_bipush (v := 40) hx hb dX8_issue_27 (by decide) ?_
      refine lv_icmp_lt (tgt := 35) hx hb dX8_issue_29 (by decide) (fun c_29 => ?_) (fun c_29 => ?_)
      · -- c_29 True
        refine lv_aload_n hx hb dX8_issue_35 rfl (lv_at hl 0 rfl) ?_
        refine of_g1 X hP hO.1 mw_23 dX8_issue_36 ?_
        refine lv_istore_n (lv' := [(3, .int (sc 1)), (0, .ref h), (1, .int k), (2, .int am)]) hx hb dX8_issue_39 rfl hl (by decide) rfl (fun L hl => ?_)
        refine lv_aload_n hx hb dX8_issue_40 rfl (lv_at hl 1 rfl) ?_
        refine of_gV X hP hO.1 mw_22 dX8_issue_41 ?_
        refine lv_iload_n hx hb dX8_issue_44 rfl (lv_at hl 0 rfl) ?_
        refine lv_iload_n hx hb dX8_issue_45 rfl (lv_at hl 2 rfl) ?_
        refine lv_iload_n hx hb dX8_issue_46 rfl (lv_at hl 3 rfl) ?_
        refine lv_aload_n hx hb dX8_issue_47 rfl (lv_at hl 1 rfl) ?_
        refine of_g0 X hP hO.1 mw_24 dX8_issue_48 ?_
        obtain ⟨K, hK7, eK⟩ := in_7 c_7
        subst eK
        have hn40 : n < 40 := by
          rw [hn] at c_29
          exact (nI_ltI (b := 40) (by omega) (by decide)).mp c_29
        have e99 : (sc 1).toNatClampNeg = n := by rw [hn]; exact nI_clamp (by omega)
        have hv : vp_in (sc 1) 40 := by rw [hn]; exact vp_in_nI hn40 (by decide)
        have c40 : ¬ sc 1 = 40 := fun z => absurd c_29 (by rw [z]; decide)
        refine g_static (As := [.int (nI K), .int am, .int (sc 0)]) (rest := [.int (sc 1), .ref ha]) sw_X8_39 X (c_X8_newVoucher l D cI cZ cP 6 (by decide) ws hK7 am (sc 0)) hP hD hS hA ⟨by show _ ≤ d; omega, by show _ ≤ 30 * d; omega⟩ rfl hl.1 rfl (Nat.le_of_ble_eq_true rfl) dX8_issue_51 ⟨(Nat.le_of_ble_eq_true rfl), (Nat.le_of_ble_eq_true rfl)⟩ (fun v1 ws1 H locs hq hP hD hS => ?_)
        obtain ⟨q, ev1, ew⟩ := hq
        subst ev1
        rw [ew] at hP hD
        refine W.eq (g2 := F0 m 54 L [.ref q, .int (sc 1), .ref ha]) rfl ?_
        have hD0 := hD
        refine va_astqM hx hb hK hP hD hS p1 2 (ap_up hO.2.1) rfl (as_any hK hxK hP (ap_new _ _)) hv dX8_issue_54 (fun H locs hP hD hS => ?_)
        rw [e99] at hP hD
        have hfresh : ∀ v, v < 40 → row v ≠ some q := fun v hv9 hr9 => by
          have g2 := (hO.get hv9 hr9).2
          have g3 := hD0.1 (pv v) ws.length _ _ (ap_up g2) (ap_new _ _) rfl
          have g4 := (List.getElem?_eq_some_iff.mp g2).1
          omega
        obtain ⟨o4, o5, o6⟩ := hout n (Nat.le_refl n)
        obtain ⟨ar1, ear1⟩ : ∃ z, z = mSet (mSet (mSet (mSet ar 0 n (nI K)) 1 n am) 2 n am) 3 n (sc 0) := ⟨_, rfl⟩
        have h6a : ∀ v, ar1 6 v = ar 6 v := fun v => by rw [ear1, mS_j _ _ _ _ _ _ (by decide : (6 : Nat) ≠ 3), mS_j _ _ _ _ _ _ (by decide : (6 : Nat) ≠ 2), mS_j _ _ _ _ _ _ (by decide : (6 : Nat) ≠ 1), mS_j _ _ _ _ _ _ (by decide : (6 : Nat) ≠ 0)]
        have hEa : ∀ v, v ≠ n → ofE ar1 v = ofE ar v := fun v hv => by rw [ear1, ofE_S _ _ _ _ _ hv, ofE_S _ _ _ _ _ hv, ofE_S _ _ _ _ _ hv, ofE_S _ _ _ _ _ hv]
        have hEn : vo_E K (nI K) (sc 0) am am 0 (-1) = ofE ar1 n := by
          simp only [ear1, ofE, mS_at, mS_j _ _ _ _ _ _ (by decide : (0 : Nat) ≠ 3), mS_j _ _ _ _ _ _ (by decide : (1 : Nat) ≠ 3), mS_j _ _ _ _ _ _ (by decide : (2 : Nat) ≠ 3), mS_j _ _ _ _ _ _ (by decide : (4 : Nat) ≠ 3), mS_j _ _ _ _ _ _ (by decide : (5 : Nat) ≠ 3), mS_j _ _ _ _ _ _ (by decide : (0 : Nat) ≠ 2), mS_j _ _ _ _ _ _ (by decide : (1 : Nat) ≠ 2), mS_j _ _ _ _ _ _ (by decide : (4 : Nat) ≠ 2), mS_j _ _ _ _ _ _ (by decide : (5 : Nat) ≠ 2), mS_j _ _ _ _ _ _ (by decide : (0 : Nat) ≠ 1), mS_j _ _ _ _ _ _ (by decide : (4 : Nat) ≠ 1), mS_j _ _ _ _ _ _ (by decide : (5 : Nat) ≠ 1), mS_j _ _ _ _ _ _ (by decide : (4 : Nat) ≠ 0), mS_j _ _ _ _ _ _ (by decide : (5 : Nat) ≠ 0), o4, o5]
          rw [show mI (nI K) = K from nI_clamp (by omega)]
          rfl
        have hfr := of_fr_tr hfr (of_fr_tr (of_fr_app ws (q, vo_E K (nI K) (sc 0) am am 0 (-1))) (of_fr_set (y := (ha, of_r cP (va_up row n (some q)))) (ap_up hO.2.1) rr_nM))
        have hO := hO.add hn40 ar1 h6a (by rw [h6a]; exact o6) hEa hEn hfresh
        refine lv_aload_n hx hb dX8_issue_55 rfl (lv_at hl 1 rfl) ?_
        refine lv_iload_n hx hb dX8_issue_56 rfl (lv_at hl 0 rfl) ?_
        refine lv_iconst (v := 1) hx hb dX8_issue_57 (by decide) ?_
        refine lv_iadd hx hb dX8_issue_58 ?_
        refine of_p1 X hP hD hS hO.1 mw_23 dX8_issue_59 (fun H locs hP hD hS => ?_)
        have hfr := of_fr_tr hfr (of_fr_set (y := (h, of_o (va_up sc 1 ((sc 1) + 1)) ha)) hO.1 oo_nM)
        have hO := hO.put (va_up sc 1 ((sc 1) + 1))
        refine lv_aload_n hx hb dX8_issue_62 rfl (lv_at hl 1 rfl) ?_
        refine lv_dup hx hb dX8_issue_63 rfl ?_
        refine of_g2 X hP hO.1 mw_25 dX8_issue_64 ?_
        refine lv_iload_n hx hb dX8_issue_67 rfl (lv_at hl 3 rfl) ?_
        refine lv_iadd hx hb dX8_issue_68 ?_
        refine of_p2 X hP hD hS hO.1 mw_25 dX8_issue_69 (fun H locs hP hD hS => ?_)
        have hfr := of_fr_tr hfr (of_fr_set (y := (h, of_o (va_up (va_up sc 1 ((sc 1) + 1)) 2 (((va_up sc 1 ((sc 1) + 1)) 2) + am)) ha)) hO.1 oo_nM)
        have hO := hO.put (va_up (va_up sc 1 ((sc 1) + 1)) 2 (((va_up sc 1 ((sc 1) + 1)) 2) + am))
        refine lv_iload_n hx hb dX8_issue_72 rfl (lv_at hl 0 rfl) ?_
        exact e_int X hP hD hS dX8_issue_73 (pO_of hO (by show sc 1 + 1 = nI (n + 1); rw [hn, nI_1]) hfr (by simp only [mIssue, if_neg c_7, if_neg c_17, if_neg c40, mI, e99, ear1]; rfl))
      · -- c_29 False
        refine lv_bipush (v := (-4)) hx hb dX8_issue_32 (by decide) ?_
        refine W.widen (k := 1) (n := 5) (Nat.le_of_ble_eq_true rfl) (Nat.le_of_ble_eq_true rfl) ?_
        exact e_int X hP hD hS dX8_issue_34 (pO_of hO hn hfr (by simp only [mIssue, if_neg c_7, if_neg c_17, if_pos (is40 hn h40 c_29)]))
    · -- c_17 False
      have c_17 : mWin am 1 100000 = 0 := out_1 c_17
      refine lv_bipush (v := (-2)) hx hb dX8_issue_20 (by decide) ?_
      refine W.widen (k := 1) (n := 5) (Nat.le_of_ble_eq_true rfl) (Nat.le_of_ble_eq_true rfl) ?_
      exact e_int X hP hD hS dX8_issue_22 (pO_of hO hn hfr (by simp only [mIssue, if_neg c_7, if_pos c_17]))
theorem ty_eq {D : va_G} {cl : List vw_C} {cI cZ cP cA : ClassId} {s : State} (h : va_K D cl (vTy cI cZ cP ++ [(cA, .int)]) s) : cA = cI := by
  have h1 : s.vm.findClass ("[" ++ (FieldType.int).toString) = some cI := (h.2 0 _ rfl).2
  have h2 : s.vm.findClass ("[" ++ (FieldType.int).toString) = some cA := (h.2 3 _ rfl).2
  exact Option.some.inj (h2.symm.trans h1)
theorem ty_eqZ {D : va_G} {cl : List vw_C} {cI cZ cP cA : ClassId} {s : State} (h : va_K D cl (vTy cI cZ cP ++ [(cA, .boolean)]) s) : cA = cZ := by
  have h1 : s.vm.findClass ("[" ++ (FieldType.boolean).toString) = some cZ := (h.2 1 _ rfl).2
  have h2 : s.vm.findClass ("[" ++ (FieldType.boolean).toString) = some cA := (h.2 3 _ rfl).2
  exact Option.some.inj (h2.symm.trans h1)
theorem ty_eqP {D : va_G} {cl : List vw_C} {cI cZ cP cA : ClassId} {s : State} (h : va_K D cl (vTy cI cZ cP ++ [(cA, .object "VoucherOffice$Plain")]) s) : cA = cP := by
  obtain ⟨-, -, -, -, -, h1⟩ := (h.2 2 _ rfl).2
  obtain ⟨-, -, -, -, -, h2⟩ := (h.2 3 _ rfl).2
  exact Option.some.inj (h2.symm.trans h1)
theorem mo_fr_app (ws : va_W) (x : Nat × va_E) : mo_fr ws (ws ++ [x]) := fun i a e hi _ => by
  rw [List.getElem?_append_left (List.getElem?_eq_some_iff.mp hi).1]
  exact hi
theorem pl_inj {q0 n : Nat} (h : q0 < n) : ∀ i j : Nat, i < 8 → j < 8 → (if i = 0 then q0 else n + (i - 1)) = (if j = 0 then q0 else n + (j - 1)) → i = j := by
  intro i j hi hj hq
  by_cases h1 : i = 0
  · by_cases h2 : j = 0
    · omega
    · rw [if_pos h1, if_neg h2] at hq; omega
  · by_cases h2 : j = 0
    · rw [if_neg h1, if_pos h2] at hq; omega
    · rw [if_neg h1, if_neg h2] at hq; omega
theorem ap_len (ws : va_W) (q : Nat) (y : Nat × va_E) : (ws.set q y).length = ws.length := by simp
set_option maxHeartbeats 4000000 in
set_option maxRecDepth 100000 in
theorem c_X8_init (l : Launch) (D : va_G) (cI cZ cP : ClassId) (d : Nat) (hd : 1 ≤ d) {ws : va_W} {h q0 : Nat} (he : ws[q0]? = some (h, .inr (8, [.null, .int 0, .int 0, .int 0, .int 0, .int 0, .int 0]))) : Ct l D (vTy cI cZ cP) yX8_init cX8_init 1 none d 1 40 [.ref h] ws (fun v w => v = none ∧ (∃ (p0 p1 ha : Nat) (row : Nat → Option Nat) (pv : Nat → Nat), of_at cP w h p0 p1 ha row pv (fun _ => 0) (fun _ _ => 0) 0) ∧ of_fr ws w) := by
  refine ct_intro (by decide) (Nat.le_of_ble_eq_true rfl) ?_
  intro p e s m below meth c A L X hin hP hD hS hA hl
  have hl : lv_has L 1 [(0, .ref h)] := hl
  obtain ⟨hx, hb, hr, hml, hown, hts, hK, hlk, hxK⟩ := id X
  refine lv_aload_n hx hb dX8_init_0 rfl (lv_at hl 0 rfl) ?_
  refine W.objInit hx hb hown (hts _ mw_17) (hts _ mw_18) (hts _ mw_19) rfl (by rw [hml]; exact hl.1) rfl dX8_init_1 (by show _ ≤ d; omega) (by show 0 + 12 ≤ 30 * d; omega) ?_
  refine W.eq (g2 := F0 m 4 L []) rfl ?_
  refine lv_aload_n hx hb dX8_init_4 rfl (lv_at hl 0 rfl) ?_
  refine lv_bipush (v := 40) hx hb dX8_init_5 (by decide) ?_
  refine va_newq (C := "VoucherOffice$Plain") (N' := 40) hx hb hown (hts _ mw_20) hxK.1 hK hP hD hS hA (by decide) (by decide) (by decide) (Nat.le_of_ble_eq_true rfl) (Nat.le_of_ble_eq_true rfl) dX8_init_7 (fun ha cA H hK2 hP hD hS => ?_)
  have ecA := ty_eqP hK2
  subst ecA
  have he := ap_up (y := (ha, of_r cA (fun _ => none))) he
  have hw := ap_new ws (ha, of_r cA (fun _ => none))
  have hP : va_P D vwCl (ws ++ [(ha, of_r cA (fun _ => none))]) H := hP
  have hD : va_D A (ws ++ [(ha, of_r cA (fun _ => none))]) := hD
  have hfr := of_fr_app ws (ha, of_r cA (fun _ => none))
  have hnq : ws.length ≠ q0 := pl_ne hw he (fun z => by cases z)
  refine va_putF (ci := 8) (v := .ref ha) (ty := .array (.object "VoucherOffice$Plain")) (C := RX8) (T := TX8) (N := 7) hx hb hts in_X8 tyX8 tyX8_ok nmX8 hown hK hP hD hS q0 he rfl 0 (by decide) (hts _ mw_22) (fun _ h9 => h9) rfl hin rfl (by decide +kernel) rfl rfl (Nat.le_of_ble_eq_true rfl) dX8_init_10 (fun H locs hP hD hS => ?_)
  have hP : va_P D vwCl ((ws ++ [(ha, of_r cA (fun _ => none))]).set q0 (h, of_o (fun _ => 0) ha)) H := hP
  have hD : va_D A ((ws ++ [(ha, of_r cA (fun _ => none))]).set q0 (h, of_o (fun _ => 0) ha)) := hD
  have hfr := of_fr_tr hfr (of_fr_set (y := (h, of_o (fun _ => 0) ha)) he (fun z => by have z : (8 : Nat) = 9 := z; omega))
  have hO : of_at cA ((ws ++ [(ha, of_r cA (fun _ => none))]).set q0 (h, of_o (fun _ => 0) ha)) h q0 ws.length ha (fun _ => none) (fun _ => 0) (fun _ => 0) (fun _ _ => 0) 0 := ⟨st_same he, st_other hnq.symm hw, fun v _ => Or.inr ⟨fun z => absurd z.1 (by omega), rfl⟩, fun v w a _ _ z _ => by cases z⟩
  obtain ⟨sc, esc⟩ : ∃ z : Nat → Int32, z = fun _ => 0 := ⟨_, rfl⟩
  rw [← esc] at hP hD hO
  refine lv_aload_n hx hb dX8_init_13 rfl (lv_at hl 0 rfl) ?_
  refine lv_iconst (v := 0) hx hb dX8_init_14 (by decide) ?_
  refine of_p1 X hP hD hS hO.1 mw_23 dX8_init_15 (fun H locs hP hD hS => ?_)
  have ez1 : va_up sc 1 0 = sc := by rw [esc]; funext z; simp [va_up]
  rw [ez1, st_self hO.1] at hP hD
  refine lv_aload_n hx hb dX8_init_18 rfl (lv_at hl 0 rfl) ?_
  refine lv_iconst (v := 0) hx hb dX8_init_19 (by decide) ?_
  refine of_p0 X hP hD hS hO.1 mw_24 dX8_init_20 (fun H locs hP hD hS => ?_)
  have ez0 : va_up sc 0 0 = sc := by rw [esc]; funext z; simp [va_up]
  rw [ez0, st_self hO.1] at hP hD
  refine lv_aload_n hx hb dX8_init_23 rfl (lv_at hl 0 rfl) ?_
  refine lv_iconst (v := 0) hx hb dX8_init_24 (by decide) ?_
  refine of_p2 X hP hD hS hO.1 mw_25 dX8_init_25 (fun H locs hP hD hS => ?_)
  have ez2 : va_up sc 2 0 = sc := by rw [esc]; funext z; simp [va_up]
  rw [ez2, st_self hO.1] at hP hD
  refine lv_aload_n hx hb dX8_init_28 rfl (lv_at hl 0 rfl) ?_
  refine lv_iconst (v := 0) hx hb dX8_init_29 (by decide) ?_
  refine of_p3 X hP hD hS hO.1 mw_26 dX8_init_30 (fun H locs hP hD hS => ?_)
  have ez3 : va_up sc 3 0 = sc := by rw [esc]; funext z; simp [va_up]
  rw [ez3, st_self hO.1] at hP hD
  refine lv_aload_n hx hb dX8_init_33 rfl (lv_at hl 0 rfl) ?_
  refine lv_iconst (v := 0) hx hb dX8_init_34 (by decide) ?_
  refine of_p4 X hP hD hS hO.1 mw_27 dX8_init_35 (fun H locs hP hD hS => ?_)
  have ez4 : va_up sc 4 0 = sc := by rw [esc]; funext z; simp [va_up]
  rw [ez4, st_self hO.1] at hP hD
  refine lv_aload_n hx hb dX8_init_38 rfl (lv_at hl 0 rfl) ?_
  refine lv_iconst (v := 0) hx hb dX8_init_39 (by decide) ?_
  refine of_p5 X hP hD hS hO.1 mw_28 dX8_init_40 (fun H locs hP hD hS => ?_)
  have ez5 : va_up sc 5 0 = sc := by rw [esc]; funext z; simp [va_up]
  rw [ez5, st_self hO.1] at hP hD
  rw [esc] at hO hP hD
  exact e_void X hP hD hS dX8_init_43 ⟨rfl, ⟨_, _, _, _, _, hO⟩, hfr⟩
set_option maxHeartbeats 4000000 in
set_option maxRecDepth 100000 in
theorem c_X9_init (l : Launch) (D : va_G) (cI cZ cP : ClassId) (d : Nat) (hd : 1 ≤ d) {ws : va_W} {h q0 : Nat} (he : ws[q0]? = some (h, .inr (9, [.int 0, .int 0, .int 0, .int 0, .int 0, .int 0, .null, .null, .null, .null, .null, .null, .null]))) : Ct l D (vTy cI cZ cP) yX9_init cX9_init 1 none d 7 280 [.ref h] ws (fun v w => v = none ∧ (∃ (q ad : Nat → Nat), mo_at cI cZ w h q ad (fun _ => 0) (fun _ _ => 0)) ∧ mo_fr ws w) := by
  refine ct_intro (by decide) (Nat.le_of_ble_eq_true rfl) ?_
  intro p e s m below meth c A L X hin hP hD hS hA hl
  have hl : lv_has L 1 [(0, .ref h)] := hl
  obtain ⟨hx, hb, hr, hml, hown, hts, hK, hlk, hxK⟩ := id X
  refine lv_aload_n hx hb dX9_init_0 rfl (lv_at hl 0 rfl) ?_
  refine W.objInit hx hb hown (hts _ mw_448) (hts _ mw_18) (hts _ mw_19) rfl (by rw [hml]; exact hl.1) rfl dX9_init_1 (by show _ ≤ d; omega) (by show 0 + 12 ≤ 30 * d; omega) ?_
  refine W.eq (g2 := F0 m 4 L []) rfl ?_
  have hfr := mo_fr_rf ws
  have hlen : ws.length = ws.length + 0 := rfl
  have hq0 := (List.getElem?_eq_some_iff.mp he).1
  refine lv_aload_n hx hb dX9_init_4 rfl (lv_at hl 0 rfl) ?_
  refine lv_bipush (v := 40) hx hb dX9_init_5 (by decide) ?_
  refine va_newa (atype := .int) (ty := .int) (N' := 40) (a0 := (40, .inl (fun _ => 0))) hx hb (hts _ mw_489) rfl hK hP hD hS hA (fun _ => rfl) (by decide) (by decide) (by decide) (Nat.le_of_ble_eq_true rfl) (Nat.le_of_ble_eq_true rfl) dX9_init_7 (fun a0 cA H hK2 hP hD hS => ?_)
  have ecA := ty_eq hK2
  rw [ecA] at hP hD
  clear ecA hK2
  obtain ⟨w0, ew0⟩ : ∃ z, z = (ws ++ [(a0, .inl (cI, 40, .inl (fun _ => 0)))] : va_W) := ⟨_, rfl⟩
  rw [← ew0] at hP hD
  have he : w0[q0]? = some (h, .inr (9, [.int 0, .int 0, .int 0, .int 0, .int 0, .int 0, .null, .null, .null, .null, .null, .null, .null])) := by rw [ew0]; exact ap_up he
  have r0 : w0[ws.length + 0]? = some (a0, .inl (cI, 40, .inl (fun _ => 0))) := by rw [ew0, ← hlen]; exact ap_new _ _
  have hfr : mo_fr ws w0 := by rw [ew0]; exact mo_fr_tr hfr (mo_fr_app _ _)
  have hlen : w0.length = ws.length + 1 := by rw [ew0, List.length_append, hlen]; rfl
  refine va_putF (ci := 9) (v := .ref a0) (ty := .array .int) (C := RX9) (T := TX9) (N := 13) hx hb hts in_X9 tyX9 tyX9_ok nmX9 hown hK hP hD hS q0 he rfl 6 (by decide) (hts _ mw_455) (fun _ h9 => h9) rfl hin rfl (by decide +kernel) rfl rfl (Nat.le_of_ble_eq_true rfl) dX9_init_9 (fun H locs hP hD hS => ?_)
  obtain ⟨v0, ev0⟩ : ∃ z, z = w0.set q0 (h, .inr (9, [.int 0, .int 0, .int 0, .int 0, .int 0, .int 0, .ref a0, .null, .null, .null, .null, .null, .null])) := ⟨_, rfl⟩
  have hfr : mo_fr ws v0 := by rw [ev0]; exact mo_fr_tr hfr (mo_fr_set he rfl)
  have r0 : v0[ws.length + 0]? = some (a0, .inl (cI, 40, .inl (fun _ => 0))) := by rw [ev0]; exact st_other (pl_ne he r0 (fun z => by cases z)) r0
  have he : v0[q0]? = some (h, .inr (9, [.int 0, .int 0, .int 0, .int 0, .int 0, .int 0, .ref a0, .null, .null, .null, .null, .null, .null])) := by rw [ev0]; exact st_same he
  have hlen : v0.length = ws.length + 1 := by rw [ev0, List.length_set, hlen]
  have hP : va_P D vwCl v0 H := by rw [ev0]; exact hP
  have hD : va_D A v0 := by rw [ev0]; exact hD
  clear ew0 ev0
  refine lv_aload_n hx hb dX9_init_12 rfl (lv_at hl 0 rfl) ?_
  refine lv_bipush (v := 40) hx hb dX9_init_13 (by decide) ?_
  refine va_newa (atype := .int) (ty := .int) (N' := 40) (a0 := (40, .inl (fun _ => 0))) hx hb (hts _ mw_489) rfl hK hP hD hS hA (fun _ => rfl) (by decide) (by decide) (by decide) (Nat.le_of_ble_eq_true rfl) (Nat.le_of_ble_eq_true rfl) dX9_init_15 (fun a1 cA H hK2 hP hD hS => ?_)
  have ecA := ty_eq hK2
  rw [ecA] at hP hD
  clear ecA hK2
  obtain ⟨w1, ew1⟩ : ∃ z, z = (v0 ++ [(a1, .inl (cI, 40, .inl (fun _ => 0)))] : va_W) := ⟨_, rfl⟩
  rw [← ew1] at hP hD
  have he : w1[q0]? = some (h, .inr (9, [.int 0, .int 0, .int 0, .int 0, .int 0, .int 0, .ref a0, .null, .null, .null, .null, .null, .null])) := by rw [ew1]; exact ap_up he
  have r0 : w1[ws.length + 0]? = some (a0, .inl (cI, 40, .inl (fun _ => 0))) := by rw [ew1]; exact ap_up r0
  have r1 : w1[ws.length + 1]? = some (a1, .inl (cI, 40, .inl (fun _ => 0))) := by rw [ew1, ← hlen]; exact ap_new _ _
  have hfr : mo_fr ws w1 := by rw [ew1]; exact mo_fr_tr hfr (mo_fr_app _ _)
  have hlen : w1.length = ws.length + 2 := by rw [ew1, List.length_append, hlen]; rfl
  refine va_putF (ci := 9) (v := .ref a1) (ty := .array .int) (C := RX9) (T := TX9) (N := 13) hx hb hts in_X9 tyX9 tyX9_ok nmX9 hown hK hP hD hS q0 he rfl 7 (by decide) (hts _ mw_456) (fun _ h9 => h9) rfl hin rfl (by decide +kernel) rfl rfl (Nat.le_of_ble_eq_true rfl) dX9_init_17 (fun H locs hP hD hS => ?_)
  obtain ⟨v1, ev1⟩ : ∃ z, z = w1.set q0 (h, .inr (9, [.int 0, .int 0, .int 0, .int 0, .int 0, .int 0, .ref a0, .ref a1, .null, .null, .null, .null, .null])) := ⟨_, rfl⟩
  have hfr : mo_fr ws v1 := by rw [ev1]; exact mo_fr_tr hfr (mo_fr_set he rfl)
  have r0 : v1[ws.length + 0]? = some (a0, .inl (cI, 40, .inl (fun _ => 0))) := by rw [ev1]; exact st_other (pl_ne he r0 (fun z => by cases z)) r0
  have r1 : v1[ws.length + 1]? = some (a1, .inl (cI, 40, .inl (fun _ => 0))) := by rw [ev1]; exact st_other (pl_ne he r1 (fun z => by cases z)) r1
  have he : v1[q0]? = some (h, .inr (9, [.int 0, .int 0, .int 0, .int 0, .int 0, .int 0, .ref a0, .ref a1, .null, .null, .null, .null, .null])) := by rw [ev1]; exact st_same he
  have hlen : v1.length = ws.length + 2 := by rw [ev1, List.length_set, hlen]
  have hP : va_P D vwCl v1 H := by rw [ev1]; exact hP
  have hD : va_D A v1 := by rw [ev1]; exact hD
  clear ew1 ev1
  refine lv_aload_n hx hb dX9_init_20 rfl (lv_at hl 0 rfl) ?_
  refine lv_bipush (v := 40) hx hb dX9_init_21 (by decide) ?_
  refine va_newa (atype := .int) (ty := .int) (N' := 40) (a0 := (40, .inl (fun _ => 0))) hx hb (hts _ mw_489) rfl hK hP hD hS hA (fun _ => rfl) (by decide) (by decide) (by decide) (Nat.le_of_ble_eq_true rfl) (Nat.le_of_ble_eq_true rfl) dX9_init_23 (fun a2 cA H hK2 hP hD hS => ?_)
  have ecA := ty_eq hK2
  rw [ecA] at hP hD
  clear ecA hK2
  obtain ⟨w2, ew2⟩ : ∃ z, z = (v1 ++ [(a2, .inl (cI, 40, .inl (fun _ => 0)))] : va_W) := ⟨_, rfl⟩
  rw [← ew2] at hP hD
  have he : w2[q0]? = some (h, .inr (9, [.int 0, .int 0, .int 0, .int 0, .int 0, .int 0, .ref a0, .ref a1, .null, .null, .null, .null, .null])) := by rw [ew2]; exact ap_up he
  have r0 : w2[ws.length + 0]? = some (a0, .inl (cI, 40, .inl (fun _ => 0))) := by rw [ew2]; exact ap_up r0
  have r1 : w2[ws.length + 1]? = some (a1, .inl (cI, 40, .inl (fun _ => 0))) := by rw [ew2]; exact ap_up r1
  have r2 : w2[ws.length + 2]? = some (a2, .inl (cI, 40, .inl (fun _ => 0))) := by rw [ew2, ← hlen]; exact ap_new _ _
  have hfr : mo_fr ws w2 := by rw [ew2]; exact mo_fr_tr hfr (mo_fr_app _ _)
  have hlen : w2.length = ws.length + 3 := by rw [ew2, List.length_append, hlen]; rfl
  refine va_putF (ci := 9) (v := .ref a2) (ty := .array .int) (C := RX9) (T := TX9) (N := 13) hx hb hts in_X9 tyX9 tyX9_ok nmX9 hown hK hP hD hS q0 he rfl 8 (by decide) (hts _ mw_457) (fun _ h9 => h9) rfl hin rfl (by decide +kernel) rfl rfl (Nat.le_of_ble_eq_true rfl) dX9_init_25 (fun H locs hP hD hS => ?_)
  obtain ⟨v2, ev2⟩ : ∃ z, z = w2.set q0 (h, .inr (9, [.int 0, .int 0, .int 0, .int 0, .int 0, .int 0, .ref a0, .ref a1, .ref a2, .null, .null, .null, .null])) := ⟨_, rfl⟩
  have hfr : mo_fr ws v2 := by rw [ev2]; exact mo_fr_tr hfr (mo_fr_set he rfl)
  have r0 : v2[ws.length + 0]? = some (a0, .inl (cI, 40, .inl (fun _ => 0))) := by rw [ev2]; exact st_other (pl_ne he r0 (fun z => by cases z)) r0
  have r1 : v2[ws.length + 1]? = some (a1, .inl (cI, 40, .inl (fun _ => 0))) := by rw [ev2]; exact st_other (pl_ne he r1 (fun z => by cases z)) r1
  have r2 : v2[ws.length + 2]? = some (a2, .inl (cI, 40, .inl (fun _ => 0))) := by rw [ev2]; exact st_other (pl_ne he r2 (fun z => by cases z)) r2
  have he : v2[q0]? = some (h, .inr (9, [.int 0, .int 0, .int 0, .int 0, .int 0, .int 0, .ref a0, .ref a1, .ref a2, .null, .null, .null, .null])) := by rw [ev2]; exact st_same he
  have hlen : v2.length = ws.length + 3 := by rw [ev2, List.length_set, hlen]
  have hP : va_P D vwCl v2 H := by rw [ev2]; exact hP
  have hD : va_D A v2 := by rw [ev2]; exact hD
  clear ew2 ev2
  refine lv_aload_n hx hb dX9_init_28 rfl (lv_at hl 0 rfl) ?_
  refine lv_bipush (v := 40) hx hb dX9_init_29 (by decide) ?_
  refine va_newa (atype := .int) (ty := .int) (N' := 40) (a0 := (40, .inl (fun _ => 0))) hx hb (hts _ mw_489) rfl hK hP hD hS hA (fun _ => rfl) (by decide) (by decide) (by decide) (Nat.le_of_ble_eq_true rfl) (Nat.le_of_ble_eq_true rfl) dX9_init_31 (fun a3 cA H hK2 hP hD hS => ?_)
  have ecA := ty_eq hK2
  rw [ecA] at hP hD
  clear ecA hK2
  obtain ⟨w3, ew3⟩ : ∃ z, z = (v2 ++ [(a3, .inl (cI, 40, .inl (fun _ => 0)))] : va_W) := ⟨_, rfl⟩
  rw [← ew3] at hP hD
  have he : w3[q0]? = some (h, .inr (9, [.int 0, .int 0, .int 0, .int 0, .int 0, .int 0, .ref a0, .ref a1, .ref a2, .null, .null, .null, .null])) := by rw [ew3]; exact ap_up he
  have r0 : w3[ws.length + 0]? = some (a0, .inl (cI, 40, .inl (fun _ => 0))) := by rw [ew3]; exact ap_up r0
  have r1 : w3[ws.length + 1]? = some (a1, .inl (cI, 40, .inl (fun _ => 0))) := by rw [ew3]; exact ap_up r1
  have r2 : w3[ws.length + 2]? = some (a2, .inl (cI, 40, .inl (fun _ => 0))) := by rw [ew3]; exact ap_up r2
  have r3 : w3[ws.length + 3]? = some (a3, .inl (cI, 40, .inl (fun _ => 0))) := by rw [ew3, ← hlen]; exact ap_new _ _
  have hfr : mo_fr ws w3 := by rw [ew3]; exact mo_fr_tr hfr (mo_fr_app _ _)
  have hlen : w3.length = ws.length + 4 := by rw [ew3, List.length_append, hlen]; rfl
  refine va_putF (ci := 9) (v := .ref a3) (ty := .array .int) (C := RX9) (T := TX9) (N := 13) hx hb hts in_X9 tyX9 tyX9_ok nmX9 hown hK hP hD hS q0 he rfl 9 (by decide) (hts _ mw_458) (fun _ h9 => h9) rfl hin rfl (by decide +kernel) rfl rfl (Nat.le_of_ble_eq_true rfl) dX9_init_33 (fun H locs hP hD hS => ?_)
  obtain ⟨v3, ev3⟩ : ∃ z, z = w3.set q0 (h, .inr (9, [.int 0, .int 0, .int 0, .int 0, .int 0, .int 0, .ref a0, .ref a1, .ref a2, .ref a3, .null, .null, .null])) := ⟨_, rfl⟩
  have hfr : mo_fr ws v3 := by rw [ev3]; exact mo_fr_tr hfr (mo_fr_set he rfl)
  have r0 : v3[ws.length + 0]? = some (a0, .inl (cI, 40, .inl (fun _ => 0))) := by rw [ev3]; exact st_other (pl_ne he r0 (fun z => by cases z)) r0
  have r1 : v3[ws.length + 1]? = some (a1, .inl (cI, 40, .inl (fun _ => 0))) := by rw [ev3]; exact st_other (pl_ne he r1 (fun z => by cases z)) r1
  have r2 : v3[ws.length + 2]? = some (a2, .inl (cI, 40, .inl (fun _ => 0))) := by rw [ev3]; exact st_other (pl_ne he r2 (fun z => by cases z)) r2
  have r3 : v3[ws.length + 3]? = some (a3, .inl (cI, 40, .inl (fun _ => 0))) := by rw [ev3]; exact st_other (pl_ne he r3 (fun z => by cases z)) r3
  have he : v3[q0]? = some (h, .inr (9, [.int 0, .int 0, .int 0, .int 0, .int 0, .int 0, .ref a0, .ref a1, .ref a2, .ref a3, .null, .null, .null])) := by rw [ev3]; exact st_same he
  have hlen : v3.length = ws.length + 4 := by rw [ev3, List.length_set, hlen]
  have hP : va_P D vwCl v3 H := by rw [ev3]; exact hP
  have hD : va_D A v3 := by rw [ev3]; exact hD
  clear ew3 ev3
  refine lv_aload_n hx hb dX9_init_36 rfl (lv_at hl 0 rfl) ?_
  refine lv_bipush (v := 40) hx hb dX9_init_37 (by decide) ?_
  refine va_newa (atype := .int) (ty := .int) (N' := 40) (a0 := (40, .inl (fun _ => 0))) hx hb (hts _ mw_489) rfl hK hP hD hS hA (fun _ => rfl) (by decide) (by decide) (by decide) (Nat.le_of_ble_eq_true rfl) (Nat.le_of_ble_eq_true rfl) dX9_init_39 (fun a4 cA H hK2 hP hD hS => ?_)
  have ecA := ty_eq hK2
  rw [ecA] at hP hD
  clear ecA hK2
  obtain ⟨w4, ew4⟩ : ∃ z, z = (v3 ++ [(a4, .inl (cI, 40, .inl (fun _ => 0)))] : va_W) := ⟨_, rfl⟩
  rw [← ew4] at hP hD
  have he : w4[q0]? = some (h, .inr (9, [.int 0, .int 0, .int 0, .int 0, .int 0, .int 0, .ref a0, .ref a1, .ref a2, .ref a3, .null, .null, .null])) := by rw [ew4]; exact ap_up he
  have r0 : w4[ws.length + 0]? = some (a0, .inl (cI, 40, .inl (fun _ => 0))) := by rw [ew4]; exact ap_up r0
  have r1 : w4[ws.length + 1]? = some (a1, .inl (cI, 40, .inl (fun _ => 0))) := by rw [ew4]; exact ap_up r1
  have r2 : w4[ws.length + 2]? = some (a2, .inl (cI, 40, .inl (fun _ => 0))) := by rw [ew4]; exact ap_up r2
  have r3 : w4[ws.length + 3]? = some (a3, .inl (cI, 40, .inl (fun _ => 0))) := by rw [ew4]; exact ap_up r3
  have r4 : w4[ws.length + 4]? = some (a4, .inl (cI, 40, .inl (fun _ => 0))) := by rw [ew4, ← hlen]; exact ap_new _ _
  have hfr : mo_fr ws w4 := by rw [ew4]; exact mo_fr_tr hfr (mo_fr_app _ _)
  have hlen : w4.length = ws.length + 5 := by rw [ew4, List.length_append, hlen]; rfl
  refine va_putF (ci := 9) (v := .ref a4) (ty := .array .int) (C := RX9) (T := TX9) (N := 13) hx hb hts in_X9 tyX9 tyX9_ok nmX9 hown hK hP hD hS q0 he rfl 10 (by decide) (hts _ mw_459) (fun _ h9 => h9) rfl hin rfl (by decide +kernel) rfl rfl (Nat.le_of_ble_eq_true rfl) dX9_init_41 (fun H locs hP hD hS => ?_)
  obtain ⟨v4, ev4⟩ : ∃ z, z = w4.set q0 (h, .inr (9, [.int 0, .int 0, .int 0, .int 0, .int 0, .int 0, .ref a0, .ref a1, .ref a2, .ref a3, .ref a4, .null, .null])) := ⟨_, rfl⟩
  have hfr : mo_fr ws v4 := by rw [ev4]; exact mo_fr_tr hfr (mo_fr_set he rfl)
  have r0 : v4[ws.length + 0]? = some (a0, .inl (cI, 40, .inl (fun _ => 0))) := by rw [ev4]; exact st_other (pl_ne he r0 (fun z => by cases z)) r0
  have r1 : v4[ws.length + 1]? = some (a1, .inl (cI, 40, .inl (fun _ => 0))) := by rw [ev4]; exact st_other (pl_ne he r1 (fun z => by cases z)) r1
  have r2 : v4[ws.length + 2]? = some (a2, .inl (cI, 40, .inl (fun _ => 0))) := by rw [ev4]; exact st_other (pl_ne he r2 (fun z => by cases z)) r2
  have r3 : v4[ws.length + 3]? = some (a3, .inl (cI, 40, .inl (fun _ => 0))) := by rw [ev4]; exact st_other (pl_ne he r3 (fun z => by cases z)) r3
  have r4 : v4[ws.length + 4]? = some (a4, .inl (cI, 40, .inl (fun _ => 0))) := by rw [ev4]; exact st_other (pl_ne he r4 (fun z => by cases z)) r4
  have he : v4[q0]? = some (h, .inr (9, [.int 0, .int 0, .int 0, .int 0, .int 0, .int 0, .ref a0, .ref a1, .ref a2, .ref a3, .ref a4, .null, .null])) := by rw [ev4]; exact st_same he
  have hlen : v4.length = ws.length + 5 := by rw [ev4, List.length_set, hlen]
  have hP : va_P D vwCl v4 H := by rw [ev4]; exact hP
  have hD : va_D A v4 := by rw [ev4]; exact hD
  clear ew4 ev4
  refine lv_aload_n hx hb dX9_init_44 rfl (lv_at hl 0 rfl) ?_
  refine lv_bipush (v := 40) hx hb dX9_init_45 (by decide) ?_
  refine va_newa (atype := .int) (ty := .int) (N' := 40) (a0 := (40, .inl (fun _ => 0))) hx hb (hts _ mw_489) rfl hK hP hD hS hA (fun _ => rfl) (by decide) (by decide) (by decide) (Nat.le_of_ble_eq_true rfl) (Nat.le_of_ble_eq_true rfl) dX9_init_47 (fun a5 cA H hK2 hP hD hS => ?_)
  have ecA := ty_eq hK2
  rw [ecA] at hP hD
  clear ecA hK2
  obtain ⟨w5, ew5⟩ : ∃ z, z = (v4 ++ [(a5, .inl (cI, 40, .inl (fun _ => 0)))] : va_W) := ⟨_, rfl⟩
  rw [← ew5] at hP hD
  have he : w5[q0]? = some (h, .inr (9, [.int 0, .int 0, .int 0, .int 0, .int 0, .int 0, .ref a0, .ref a1, .ref a2, .ref a3, .ref a4, .null, .null])) := by rw [ew5]; exact ap_up he
  have r0 : w5[ws.length + 0]? = some (a0, .inl (cI, 40, .inl (fun _ => 0))) := by rw [ew5]; exact ap_up r0
  have r1 : w5[ws.length + 1]? = some (a1, .inl (cI, 40, .inl (fun _ => 0))) := by rw [ew5]; exact ap_up r1
  have r2 : w5[ws.length + 2]? = some (a2, .inl (cI, 40, .inl (fun _ => 0))) := by rw [ew5]; exact ap_up r2
  have r3 : w5[ws.length + 3]? = some (a3, .inl (cI, 40, .inl (fun _ => 0))) := by rw [ew5]; exact ap_up r3
  have r4 : w5[ws.length + 4]? = some (a4, .inl (cI, 40, .inl (fun _ => 0))) := by rw [ew5]; exact ap_up r4
  have r5 : w5[ws.length + 5]? = some (a5, .inl (cI, 40, .inl (fun _ => 0))) := by rw [ew5, ← hlen]; exact ap_new _ _
  have hfr : mo_fr ws w5 := by rw [ew5]; exact mo_fr_tr hfr (mo_fr_app _ _)
  have hlen : w5.length = ws.length + 6 := by rw [ew5, List.length_append, hlen]; rfl
  refine va_putF (ci := 9) (v := .ref a5) (ty := .array .int) (C := RX9) (T := TX9) (N := 13) hx hb hts in_X9 tyX9 tyX9_ok nmX9 hown hK hP hD hS q0 he rfl 11 (by decide) (hts _ mw_460) (fun _ h9 => h9) rfl hin rfl (by decide +kernel) rfl rfl (Nat.le_of_ble_eq_true rfl) dX9_init_49 (fun H locs hP hD hS => ?_)
  obtain ⟨v5, ev5⟩ : ∃ z, z = w5.set q0 (h, .inr (9, [.int 0, .int 0, .int 0, .int 0, .int 0, .int 0, .ref a0, .ref a1, .ref a2, .ref a3, .ref a4, .ref a5, .null])) := ⟨_, rfl⟩
  have hfr : mo_fr ws v5 := by rw [ev5]; exact mo_fr_tr hfr (mo_fr_set he rfl)
  have r0 : v5[ws.length + 0]? = some (a0, .inl (cI, 40, .inl (fun _ => 0))) := by rw [ev5]; exact st_other (pl_ne he r0 (fun z => by cases z)) r0
  have r1 : v5[ws.length + 1]? = some (a1, .inl (cI, 40, .inl (fun _ => 0))) := by rw [ev5]; exact st_other (pl_ne he r1 (fun z => by cases z)) r1
  have r2 : v5[ws.length + 2]? = some (a2, .inl (cI, 40, .inl (fun _ => 0))) := by rw [ev5]; exact st_other (pl_ne he r2 (fun z => by cases z)) r2
  have r3 : v5[ws.length + 3]? = some (a3, .inl (cI, 40, .inl (fun _ => 0))) := by rw [ev5]; exact st_other (pl_ne he r3 (fun z => by cases z)) r3
  have r4 : v5[ws.length + 4]? = some (a4, .inl (cI, 40, .inl (fun _ => 0))) := by rw [ev5]; exact st_other (pl_ne he r4 (fun z => by cases z)) r4
  have r5 : v5[ws.length + 5]? = some (a5, .inl (cI, 40, .inl (fun _ => 0))) := by rw [ev5]; exact st_other (pl_ne he r5 (fun z => by cases z)) r5
  have he : v5[q0]? = some (h, .inr (9, [.int 0, .int 0, .int 0, .int 0, .int 0, .int 0, .ref a0, .ref a1, .ref a2, .ref a3, .ref a4, .ref a5, .null])) := by rw [ev5]; exact st_same he
  have hlen : v5.length = ws.length + 6 := by rw [ev5, List.length_set, hlen]
  have hP : va_P D vwCl v5 H := by rw [ev5]; exact hP
  have hD : va_D A v5 := by rw [ev5]; exact hD
  clear ew5 ev5
  refine lv_aload_n hx hb dX9_init_52 rfl (lv_at hl 0 rfl) ?_
  refine lv_bipush (v := 40) hx hb dX9_init_53 (by decide) ?_
  refine va_newa (atype := .boolean) (ty := .boolean) (N' := 40) (a0 := (40, .inl (fun _ => 0))) hx hb (hts _ mw_490) rfl hK hP hD hS hA (fun _ => rfl) (by decide) (by decide) (by decide) (Nat.le_of_ble_eq_true rfl) (Nat.le_of_ble_eq_true rfl) dX9_init_55 (fun a6 cA H hK2 hP hD hS => ?_)
  have ecA := ty_eqZ hK2
  rw [ecA] at hP hD
  clear ecA hK2
  obtain ⟨w6, ew6⟩ : ∃ z, z = (v5 ++ [(a6, .inl (cZ, 40, .inl (fun _ => 0)))] : va_W) := ⟨_, rfl⟩
  rw [← ew6] at hP hD
  have he : w6[q0]? = some (h, .inr (9, [.int 0, .int 0, .int 0, .int 0, .int 0, .int 0, .ref a0, .ref a1, .ref a2, .ref a3, .ref a4, .ref a5, .null])) := by rw [ew6]; exact ap_up he
  have r0 : w6[ws.length + 0]? = some (a0, .inl (cI, 40, .inl (fun _ => 0))) := by rw [ew6]; exact ap_up r0
  have r1 : w6[ws.length + 1]? = some (a1, .inl (cI, 40, .inl (fun _ => 0))) := by rw [ew6]; exact ap_up r1
  have r2 : w6[ws.length + 2]? = some (a2, .inl (cI, 40, .inl (fun _ => 0))) := by rw [ew6]; exact ap_up r2
  have r3 : w6[ws.length + 3]? = some (a3, .inl (cI, 40, .inl (fun _ => 0))) := by rw [ew6]; exact ap_up r3
  have r4 : w6[ws.length + 4]? = some (a4, .inl (cI, 40, .inl (fun _ => 0))) := by rw [ew6]; exact ap_up r4
  have r5 : w6[ws.length + 5]? = some (a5, .inl (cI, 40, .inl (fun _ => 0))) := by rw [ew6]; exact ap_up r5
  have r6 : w6[ws.length + 6]? = some (a6, .inl (cZ, 40, .inl (fun _ => 0))) := by rw [ew6, ← hlen]; exact ap_new _ _
  have hfr : mo_fr ws w6 := by rw [ew6]; exact mo_fr_tr hfr (mo_fr_app _ _)
  have hlen : w6.length = ws.length + 7 := by rw [ew6, List.length_append, hlen]; rfl
  refine va_putF (ci := 9) (v := .ref a6) (ty := .array .boolean) (C := RX9) (T := TX9) (N := 13) hx hb hts in_X9 tyX9 tyX9_ok nmX9 hown hK hP hD hS q0 he rfl 12 (by decide) (hts _ mw_461) (fun _ h9 => h9) rfl hin rfl (by decide +kernel) rfl rfl (Nat.le_of_ble_eq_true rfl) dX9_init_57 (fun H locs hP hD hS => ?_)
  obtain ⟨v6, ev6⟩ : ∃ z, z = w6.set q0 (h, .inr (9, [.int 0, .int 0, .int 0, .int 0, .int 0, .int 0, .ref a0, .ref a1, .ref a2, .ref a3, .ref a4, .ref a5, .ref a6])) := ⟨_, rfl⟩
  have hfr : mo_fr ws v6 := by rw [ev6]; exact mo_fr_tr hfr (mo_fr_set he rfl)
  have r0 : v6[ws.length + 0]? = some (a0, .inl (cI, 40, .inl (fun _ => 0))) := by rw [ev6]; exact st_other (pl_ne he r0 (fun z => by cases z)) r0
  have r1 : v6[ws.length + 1]? = some (a1, .inl (cI, 40, .inl (fun _ => 0))) := by rw [ev6]; exact st_other (pl_ne he r1 (fun z => by cases z)) r1
  have r2 : v6[ws.length + 2]? = some (a2, .inl (cI, 40, .inl (fun _ => 0))) := by rw [ev6]; exact st_other (pl_ne he r2 (fun z => by cases z)) r2
  have r3 : v6[ws.length + 3]? = some (a3, .inl (cI, 40, .inl (fun _ => 0))) := by rw [ev6]; exact st_other (pl_ne he r3 (fun z => by cases z)) r3
  have r4 : v6[ws.length + 4]? = some (a4, .inl (cI, 40, .inl (fun _ => 0))) := by rw [ev6]; exact st_other (pl_ne he r4 (fun z => by cases z)) r4
  have r5 : v6[ws.length + 5]? = some (a5, .inl (cI, 40, .inl (fun _ => 0))) := by rw [ev6]; exact st_other (pl_ne he r5 (fun z => by cases z)) r5
  have r6 : v6[ws.length + 6]? = some (a6, .inl (cZ, 40, .inl (fun _ => 0))) := by rw [ev6]; exact st_other (pl_ne he r6 (fun z => by cases z)) r6
  have he : v6[q0]? = some (h, .inr (9, [.int 0, .int 0, .int 0, .int 0, .int 0, .int 0, .ref a0, .ref a1, .ref a2, .ref a3, .ref a4, .ref a5, .ref a6])) := by rw [ev6]; exact st_same he
  have hlen : v6.length = ws.length + 7 := by rw [ev6, List.length_set, hlen]
  have hP : va_P D vwCl v6 H := by rw [ev6]; exact hP
  have hD : va_D A v6 := by rw [ev6]; exact hD
  clear ew6 ev6
  exact e_void X hP hD hS dX9_init_60 ⟨rfl, ⟨fun i => if i = 0 then q0 else ws.length + (i - 1), fun i => if i = 0 then a0 else if i = 1 then a1 else if i = 2 then a2 else if i = 3 then a3 else if i = 4 then a4 else if i = 5 then a5 else a6, he, r0, r1, r2, r3, r4, r5, r6, pl_inj hq0⟩, hfr⟩
