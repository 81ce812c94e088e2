def pI (ws : va_W) (r : Int32) : Option Value → va_W → Prop := fun v w => v = some (.int r) ∧ w = ws
def pW (v0 : Option Value) (w0 : va_W) : Option Value → va_W → Prop := fun v w => v = v0 ∧ w = w0
def vLast (k : Nat) (fr : Int32) : Int32 := match k with
  | 2 => fr + 90
  | 3 => fr + 30
  | _ => -3
def vSea (k : Nat) (fr le day : Int32) : Int32 := if day ≤ vLast k fr then le else 0
def vRnd (le : Int32) : Int32 := le - (le - le / 10 * 10)
def vVal (k : Nat) (fr le po day : Int32) : Int32 := match k with
  | 0 => le
  | 1 => le
  | 2 => vSea 2 fr le day
  | 3 => vSea 3 fr le day - vSea 3 fr le day / 10
  | 4 => vRnd le
  | 5 => vRnd le
  | 6 => vRnd le + po
  | _ => if day - day / 7 * 7 = 0 then (vRnd le + po) * 2 else vRnd le + po
def vFee (k : Nat) (po g : Int32) : Int32 := match k with
  | 0 => g / 50 + 1
  | 1 => g / 50 + 1
  | 2 => g / 50 + 1
  | 3 => (g / 50 + 1) / 2
  | 4 => g / 50 + 1
  | 5 => g / 50 + 1
  | 6 => g / 50 + 1
  | _ => if 0 < g / 50 + 1 - po then g / 50 + 1 - po else 0
def vBase (fr am le : Int32) : Int32 := (le * 31 + fr) * 31 + am
def vSeal (k : Nat) (fr am le po : Int32) : Int32 := match k with
  | 0 => vBase fr am le
  | 1 => vBase fr am le
  | 2 => vBase fr am le + vLast 2 fr
  | 3 => vBase fr am le + vLast 3 fr
  | 4 => vBase fr am le
  | 5 => vBase fr am le
  | 6 => vBase fr am le
  | _ => vBase fr am le + 3 * po
def vMark (k : Nat) (fr am le po n : Int32) : Int32 := match k with
  | 0 => -3
  | 1 => -3
  | 2 => -3
  | 3 => -3
  | 4 => -3
  | k => vSeal k fr am le po * 7 + n
def vDays (k : Nat) (fr day : Int32) : Int32 := match k with
  | 2 => if 0 < vLast 2 fr - day then vLast 2 fr - day else 0
  | 3 => if 0 < vLast 3 fr - day then vLast 3 fr - day else 0
  | _ => -3
def vLR (k : Nat) (fr le day : Int32) : Int32 := match k with
  | 2 => if vLast 2 fr < day then le else 0
  | 3 => if vLast 3 fr < day then le else 0
  | _ => 0
def vLL (k : Nat) (fr le day : Int32) : Int32 := match k with
  | 2 => if vLast 2 fr < day then 0 else le
  | 3 => if vLast 3 fr < day then 0 else le
  | _ => le
def vPts (k : Nat) (po : Int32) : Int32 := match k with
  | 0 => 0
  | 1 => 0
  | 2 => 0
  | 3 => 0
  | 4 => 0
  | 5 => 0
  | _ => po
def vLS (k : Nat) (ls : Int32) : Int32 := match k with
  | 3 => ls
  | _ => -1
def vSp (k : Nat) (fr le po day g : Int32) : Int32 := if vVal k fr le po day < g then -5 else if g + vFee k po g ≤ le then le - (g + vFee k po g) else -5
def vSpL (k : Nat) (fr le po day g : Int32) : Int32 := if vVal k fr le po day < g then le else if g + vFee k po g ≤ le then le - (g + vFee k po g) else le
def vSR (k : Nat) (fr le po ls day g : Int32) : Int32 := match k with
  | 3 => if ls = day then -6 else vSp 3 fr le po day g
  | k => vSp k fr le po day g
def vSL (k : Nat) (fr le po ls day g : Int32) : Int32 := match k with
  | 3 => if ls = day then le else vSpL 3 fr le po day g
  | k => vSpL k fr le po day g
def vSP (k : Nat) (fr le po day g : Int32) : Int32 := match k with
  | 0 => po
  | 1 => po
  | 2 => po
  | 3 => po
  | 4 => po
  | 5 => po
  | k => if vSp k fr le po day g < 0 then po else po + g / 100
def vSS (k : Nat) (fr le po ls day g : Int32) : Int32 := match k with
  | 3 => if ls = day then ls else if vSp 3 fr le po day g < 0 then ls else day
  | _ => ls
def vTP (k : Nat) (po : Int32) (k2 : Nat) (po2 : Int32) : Int32 := match k with
  | 0 => po
  | 1 => po
  | 2 => po
  | 3 => po
  | 4 => po
  | 5 => po
  | _ => po + vPts k2 po2
def vTS (k : Nat) (ls : Int32) (k2 : Nat) (ls2 : Int32) : Int32 := match k with
  | 3 => if ls < vLS k2 ls2 then vLS k2 ls2 else ls
  | _ => ls
section KI
variable {p : Program} {l : Launch} {e : Env} {R : Room} {s : State} {m : MethodId} {args : Array Value} {below : List Frame} {meth : Method} {c : Code} {cells slots : Nat} {Q : State → Prop} {pc : Nat} {L : Array Slot} {rest : List Value} {A0 : Nat → Prop} {H0 : Heap} {D : va_G} {ws w0 : va_W} {v0 : Option Value}
theorem kI {r : Int32} (kk : ∀ (H1 : Heap) (locs1 : List Loc), va_P D vwCl ws H1 → va_D A0 ws → va_S A0 H0 H1 locs1 → W p l e R s m args below meth c H1 locs1 cells slots Q (F0 m (pc + 3) L (.int r :: rest))) (v : Option Value) (ws1 : va_W) (H1 : Heap) (locs1 : List Loc) (hq : pI ws r v ws1) (hP : va_P D vwCl ws1 H1) (hD : va_D A0 ws1) (hS : va_S A0 H0 H1 locs1) : W p l e R s m args below meth c H1 locs1 (cells + 0) (slots + 0) Q (F0 m (pc + 3) L (v.toList ++ rest)) := by
  obtain ⟨rfl, rfl⟩ := hq
  exact kk H1 locs1 hP hD hS
theorem kW (kk : ∀ (H1 : Heap) (locs1 : List Loc), va_P D vwCl w0 H1 → va_D A0 w0 → va_S A0 H0 H1 locs1 → W p l e R s m args below meth c H1 locs1 cells slots Q (F0 m (pc + 3) L (v0.toList ++ rest))) (v : Option Value) (ws1 : va_W) (H1 : Heap) (locs1 : List Loc) (hq : pW v0 w0 v ws1) (hP : va_P D vwCl ws1 H1) (hD : va_D A0 ws1) (hS : va_S A0 H0 H1 locs1) : W p l e R s m args below meth c H1 locs1 (cells + 0) (slots + 0) Q (F0 m (pc + 3) L (v.toList ++ rest)) := by
  obtain ⟨rfl, rfl⟩ := hq
  exact kk H1 locs1 hP hD hS
end KI
theorem vo_rec (k : Nat) (kd fr am le po ls : Int32) : ∃ (ci : Nat) (fs : List Value) (cq : vw_C), vo_E k kd fr am le po ls = .inr (ci, fs) ∧ vwCl[ci]? = some cq := by
  match k with
  | 0 => exact ⟨4, _, _, rfl, rfl⟩
  | 1 => exact ⟨2, _, _, rfl, rfl⟩
  | 2 => exact ⟨6, _, _, rfl, rfl⟩
  | 3 => exact ⟨7, _, _, rfl, rfl⟩
  | 4 => exact ⟨5, _, _, rfl, rfl⟩
  | 5 => exact ⟨0, _, _, rfl, rfl⟩
  | 6 => exact ⟨3, _, _, rfl, rfl⟩
  | n + 7 => exact ⟨1, _, _, rfl, rfl⟩
theorem iw_X5_1 : IW RX5 1 yX4_init cX4_init 4 3 := ⟨mw_124, mw_57, mw_3, mw_58, rfl, by decide +kernel⟩
theorem iw_X2_1 : IW RX2 1 yX4_init cX4_init 4 3 := ⟨mw_88, mw_57, mw_3, mw_58, rfl, by decide +kernel⟩
theorem iw_X0_1 : IW RX0 1 yX5_init cX5_init 4 3 := ⟨mw_135, mw_122, mw_7, mw_123, rfl, by decide +kernel⟩
theorem iw_X6_1 : IW RX6 1 yX2_init cX2_init 4 3 := ⟨mw_99, mw_86, mw_4, mw_87, rfl, by decide +kernel⟩
theorem iw_X3_1 : IW RX3 1 yX0_init cX0_init 4 3 := ⟨mw_146, mw_133, mw_8, mw_134, rfl, by decide +kernel⟩
theorem iw_X7_3 : IW RX7 3 yX6_init cX6_init 4 3 := ⟨mw_110, mw_97, mw_5, mw_98, rfl, by decide +kernel⟩
theorem iw_X1_1 : IW RX1 1 yX3_init cX3_init 4 3 := ⟨mw_162, mw_144, mw_9, mw_145, rfl, by decide +kernel⟩
theorem uw_X6_17 : UW RX6 17 ⟨"VoucherOffice$Gift", "valueOn", "(I)I"⟩ "VoucherOffice$Plain" yX4_valueOn cX4_valueOn 2 (some .int) 1 := ⟨mw_212, mw_213, mw_104, mw_182, mw_3, mw_219, rfl, ⟨2, by decide, (sub_up mw_93 (sub_rf "VoucherOffice$Plain"))⟩, by decide, by decide +kernel⟩
theorem uw_X6_21 : UW RX6 21 ⟨"VoucherOffice$Gift", "sealNow", "()I"⟩ "VoucherOffice$Plain" yX4_sealNow cX4_sealNow 1 (some .int) 0 := ⟨mw_296, mw_297, mw_104, mw_280, mw_3, mw_299, rfl, ⟨2, by decide, (sub_up mw_93 (sub_rf "VoucherOffice$Plain"))⟩, by decide, by decide +kernel⟩
theorem uw_X7_20 : UW RX7 20 yX6_valueOn "VoucherOffice$Season" yX6_valueOn cX6_valueOn 2 (some .int) 1 := ⟨mw_218, mw_580, mw_118, mw_202, mw_5, mw_203, rfl, ⟨1, by decide, (sub_rf "VoucherOffice$Season")⟩, by decide, by decide +kernel⟩
theorem uw_X7_24 : UW RX7 24 ⟨"VoucherOffice$Season", "feeOf", "(I)I"⟩ "VoucherOffice$Plain" yX4_feeOf cX4_feeOf 2 (some .int) 1 := ⟨mw_245, mw_246, mw_118, mw_225, mw_3, mw_247, rfl, ⟨3, by decide, (sub_up mw_104 (sub_up mw_93 (sub_rf "VoucherOffice$Plain")))⟩, by decide, by decide +kernel⟩
theorem uw_X5_7 : UW RX5 7 yX4_valueOn "VoucherOffice$Plain" yX4_valueOn cX4_valueOn 2 (some .int) 1 := ⟨mw_188, mw_184, mw_129, mw_182, mw_3, mw_219, rfl, ⟨1, by decide, (sub_rf "VoucherOffice$Plain")⟩, by decide, by decide +kernel⟩
theorem uw_X3_13 : UW RX3 13 ⟨"VoucherOffice$Club", "valueOn", "(I)I"⟩ "VoucherOffice$Round" yX5_valueOn cX5_valueOn 3 (some .int) 1 := ⟨mw_195, mw_196, mw_156, mw_186, mw_7, mw_187, rfl, ⟨2, by decide, (sub_up mw_140 (sub_rf "VoucherOffice$Round"))⟩, by decide, by decide +kernel⟩
theorem uw_X1_7 : UW RX1 7 yX3_valueOn "VoucherOffice$House" yX3_valueOn cX3_valueOn 2 (some .int) 1 := ⟨mw_192, mw_579, mw_168, mw_193, mw_9, mw_194, rfl, ⟨1, by decide, (sub_rf "VoucherOffice$House")⟩, by decide, by decide +kernel⟩
theorem uw_X1_11 : UW RX1 11 ⟨"VoucherOffice$House", "feeOf", "(I)I"⟩ "VoucherOffice$Plain" yX4_feeOf cX4_feeOf 2 (some .int) 1 := ⟨mw_232, mw_233, mw_168, mw_225, mw_3, mw_247, rfl, ⟨4, by decide, (sub_up mw_156 (sub_up mw_140 (sub_up mw_129 (sub_rf "VoucherOffice$Plain"))))⟩, by decide, by decide +kernel⟩
theorem uw_X1_26 : UW RX1 26 ⟨"VoucherOffice$House", "sealNow", "()I"⟩ "VoucherOffice$Plain" yX4_sealNow cX4_sealNow 1 (some .int) 0 := ⟨mw_287, mw_288, mw_168, mw_280, mw_3, mw_299, rfl, ⟨4, by decide, (sub_up mw_156 (sub_up mw_140 (sub_up mw_129 (sub_rf "VoucherOffice$Plain"))))⟩, by decide, by decide +kernel⟩
theorem uw_X7_27 : UW RX7 27 ⟨"VoucherOffice$Season", "spendOn", "(II)I"⟩ "VoucherOffice$Plain" yX4_spendOn cX4_spendOn 4 (some .int) 2 := ⟨mw_270, mw_271, mw_118, mw_253, mw_3, mw_272, rfl, ⟨3, by decide, (sub_up mw_104 (sub_up mw_93 (sub_rf "VoucherOffice$Plain")))⟩, by decide, by decide +kernel⟩
theorem uw_X3_17 : UW RX3 17 ⟨"VoucherOffice$Club", "spendOn", "(II)I"⟩ "VoucherOffice$Plain" yX4_spendOn cX4_spendOn 4 (some .int) 2 := ⟨mw_260, mw_261, mw_156, mw_253, mw_3, mw_272, rfl, ⟨3, by decide, (sub_up mw_140 (sub_up mw_129 (sub_rf "VoucherOffice$Plain")))⟩, by decide, by decide +kernel⟩
theorem uw_X3_21 : UW RX3 21 ⟨"VoucherOffice$Club", "takeIn", "(LVoucherOffice$Plain;)V"⟩ "VoucherOffice$Plain" yX4_takeIn cX4_takeIn 2 none 1 := ⟨mw_372, mw_373, mw_156, mw_365, mw_3, mw_413, rfl, ⟨3, by decide, (sub_up mw_140 (sub_up mw_129 (sub_rf "VoucherOffice$Plain")))⟩, by decide, by decide +kernel⟩
theorem uw_X7_31 : UW RX7 31 ⟨"VoucherOffice$Season", "takeIn", "(LVoucherOffice$Plain;)V"⟩ "VoucherOffice$Plain" yX4_takeIn cX4_takeIn 2 none 1 := ⟨mw_396, mw_397, mw_118, mw_365, mw_3, mw_413, rfl, ⟨3, by decide, (sub_up mw_104 (sub_up mw_93 (sub_rf "VoucherOffice$Plain")))⟩, by decide, by decide +kernel⟩
set_option maxHeartbeats 4000000 in
set_option maxRecDepth 100000 in
theorem c_X4_valueOn (l : Launch) (D : va_G) (tys : List (ClassId × FieldType)) (d : Nat) (hd : 0 ≤ d) {ws : va_W} {q0 a k : Nat} {kd fr am le po ls : Int32} (he : ws[q0]? = some (a, vo_E k kd fr am le po ls)) (day : Int32) : Ct l D tys yX4_valueOn cX4_valueOn 2 (some .int) d 0 0 [.ref a, .int day] ws (pI ws le) := by
  refine ct_intro (by decide) (Nat.le_of_ble_eq_true rfl) ?_
  intro p e s m below meth c A L X hin hP hD hS hA hl
  have hl : lv_has L 2 [(0, .ref a), (1, .int day)] := hl
  obtain ⟨hx, hb, hr, hml, hown, hts, hK, hlk, hxK⟩ := id X
  refine lv_aload_n hx hb dX4_valueOn_0 rfl (lv_at hl 0 rfl) ?_
  refine vo_gL X hP he mw_70 (Or.inl rfl) dX4_valueOn_1 ?_
  exact e_int X hP hD hS dX4_valueOn_4 ⟨rfl, rfl⟩
set_option maxHeartbeats 4000000 in
set_option maxRecDepth 100000 in
theorem c_X4_feeOf (l : Launch) (D : va_G) (tys : List (ClassId × FieldType)) (d : Nat) (hd : 0 ≤ d) {ws : va_W} {q0 a k : Nat} {kd fr am le po ls : Int32} (he : ws[q0]? = some (a, vo_E k kd fr am le po ls)) (g : Int32) : Ct l D tys yX4_feeOf cX4_feeOf 2 (some .int) d 0 0 [.ref a, .int g] ws (pI ws (g / 50 + 1)) := by
  refine ct_intro (by decide) (Nat.le_of_ble_eq_true rfl) ?_
  intro p e s m below meth c A L X hin hP hD hS hA hl
  have hl : lv_has L 2 [(0, .ref a), (1, .int g)] := hl
  obtain ⟨hx, hb, hr, hml, hown, hts, hK, hlk, hxK⟩ := id X
  refine lv_iload_n hx hb dX4_feeOf_0 rfl (lv_at hl 1 rfl) ?_
  refine lv_bipush (v := 50) hx hb dX4_feeOf_1 (by decide) ?_
  refine lv_idiv hx hb dX4_feeOf_3 (by decide) ?_
  refine lv_iconst (v := 1) hx hb dX4_feeOf_4 (by decide) ?_
  refine lv_iadd hx hb dX4_feeOf_5 ?_
  exact e_int X hP hD hS dX4_feeOf_6 ⟨rfl, rfl⟩
set_option maxHeartbeats 4000000 in
set_option maxRecDepth 100000 in
theorem c_X4_sealNow (l : Launch) (D : va_G) (tys : List (ClassId × FieldType)) (d : Nat) (hd : 0 ≤ d) {ws : va_W} {q0 a k : Nat} {kd fr am le po ls : Int32} (he : ws[q0]? = some (a, vo_E k kd fr am le po ls)) : Ct l D tys yX4_sealNow cX4_sealNow 1 (some .int) d 0 0 [.ref a] ws (pI ws (vBase fr am le)) := by
  refine ct_intro (by decide) (Nat.le_of_ble_eq_true rfl) ?_
  intro p e s m below meth c A L X hin hP hD hS hA hl
  have hl : lv_has L 1 [(0, .ref a)] := hl
  obtain ⟨hx, hb, hr, hml, hown, hts, hK, hlk, hxK⟩ := id X
  refine lv_aload_n hx hb dX4_sealNow_0 rfl (lv_at hl 0 rfl) ?_
  refine vo_gL X hP he mw_70 (Or.inl rfl) dX4_sealNow_1 ?_
  refine lv_bipush (v := 31) hx hb dX4_sealNow_4 (by decide) ?_
  refine lv_imul hx hb dX4_sealNow_6 ?_
  refine lv_aload_n hx hb dX4_sealNow_7 rfl (lv_at hl 0 rfl) ?_
  refine vo_gF X hP he mw_62 (Or.inl rfl) dX4_sealNow_8 ?_
  refine lv_iadd hx hb dX4_sealNow_11 ?_
  refine lv_bipush (v := 31) hx hb dX4_sealNow_12 (by decide) ?_
  refine lv_imul hx hb dX4_sealNow_14 ?_
  refine lv_aload_n hx hb dX4_sealNow_15 rfl (lv_at hl 0 rfl) ?_
  refine vo_gA X hP he mw_68 (Or.inl rfl) dX4_sealNow_16 ?_
  refine lv_iadd hx hb dX4_sealNow_19 ?_
  exact e_int X hP hD hS dX4_sealNow_20 ⟨rfl, rfl⟩
set_option maxHeartbeats 4000000 in
set_option maxRecDepth 100000 in
theorem c_X4_markOf (l : Launch) (D : va_G) (tys : List (ClassId × FieldType)) (d : Nat) (hd : 0 ≤ d) {ws : va_W} {q0 a k : Nat} {kd fr am le po ls : Int32} (he : ws[q0]? = some (a, vo_E k kd fr am le po ls)) (n : Int32) : Ct l D tys yX4_markOf cX4_markOf 2 (some .int) d 0 0 [.ref a, .int n] ws (pI ws (-3)) := by
  refine ct_intro (by decide) (Nat.le_of_ble_eq_true rfl) ?_
  intro p e s m below meth c A L X hin hP hD hS hA hl
  have hl : lv_has L 2 [(0, .ref a), (1, .int n)] := hl
  obtain ⟨hx, hb, hr, hml, hown, hts, hK, hlk, hxK⟩ := id X
  refine lv_bipush (v := (-3)) hx hb dX4_markOf_0 (by decide) ?_
  exact e_int X hP hD hS dX4_markOf_2 ⟨rfl, rfl⟩
set_option maxHeartbeats 4000000 in
set_option maxRecDepth 100000 in
theorem c_X4_daysLeftOn (l : Launch) (D : va_G) (tys : List (ClassId × FieldType)) (d : Nat) (hd : 0 ≤ d) {ws : va_W} {q0 a k : Nat} {kd fr am le po ls : Int32} (he : ws[q0]? = some (a, vo_E k kd fr am le po ls)) (n : Int32) : Ct l D tys yX4_daysLeftOn cX4_daysLeftOn 2 (some .int) d 0 0 [.ref a, .int n] ws (pI ws (-3)) := by
  refine ct_intro (by decide) (Nat.le_of_ble_eq_true rfl) ?_
  intro p e s m below meth c A L X hin hP hD hS hA hl
  have hl : lv_has L 2 [(0, .ref a), (1, .int n)] := hl
  obtain ⟨hx, hb, hr, hml, hown, hts, hK, hlk, hxK⟩ := id X
  refine lv_bipush (v := (-3)) hx hb dX4_daysLeftOn_0 (by decide) ?_
  exact e_int X hP hD hS dX4_daysLeftOn_2 ⟨rfl, rfl⟩
set_option maxHeartbeats 4000000 in
set_option maxRecDepth 100000 in
theorem c_X4_lastDay (l : Launch) (D : va_G) (tys : List (ClassId × FieldType)) (d : Nat) (hd : 0 ≤ d) {ws : va_W} {q0 a k : Nat} {kd fr am le po ls : Int32} (he : ws[q0]? = some (a, vo_E k kd fr am le po ls)) : Ct l D tys yX4_lastDay cX4_lastDay 1 (some .int) d 0 0 [.ref a] ws (pI ws (-3)) := by
  refine ct_intro (by decide) (Nat.le_of_ble_eq_true rfl) ?_
  intro p e s m below meth c A L X hin hP hD hS hA hl
  have hl : lv_has L 1 [(0, .ref a)] := hl
  obtain ⟨hx, hb, hr, hml, hown, hts, hK, hlk, hxK⟩ := id X
  refine lv_bipush (v := (-3)) hx hb dX4_lastDay_0 (by decide) ?_
  exact e_int X hP hD hS dX4_lastDay_2 ⟨rfl, rfl⟩
set_option maxHeartbeats 4000000 in
set_option maxRecDepth 100000 in
theorem c_X4_lapseOn (l : Launch) (D : va_G) (tys : List (ClassId × FieldType)) (d : Nat) (hd : 0 ≤ d) {ws : va_W} {q0 a k : Nat} {kd fr am le po ls : Int32} (he : ws[q0]? = some (a, vo_E k kd fr am le po ls)) (n : Int32) : Ct l D tys yX4_lapseOn cX4_lapseOn 2 (some .int) d 0 0 [.ref a, .int n] ws (pW (some (.int 0)) (ws.set q0 (a, vo_E k kd fr am le po ls))) := by
  refine ct_intro (by decide) (Nat.le_of_ble_eq_true rfl) ?_
  intro p e s m below meth c A L X hin hP hD hS hA hl
  have hl : lv_has L 2 [(0, .ref a), (1, .int n)] := hl
  obtain ⟨hx, hb, hr, hml, hown, hts, hK, hlk, hxK⟩ := id X
  refine lv_iconst (v := 0) hx hb dX4_lapseOn_0 (by decide) ?_
  exact e_int X hP hD hS dX4_lapseOn_1 ⟨rfl, (st_self he).symm⟩
set_option maxHeartbeats 4000000 in
set_option maxRecDepth 100000 in
theorem c_X4_pointsNow (l : Launch) (D : va_G) (tys : List (ClassId × FieldType)) (d : Nat) (hd : 0 ≤ d) {ws : va_W} {q0 a k : Nat} {kd fr am le po ls : Int32} (he : ws[q0]? = some (a, vo_E k kd fr am le po ls)) : Ct l D tys yX4_pointsNow cX4_pointsNow 1 (some .int) d 0 0 [.ref a] ws (pI ws 0) := by
  refine ct_intro (by decide) (Nat.le_of_ble_eq_true rfl) ?_
  intro p e s m below meth c A L X hin hP hD hS hA hl
  have hl : lv_has L 1 [(0, .ref a)] := hl
  obtain ⟨hx, hb, hr, hml, hown, hts, hK, hlk, hxK⟩ := id X
  refine lv_iconst (v := 0) hx hb dX4_pointsNow_0 (by decide) ?_
  exact e_int X hP hD hS dX4_pointsNow_1 ⟨rfl, rfl⟩
set_option maxHeartbeats 4000000 in
set_option maxRecDepth 100000 in
theorem c_X4_lastSpent (l : Launch) (D : va_G) (tys : List (ClassId × FieldType)) (d : Nat) (hd : 0 ≤ d) {ws : va_W} {q0 a k : Nat} {kd fr am le po ls : Int32} (he : ws[q0]? = some (a, vo_E k kd fr am le po ls)) : Ct l D tys yX4_lastSpent cX4_lastSpent 1 (some .int) d 0 0 [.ref a] ws (pI ws (-1)) := by
  refine ct_intro (by decide) (Nat.le_of_ble_eq_true rfl) ?_
  intro p e s m below meth c A L X hin hP hD hS hA hl
  have hl : lv_has L 1 [(0, .ref a)] := hl
  obtain ⟨hx, hb, hr, hml, hown, hts, hK, hlk, hxK⟩ := id X
  refine lv_iconst (v := (-1)) hx hb dX4_lastSpent_0 (by decide) ?_
  exact e_int X hP hD hS dX4_lastSpent_1 ⟨rfl, rfl⟩
set_option maxHeartbeats 4000000 in
set_option maxRecDepth 100000 in
theorem c_X3_pointsNow (l : Launch) (D : va_G) (tys : List (ClassId × FieldType)) (d : Nat) (hd : 0 ≤ d) {ws : va_W} {q0 a k : Nat} {kd fr am le po ls : Int32} (he : ws[q0]? = some (a, vo_E k kd fr am le po ls)) (hk : 6 ≤ k) : Ct l D tys yX3_pointsNow cX3_pointsNow 1 (some .int) d 0 0 [.ref a] ws (pI ws po) := by
  refine ct_intro (by decide) (Nat.le_of_ble_eq_true rfl) ?_
  intro p e s m below meth c A L X hin hP hD hS hA hl
  have hl : lv_has L 1 [(0, .ref a)] := hl
  obtain ⟨hx, hb, hr, hml, hown, hts, hK, hlk, hxK⟩ := id X
  refine lv_aload_n hx hb dX3_pointsNow_0 rfl (lv_at hl 0 rfl) ?_
  refine vo_gP X hP hk he mw_147 (Or.inl rfl) dX3_pointsNow_1 ?_
  exact e_int X hP hD hS dX3_pointsNow_4 ⟨rfl, rfl⟩
set_option maxHeartbeats 4000000 in
set_option maxRecDepth 100000 in
theorem c_X7_lastSpent (l : Launch) (D : va_G) (tys : List (ClassId × FieldType)) (d : Nat) (hd : 0 ≤ d) {ws : va_W} {q0 a k : Nat} {kd fr am le po ls : Int32} (he : ws[q0]? = some (a, vo_E k kd fr am le po ls)) (hk : k = 3) : Ct l D tys yX7_lastSpent cX7_lastSpent 1 (some .int) d 0 0 [.ref a] ws (pI ws ls) := by
  refine ct_intro (by decide) (Nat.le_of_ble_eq_true rfl) ?_
  intro p e s m below meth c A L X hin hP hD hS hA hl
  have hl : lv_has L 1 [(0, .ref a)] := hl
  obtain ⟨hx, hb, hr, hml, hown, hts, hK, hlk, hxK⟩ := id X
  refine lv_aload_n hx hb dX7_lastSpent_0 rfl (lv_at hl 0 rfl) ?_
  refine vo_gS X hP hk he mw_111 (Or.inl rfl) dX7_lastSpent_1 ?_
  exact e_int X hP hD hS dX7_lastSpent_4 ⟨rfl, rfl⟩
set_option maxHeartbeats 4000000 in
set_option maxRecDepth 100000 in
theorem c_X6_lastDay (l : Launch) (D : va_G) (tys : List (ClassId × FieldType)) (d : Nat) (hd : 0 ≤ d) {ws : va_W} {q0 a k : Nat} {kd fr am le po ls : Int32} (he : ws[q0]? = some (a, vo_E k kd fr am le po ls)) : Ct l D tys yX6_lastDay cX6_lastDay 1 (some .int) d 0 0 [.ref a] ws (pI ws (fr + 90)) := by
  refine ct_intro (by decide) (Nat.le_of_ble_eq_true rfl) ?_
  intro p e s m below meth c A L X hin hP hD hS hA hl
  have hl : lv_has L 1 [(0, .ref a)] := hl
  obtain ⟨hx, hb, hr, hml, hown, hts, hK, hlk, hxK⟩ := id X
  refine lv_aload_n hx hb dX6_lastDay_0 rfl (lv_at hl 0 rfl) ?_
  refine vo_gF X hP he mw_63 (Or.inr mw_64) dX6_lastDay_1 ?_
  refine lv_bipush (v := 90) hx hb dX6_lastDay_4 (by decide) ?_
  refine lv_iadd hx hb dX6_lastDay_6 ?_
  exact e_int X hP hD hS dX6_lastDay_7 ⟨rfl, rfl⟩
set_option maxHeartbeats 4000000 in
set_option maxRecDepth 100000 in
theorem c_X7_lastDay (l : Launch) (D : va_G) (tys : List (ClassId × FieldType)) (d : Nat) (hd : 0 ≤ d) {ws : va_W} {q0 a k : Nat} {kd fr am le po ls : Int32} (he : ws[q0]? = some (a, vo_E k kd fr am le po ls)) : Ct l D tys yX7_lastDay cX7_lastDay 1 (some .int) d 0 0 [.ref a] ws (pI ws (fr + 30)) := by
  refine ct_intro (by decide) (Nat.le_of_ble_eq_true rfl) ?_
  intro p e s m below meth c A L X hin hP hD hS hA hl
  have hl : lv_has L 1 [(0, .ref a)] := hl
  obtain ⟨hx, hb, hr, hml, hown, hts, hK, hlk, hxK⟩ := id X
  refine lv_aload_n hx hb dX7_lastDay_0 rfl (lv_at hl 0 rfl) ?_
  refine vo_gF X hP he mw_65 (Or.inr mw_66) dX7_lastDay_1 ?_
  refine lv_bipush (v := 30) hx hb dX7_lastDay_4 (by decide) ?_
  refine lv_iadd hx hb dX7_lastDay_6 ?_
  exact e_int X hP hD hS dX7_lastDay_7 ⟨rfl, rfl⟩
set_option maxHeartbeats 4000000 in
set_option maxRecDepth 100000 in
theorem c_X4_init (l : Launch) (D : va_G) (tys : List (ClassId × FieldType)) (d : Nat) (hd : 1 ≤ d) {ws : va_W} {q0 a k : Nat} {kd fr am le po ls : Int32} (he : ws[q0]? = some (a, vo_E k kd fr am le po ls)) (k1 am1 fr1 : Int32) : Ct l D tys yX4_init cX4_init 4 none d 0 0 [.ref a, .int k1, .int am1, .int fr1] ws (pW none (ws.set q0 (a, vo_E k k1 fr1 am1 am1 po ls))) := by
  refine ct_intro (by decide) (Nat.le_of_ble_eq_true rfl) ?_
  intro p e s m below meth c A L X hin hP hD hS hA hl
  have hl : lv_has L 4 [(0, .ref a), (1, .int k1), (2, .int am1), (3, .int fr1)] := hl
  obtain ⟨hx, hb, hr, hml, hown, hts, hK, hlk, hxK⟩ := id X
  refine lv_aload_n hx hb dX4_init_0 rfl (lv_at hl 0 rfl) ?_
  refine W.objInit hx hb hown (hts _ mw_59) (hts _ mw_18) (hts _ mw_19) rfl (by rw [hml]; exact hl.1) rfl dX4_init_1 (by show _ ≤ d; omega) (by show 0 + 12 ≤ 30 * d; omega) ?_
  refine W.eq (g2 := F0 m 4 L []) rfl ?_
  refine lv_aload_n hx hb dX4_init_4 rfl (lv_at hl 0 rfl) ?_
  refine lv_iload_n hx hb dX4_init_5 rfl (lv_at hl 1 rfl) ?_
  refine vo_pK X hP hD hS hin rfl he mw_60 (Or.inl rfl) dX4_init_6 (fun H locs hP hD hS => ?_)
  have he : (ws.set q0 (a, vo_E k k1 fr am le po ls))[q0]? = some (a, vo_E k k1 fr am le po ls) := st_same he
  refine lv_aload_n hx hb dX4_init_9 rfl (lv_at hl 0 rfl) ?_
  refine lv_iload_n hx hb dX4_init_10 rfl (lv_at hl 3 rfl) ?_
  refine vo_pF X hP hD hS hin rfl he mw_62 (Or.inl rfl) dX4_init_11 (fun H locs hP hD hS => ?_)
  have he : ((ws.set q0 (a, vo_E k k1 fr am le po ls)).set q0 (a, vo_E k k1 fr1 am le po ls))[q0]? = some (a, vo_E k k1 fr1 am le po ls) := st_same he
  refine lv_aload_n hx hb dX4_init_14 rfl (lv_at hl 0 rfl) ?_
  refine lv_iload_n hx hb dX4_init_15 rfl (lv_at hl 2 rfl) ?_
  refine vo_pA X hP hD hS he mw_68 (Or.inl rfl) dX4_init_16 (fun H locs hP hD hS => ?_)
  have he : (((ws.set q0 (a, vo_E k k1 fr am le po ls)).set q0 (a, vo_E k k1 fr1 am le po ls)).set q0 (a, vo_E k k1 fr1 am1 le po ls))[q0]? = some (a, vo_E k k1 fr1 am1 le po ls) := st_same he
  refine lv_aload_n hx hb dX4_init_19 rfl (lv_at hl 0 rfl) ?_
  refine lv_iload_n hx hb dX4_init_20 rfl (lv_at hl 2 rfl) ?_
  refine vo_pL X hP hD hS he mw_70 (Or.inl rfl) dX4_init_21 (fun H locs hP hD hS => ?_)
  have he : ((((ws.set q0 (a, vo_E k k1 fr am le po ls)).set q0 (a, vo_E k k1 fr1 am le po ls)).set q0 (a, vo_E k k1 fr1 am1 le po ls)).set q0 (a, vo_E k k1 fr1 am1 am1 po ls))[q0]? = some (a, vo_E k k1 fr1 am1 am1 po ls) := st_same he
  exact e_void X hP hD hS dX4_init_24 ⟨rfl, by simp only [List.set_set]⟩
set_option maxHeartbeats 4000000 in
set_option maxRecDepth 100000 in
theorem c_X5_init (l : Launch) (D : va_G) (tys : List (ClassId × FieldType)) (d : Nat) (hd : 2 ≤ d) {ws : va_W} {q0 a k : Nat} {kd fr am le po ls : Int32} (he : ws[q0]? = some (a, vo_E k kd fr am le po ls)) (k1 am1 fr1 : Int32) : Ct l D tys yX5_init cX5_init 4 none d 0 0 [.ref a, .int k1, .int am1, .int fr1] ws (pW none (ws.set q0 (a, vo_E k k1 fr1 am1 am1 po ls))) := by
  refine ct_intro (by decide) (Nat.le_of_ble_eq_true rfl) ?_
  intro p e s m below meth c A L X hin hP hD hS hA hl
  have hl : lv_has L 4 [(0, .ref a), (1, .int k1), (2, .int am1), (3, .int fr1)] := hl
  obtain ⟨hx, hb, hr, hml, hown, hts, hK, hlk, hxK⟩ := id X
  refine lv_aload_n hx hb dX5_init_0 rfl (lv_at hl 0 rfl) ?_
  refine lv_iload_n hx hb dX5_init_1 rfl (lv_at hl 1 rfl) ?_
  refine lv_iload_n hx hb dX5_init_2 rfl (lv_at hl 2 rfl) ?_
  refine lv_iload_n hx hb dX5_init_3 rfl (lv_at hl 3 rfl) ?_
  refine g_ctor (As := [.int k1, .int am1, .int fr1]) (rest := []) iw_X5_1 X (c_X4_init l D tys 1 (by decide) he k1 am1 fr1) hP hD hS hA ⟨by show _ ≤ d; omega, by show _ ≤ 30 * d; omega⟩ rfl hl.1 rfl (Nat.le_of_ble_eq_true rfl) dX5_init_4 ⟨Nat.le_refl _, Nat.le_refl _⟩ (kW fun H locs hP hD hS => ?_)
  have he : (ws.set q0 (a, vo_E k k1 fr1 am1 am1 po ls))[q0]? = some (a, vo_E k k1 fr1 am1 am1 po ls) := st_same he
  refine W.eq (g2 := F0 m 7 L []) rfl ?_
  exact e_void X hP hD hS dX5_init_7 ⟨rfl, rfl⟩
set_option maxHeartbeats 4000000 in
set_option maxRecDepth 100000 in
theorem c_X2_init (l : Launch) (D : va_G) (tys : List (ClassId × FieldType)) (d : Nat) (hd : 2 ≤ d) {ws : va_W} {q0 a k : Nat} {kd fr am le po ls : Int32} (he : ws[q0]? = some (a, vo_E k kd fr am le po ls)) (k1 am1 fr1 : Int32) : Ct l D tys yX2_init cX2_init 4 none d 0 0 [.ref a, .int k1, .int am1, .int fr1] ws (pW none (ws.set q0 (a, vo_E k k1 fr1 am1 am1 po ls))) := by
  refine ct_intro (by decide) (Nat.le_of_ble_eq_true rfl) ?_
  intro p e s m below meth c A L X hin hP hD hS hA hl
  have hl : lv_has L 4 [(0, .ref a), (1, .int k1), (2, .int am1), (3, .int fr1)] := hl
  obtain ⟨hx, hb, hr, hml, hown, hts, hK, hlk, hxK⟩ := id X
  refine lv_aload_n hx hb dX2_init_0 rfl (lv_at hl 0 rfl) ?_
  refine lv_iload_n hx hb dX2_init_1 rfl (lv_at hl 1 rfl) ?_
  refine lv_iload_n hx hb dX2_init_2 rfl (lv_at hl 2 rfl) ?_
  refine lv_iload_n hx hb dX2_init_3 rfl (lv_at hl 3 rfl) ?_
  refine g_ctor (As := [.int k1, .int am1, .int fr1]) (rest := []) iw_X2_1 X (c_X4_init l D tys 1 (by decide) he k1 am1 fr1) hP hD hS hA ⟨by show _ ≤ d; omega, by show _ ≤ 30 * d; omega⟩ rfl hl.1 rfl (Nat.le_of_ble_eq_true rfl) dX2_init_4 ⟨Nat.le_refl _, Nat.le_refl _⟩ (kW fun H locs hP hD hS => ?_)
  have he : (ws.set q0 (a, vo_E k k1 fr1 am1 am1 po ls))[q0]? = some (a, vo_E k k1 fr1 am1 am1 po ls) := st_same he
  refine W.eq (g2 := F0 m 7 L []) rfl ?_
  exact e_void X hP hD hS dX2_init_7 ⟨rfl, rfl⟩
set_option maxHeartbeats 4000000 in
set_option maxRecDepth 100000 in
theorem c_X0_init (l : Launch) (D : va_G) (tys : List (ClassId × FieldType)) (d : Nat) (hd : 3 ≤ d) {ws : va_W} {q0 a k : Nat} {kd fr am le po ls : Int32} (he : ws[q0]? = some (a, vo_E k kd fr am le po ls)) (k1 am1 fr1 : Int32) : Ct l D tys yX0_init cX0_init 4 none d 0 0 [.ref a, .int k1, .int am1, .int fr1] ws (pW none (ws.set q0 (a, vo_E k k1 fr1 am1 am1 po ls))) := by
  refine ct_intro (by decide) (Nat.le_of_ble_eq_true rfl) ?_
  intro p e s m below meth c A L X hin hP hD hS hA hl
  have hl : lv_has L 4 [(0, .ref a), (1, .int k1), (2, .int am1), (3, .int fr1)] := hl
  obtain ⟨hx, hb, hr, hml, hown, hts, hK, hlk, hxK⟩ := id X
  refine lv_aload_n hx hb dX0_init_0 rfl (lv_at hl 0 rfl) ?_
  refine lv_iload_n hx hb dX0_init_1 rfl (lv_at hl 1 rfl) ?_
  refine lv_iload_n hx hb dX0_init_2 rfl (lv_at hl 2 rfl) ?_
  refine lv_iload_n hx hb dX0_init_3 rfl (lv_at hl 3 rfl) ?_
  refine g_ctor (As := [.int k1, .int am1, .int fr1]) (rest := []) iw_X0_1 X (c_X5_init l D tys 2 (by decide) he k1 am1 fr1) hP hD hS hA ⟨by show _ ≤ d; omega, by show _ ≤ 30 * d; omega⟩ rfl hl.1 rfl (Nat.le_of_ble_eq_true rfl) dX0_init_4 ⟨Nat.le_refl _, Nat.le_refl _⟩ (kW fun H locs hP hD hS => ?_)
  have he : (ws.set q0 (a, vo_E k k1 fr1 am1 am1 po ls))[q0]? = some (a, vo_E k k1 fr1 am1 am1 po ls) := st_same he
  refine W.eq (g2 := F0 m 7 L []) rfl ?_
  exact e_void X hP hD hS dX0_init_7 ⟨rfl, rfl⟩
set_option maxHeartbeats 4000000 in
set_option maxRecDepth 100000 in
theorem c_X6_init (l : Launch) (D : va_G) (tys : List (ClassId × FieldType)) (d : Nat) (hd : 3 ≤ d) {ws : va_W} {q0 a k : Nat} {kd fr am le po ls : Int32} (he : ws[q0]? = some (a, vo_E k kd fr am le po ls)) (k1 am1 fr1 : Int32) : Ct l D tys yX6_init cX6_init 4 none d 0 0 [.ref a, .int k1, .int am1, .int fr1] ws (pW none (ws.set q0 (a, vo_E k k1 fr1 am1 am1 po ls))) := by
  refine ct_intro (by decide) (Nat.le_of_ble_eq_true rfl) ?_
  intro p e s m below meth c A L X hin hP hD hS hA hl
  have hl : lv_has L 4 [(0, .ref a), (1, .int k1), (2, .int am1), (3, .int fr1)] := hl
  obtain ⟨hx, hb, hr, hml, hown, hts, hK, hlk, hxK⟩ := id X
  refine lv_aload_n hx hb dX6_init_0 rfl (lv_at hl 0 rfl) ?_
  refine lv_iload_n hx hb dX6_init_1 rfl (lv_at hl 1 rfl) ?_
  refine lv_iload_n hx hb dX6_init_2 rfl (lv_at hl 2 rfl) ?_
  refine lv_iload_n hx hb dX6_init_3 rfl (lv_at hl 3 rfl) ?_
  refine g_ctor (As := [.int k1, .int am1, .int fr1]) (rest := []) iw_X6_1 X (c_X2_init l D tys 2 (by decide) he k1 am1 fr1) hP hD hS hA ⟨by show _ ≤ d; omega, by show _ ≤ 30 * d; omega⟩ rfl hl.1 rfl (Nat.le_of_ble_eq_true rfl) dX6_init_4 ⟨Nat.le_refl _, Nat.le_refl _⟩ (kW fun H locs hP hD hS => ?_)
  have he : (ws.set q0 (a, vo_E k k1 fr1 am1 am1 po ls))[q0]? = some (a, vo_E k k1 fr1 am1 am1 po ls) := st_same he
  refine W.eq (g2 := F0 m 7 L []) rfl ?_
  exact e_void X hP hD hS dX6_init_7 ⟨rfl, rfl⟩
set_option maxHeartbeats 4000000 in
set_option maxRecDepth 100000 in
theorem c_X3_init (l : Launch) (D : va_G) (tys : List (ClassId × FieldType)) (d : Nat) (hd : 4 ≤ d) {ws : va_W} {q0 a k : Nat} {kd fr am le po ls : Int32} (he : ws[q0]? = some (a, vo_E k kd fr am le po ls)) (hk : 6 ≤ k) (k1 am1 fr1 : Int32) : Ct l D tys yX3_init cX3_init 4 none d 0 0 [.ref a, .int k1, .int am1, .int fr1] ws (pW none (ws.set q0 (a, vo_E k k1 fr1 am1 am1 0 ls))) := by
  refine ct_intro (by decide) (Nat.le_of_ble_eq_true rfl) ?_
  intro p e s m below meth c A L X hin hP hD hS hA hl
  have hl : lv_has L 4 [(0, .ref a), (1, .int k1), (2, .int am1), (3, .int fr1)] := hl
  obtain ⟨hx, hb, hr, hml, hown, hts, hK, hlk, hxK⟩ := id X
  refine lv_aload_n hx hb dX3_init_0 rfl (lv_at hl 0 rfl) ?_
  refine lv_iload_n hx hb dX3_init_1 rfl (lv_at hl 1 rfl) ?_
  refine lv_iload_n hx hb dX3_init_2 rfl (lv_at hl 2 rfl) ?_
  refine lv_iload_n hx hb dX3_init_3 rfl (lv_at hl 3 rfl) ?_
  refine g_ctor (As := [.int k1, .int am1, .int fr1]) (rest := []) iw_X3_1 X (c_X0_init l D tys 3 (by decide) he k1 am1 fr1) hP hD hS hA ⟨by show _ ≤ d; omega, by show _ ≤ 30 * d; omega⟩ rfl hl.1 rfl (Nat.le_of_ble_eq_true rfl) dX3_init_4 ⟨Nat.le_refl _, Nat.le_refl _⟩ (kW fun H locs hP hD hS => ?_)
  have he : (ws.set q0 (a, vo_E k k1 fr1 am1 am1 po ls))[q0]? = some (a, vo_E k k1 fr1 am1 am1 po ls) := st_same he
  refine W.eq (g2 := F0 m 7 L []) rfl ?_
  refine lv_aload_n hx hb dX3_init_7 rfl (lv_at hl 0 rfl) ?_
  refine lv_iconst (v := 0) hx hb dX3_init_8 (by decide) ?_
  refine vo_pP X hP hD hS hk he mw_147 (Or.inl rfl) dX3_init_9 (fun H locs hP hD hS => ?_)
  have he : ((ws.set q0 (a, vo_E k k1 fr1 am1 am1 po ls)).set q0 (a, vo_E k k1 fr1 am1 am1 0 ls))[q0]? = some (a, vo_E k k1 fr1 am1 am1 0 ls) := st_same he
  exact e_void X hP hD hS dX3_init_12 ⟨rfl, by simp only [List.set_set]⟩
set_option maxHeartbeats 4000000 in
set_option maxRecDepth 100000 in
theorem c_X7_init (l : Launch) (D : va_G) (tys : List (ClassId × FieldType)) (d : Nat) (hd : 4 ≤ d) {ws : va_W} {q0 a k : Nat} {kd fr am le po ls : Int32} (he : ws[q0]? = some (a, vo_E k kd fr am le po ls)) (hk : k = 3) (k1 am1 fr1 : Int32) : Ct l D tys yX7_init cX7_init 4 none d 0 0 [.ref a, .int k1, .int am1, .int fr1] ws (pW none (ws.set q0 (a, vo_E k k1 fr1 am1 am1 po (-1)))) := by
  refine ct_intro (by decide) (Nat.le_of_ble_eq_true rfl) ?_
  intro p e s m below meth c A L X hin hP hD hS hA hl
  have hl : lv_has L 4 [(0, .ref a), (1, .int k1), (2, .int am1), (3, .int fr1)] := hl
  obtain ⟨hx, hb, hr, hml, hown, hts, hK, hlk, hxK⟩ := id X
  refine lv_aload_n hx hb dX7_init_0 rfl (lv_at hl 0 rfl) ?_
  refine lv_iload_n hx hb dX7_init_1 rfl (lv_at hl 1 rfl) ?_
  refine lv_iload_n hx hb dX7_init_2 rfl (lv_at hl 2 rfl) ?_
  refine lv_iload_n hx hb dX7_init_3 rfl (lv_at hl 3 rfl) ?_
  refine g_ctor (As := [.int k1, .int am1, .int fr1]) (rest := []) iw_X7_3 X (c_X6_init l D tys 3 (by decide) he k1 am1 fr1) hP hD hS hA ⟨by show _ ≤ d; omega, by show _ ≤ 30 * d; omega⟩ rfl hl.1 rfl (Nat.le_of_ble_eq_true rfl) dX7_init_4 ⟨Nat.le_refl _, Nat.le_refl _⟩ (kW fun H locs hP hD hS => ?_)
  have he : (ws.set q0 (a, vo_E k k1 fr1 am1 am1 po ls))[q0]? = some (a, vo_E k k1 fr1 am1 am1 po ls) := st_same he
  refine W.eq (g2 := F0 m 7 L []) rfl ?_
  refine lv_aload_n hx hb dX7_init_7 rfl (lv_at hl 0 rfl) ?_
  refine lv_iconst (v := (-1)) hx hb dX7_init_8 (by decide) ?_
  refine vo_pS X hP hD hS hk he mw_111 (Or.inl rfl) dX7_init_9 (fun H locs hP hD hS => ?_)
  have he : ((ws.set q0 (a, vo_E k k1 fr1 am1 am1 po ls)).set q0 (a, vo_E k k1 fr1 am1 am1 po (-1)))[q0]? = some (a, vo_E k k1 fr1 am1 am1 po (-1)) := st_same he
  exact e_void X hP hD hS dX7_init_12 ⟨rfl, by simp only [List.set_set]⟩
set_option maxHeartbeats 4000000 in
set_option maxRecDepth 100000 in
theorem c_X1_init (l : Launch) (D : va_G) (tys : List (ClassId × FieldType)) (d : Nat) (hd : 5 ≤ d) {ws : va_W} {q0 a k : Nat} {kd fr am le po ls : Int32} (he : ws[q0]? = some (a, vo_E k kd fr am le po ls)) (hk : 6 ≤ k) (k1 am1 fr1 : Int32) : Ct l D tys yX1_init cX1_init 4 none d 0 0 [.ref a, .int k1, .int am1, .int fr1] ws (pW none (ws.set q0 (a, vo_E k k1 fr1 am1 am1 0 ls))) := by
  refine ct_intro (by decide) (Nat.le_of_ble_eq_true rfl) ?_
  intro p e s m below meth c A L X hin hP hD hS hA hl
  have hl : lv_has L 4 [(0, .ref a), (1, .int k1), (2, .int am1), (3, .int fr1)] := hl
  obtain ⟨hx, hb, hr, hml, hown, hts, hK, hlk, hxK⟩ := id X
  refine lv_aload_n hx hb dX1_init_0 rfl (lv_at hl 0 rfl) ?_
  refine lv_iload_n hx hb dX1_init_1 rfl (lv_at hl 1 rfl) ?_
  refine lv_iload_n hx hb dX1_init_2 rfl (lv_at hl 2 rfl) ?_
  refine lv_iload_n hx hb dX1_init_3 rfl (lv_at hl 3 rfl) ?_
  refine g_ctor (As := [.int k1, .int am1, .int fr1]) (rest := []) iw_X1_1 X (c_X3_init l D tys 4 (by decide) he hk k1 am1 fr1) hP hD hS hA ⟨by show _ ≤ d; omega, by show _ ≤ 30 * d; omega⟩ rfl hl.1 rfl (Nat.le_of_ble_eq_true rfl) dX1_init_4 ⟨Nat.le_refl _, Nat.le_refl _⟩ (kW fun H locs hP hD hS => ?_)
  have he : (ws.set q0 (a, vo_E k k1 fr1 am1 am1 0 ls))[q0]? = some (a, vo_E k k1 fr1 am1 am1 0 ls) := st_same he
  refine W.eq (g2 := F0 m 7 L []) rfl ?_
  exact e_void X hP hD hS dX1_init_7 ⟨rfl, rfl⟩
section DA
variable {p : Program} {l : Launch} {e : Env} {R : Room} {s : State} {m : MethodId} {args : Array Value} {below : List Frame} {meth : Method} {c : Code} {H : Heap} {locs : List Loc} {cells slots : Nat} {Q : State → Prop}
variable {pc : Nat} {L : Array Slot} {rest : List Value} {A0 : Nat → Prop} {H0 : Heap} {D : va_G} {tys : List (ClassId × FieldType)} {ws : va_W} {own : String} {cc : ByteArray} {nL idx q0 a k : Nat} {rt0 : Option FieldType} {kd fr am le po ls : Int32}
set_option maxHeartbeats 4000000 in
set_option maxRecDepth 100000 in
theorem dl_lastDay (X : Cx p m c meth s args own cc nL rt0 D tys) (hl : Cond.methodLink own idx yX6_lastDay ∈ wd_big) (hP : va_P D vwCl ws H) (hD : va_D A0 ws) (hS : va_S A0 H0 H locs) (hA : ∀ q, H0.size ≤ q → A0 q) (hk : k = 2 ∨ k = 3) (he : ws[q0]? = some (a, vo_E k kd fr am le po ls)) (hR : 1 ≤ R.frames ∧ 30 ≤ R.locals) (hsize : L.size = nL) (hW : (rest.map fun v => v.category).sum ≤ 8) (hdg : decode cc pc = .ok (.invokevirtual idx, 3)) (hf : cells ≤ R.cells ∧ slots ≤ R.slots)
    (kk : ∀ (H1 : Heap) (locs1 : List Loc), va_P D vwCl ws H1 → va_D A0 ws → va_S A0 H0 H1 locs1 → W p l e R s m args below meth c H1 locs1 cells slots Q (F0 m (pc + 3) L (.int (vLast k fr) :: rest))) : W p l e R s m args below meth c H locs cells slots Q (F0 m pc L (.ref a :: rest)) := by
  match k, hk, he, kk with
  | 0, hk, _, _ => exact absurd hk (by omega)
  | 1, hk, _, _ => exact absurd hk (by omega)
  | 2, _, he, kk => exact g_virt (n := 0) (As := []) (rest := rest) (ci := 6) (cq := (RX6, TX6, 4)) ⟨hl, mw_207, mw_205, mw_206, mw_205, mw_5, mw_211, ⟨_, _, _, mw_211⟩, by decide +kernel⟩ X (c_X6_lastDay l D tys 0 (by decide) he) hP hD hS hA he rfl rfl ⟨hR.1, Nat.le_trans (by decide) hR.2⟩ rfl hsize rfl hW hdg hf (kI kk)
  | 3, _, he, kk => exact g_virt (n := 0) (As := []) (rest := rest) (ci := 7) (cq := (RX7, TX7, 5)) ⟨hl, mw_207, mw_205, mw_208, mw_209, mw_6, mw_210, ⟨_, _, _, mw_211⟩, by decide +kernel⟩ X (c_X7_lastDay l D tys 0 (by decide) he) hP hD hS hA he rfl rfl ⟨hR.1, Nat.le_trans (by decide) hR.2⟩ rfl hsize rfl hW hdg hf (kI kk)
  | 4, hk, _, _ => exact absurd hk (by omega)
  | 5, hk, _, _ => exact absurd hk (by omega)
  | 6, hk, _, _ => exact absurd hk (by omega)
  | n + 7, hk, _, _ => exact absurd hk (by omega)
set_option maxHeartbeats 4000000 in
set_option maxRecDepth 100000 in
theorem dv_lastDay (X : Cx p m c meth s args own cc nL rt0 D tys) (hl : Cond.methodLink own idx yX4_lastDay ∈ wd_big) (hP : va_P D vwCl ws H) (hD : va_D A0 ws) (hS : va_S A0 H0 H locs) (hA : ∀ q, H0.size ≤ q → A0 q) (he : ws[q0]? = some (a, vo_E k kd fr am le po ls)) (hR : 1 ≤ R.frames ∧ 30 ≤ R.locals) (hsize : L.size = nL) (hW : (rest.map fun v => v.category).sum ≤ 8) (hdg : decode cc pc = .ok (.invokevirtual idx, 3)) (hf : cells ≤ R.cells ∧ slots ≤ R.slots)
    (kk : ∀ (H1 : Heap) (locs1 : List Loc), va_P D vwCl ws H1 → va_D A0 ws → va_S A0 H0 H1 locs1 → W p l e R s m args below meth c H1 locs1 cells slots Q (F0 m (pc + 3) L (.int (vLast k fr) :: rest))) : W p l e R s m args below meth c H locs cells slots Q (F0 m pc L (.ref a :: rest)) := by
  match k, he, kk with
  | 0, he, kk => exact g_virt (n := 0) (As := []) (rest := rest) (ci := 4) (cq := (RX4, TX4, 4)) ⟨hl, mw_426, mw_424, mw_425, mw_424, mw_3, mw_434, ⟨_, _, _, mw_434⟩, by decide +kernel⟩ X (c_X4_lastDay l D tys 0 (by decide) he) hP hD hS hA he rfl rfl ⟨hR.1, Nat.le_trans (by decide) hR.2⟩ rfl hsize rfl hW hdg hf (kI kk)
  | 1, he, kk => exact g_virt (n := 0) (As := []) (rest := rest) (ci := 2) (cq := (RX2, TX2, 4)) ⟨hl, mw_426, mw_424, mw_429, mw_424, mw_3, mw_434, ⟨_, _, _, mw_434⟩, by decide +kernel⟩ X (c_X4_lastDay l D tys 0 (by decide) he) hP hD hS hA he rfl rfl ⟨hR.1, Nat.le_trans (by decide) hR.2⟩ rfl hsize rfl hW hdg hf (kI kk)
  | 2, he, kk => exact g_virt (n := 0) (As := []) (rest := rest) (ci := 6) (cq := (RX6, TX6, 4)) ⟨hl, mw_426, mw_424, mw_432, mw_205, mw_5, mw_211, ⟨_, _, _, mw_434⟩, by decide +kernel⟩ X (c_X6_lastDay l D tys 0 (by decide) he) hP hD hS hA he rfl rfl ⟨hR.1, Nat.le_trans (by decide) hR.2⟩ rfl hsize rfl hW hdg hf (kI kk)
  | 3, he, kk => exact g_virt (n := 0) (As := []) (rest := rest) (ci := 7) (cq := (RX7, TX7, 5)) ⟨hl, mw_426, mw_424, mw_433, mw_209, mw_6, mw_210, ⟨_, _, _, mw_434⟩, by decide +kernel⟩ X (c_X7_lastDay l D tys 0 (by decide) he) hP hD hS hA he rfl rfl ⟨hR.1, Nat.le_trans (by decide) hR.2⟩ rfl hsize rfl hW hdg hf (kI kk)
  | 4, he, kk => exact g_virt (n := 0) (As := []) (rest := rest) (ci := 5) (cq := (RX5, TX5, 4)) ⟨hl, mw_426, mw_424, mw_431, mw_424, mw_3, mw_434, ⟨_, _, _, mw_434⟩, by decide +kernel⟩ X (c_X4_lastDay l D tys 0 (by decide) he) hP hD hS hA he rfl rfl ⟨hR.1, Nat.le_trans (by decide) hR.2⟩ rfl hsize rfl hW hdg hf (kI kk)
  | 5, he, kk => exact g_virt (n := 0) (As := []) (rest := rest) (ci := 0) (cq := (RX0, TX0, 4)) ⟨hl, mw_426, mw_424, mw_427, mw_424, mw_3, mw_434, ⟨_, _, _, mw_434⟩, by decide +kernel⟩ X (c_X4_lastDay l D tys 0 (by decide) he) hP hD hS hA he rfl rfl ⟨hR.1, Nat.le_trans (by decide) hR.2⟩ rfl hsize rfl hW hdg hf (kI kk)
  | 6, he, kk => exact g_virt (n := 0) (As := []) (rest := rest) (ci := 3) (cq := (RX3, TX3, 5)) ⟨hl, mw_426, mw_424, mw_430, mw_424, mw_3, mw_434, ⟨_, _, _, mw_434⟩, by decide +kernel⟩ X (c_X4_lastDay l D tys 0 (by decide) he) hP hD hS hA he rfl rfl ⟨hR.1, Nat.le_trans (by decide) hR.2⟩ rfl hsize rfl hW hdg hf (kI kk)
  | n + 7, he, kk => exact g_virt (n := 0) (As := []) (rest := rest) (ci := 1) (cq := (RX1, TX1, 5)) ⟨hl, mw_426, mw_424, mw_428, mw_424, mw_3, mw_434, ⟨_, _, _, mw_434⟩, by decide +kernel⟩ X (c_X4_lastDay l D tys 0 (by decide) he) hP hD hS hA he rfl rfl ⟨hR.1, Nat.le_trans (by decide) hR.2⟩ rfl hsize rfl hW hdg hf (kI kk)
set_option maxHeartbeats 4000000 in
set_option maxRecDepth 100000 in
theorem dv_pointsNow (X : Cx p m c meth s args own cc nL rt0 D tys) (hl : Cond.methodLink own idx yX4_pointsNow ∈ wd_big) (hP : va_P D vwCl ws H) (hD : va_D A0 ws) (hS : va_S A0 H0 H locs) (hA : ∀ q, H0.size ≤ q → A0 q) (he : ws[q0]? = some (a, vo_E k kd fr am le po ls)) (hR : 1 ≤ R.frames ∧ 30 ≤ R.locals) (hsize : L.size = nL) (hW : (rest.map fun v => v.category).sum ≤ 8) (hdg : decode cc pc = .ok (.invokevirtual idx, 3)) (hf : cells ≤ R.cells ∧ slots ≤ R.slots)
    (kk : ∀ (H1 : Heap) (locs1 : List Loc), va_P D vwCl ws H1 → va_D A0 ws → va_S A0 H0 H1 locs1 → W p l e R s m args below meth c H1 locs1 cells slots Q (F0 m (pc + 3) L (.int (vPts k po) :: rest))) : W p l e R s m args below meth c H locs cells slots Q (F0 m pc L (.ref a :: rest)) := by
  match k, he, kk with
  | 0, he, kk => exact g_virt (n := 0) (As := []) (rest := rest) (ci := 4) (cq := (RX4, TX4, 4)) ⟨hl, mw_378, mw_376, mw_377, mw_376, mw_3, mw_388, ⟨_, _, _, mw_388⟩, by decide +kernel⟩ X (c_X4_pointsNow l D tys 0 (by decide) he) hP hD hS hA he rfl rfl ⟨hR.1, Nat.le_trans (by decide) hR.2⟩ rfl hsize rfl hW hdg hf (kI kk)
  | 1, he, kk => exact g_virt (n := 0) (As := []) (rest := rest) (ci := 2) (cq := (RX2, TX2, 4)) ⟨hl, mw_378, mw_376, mw_383, mw_376, mw_3, mw_388, ⟨_, _, _, mw_388⟩, by decide +kernel⟩ X (c_X4_pointsNow l D tys 0 (by decide) he) hP hD hS hA he rfl rfl ⟨hR.1, Nat.le_trans (by decide) hR.2⟩ rfl hsize rfl hW hdg hf (kI kk)
  | 2, he, kk => exact g_virt (n := 0) (As := []) (rest := rest) (ci := 6) (cq := (RX6, TX6, 4)) ⟨hl, mw_378, mw_376, mw_386, mw_376, mw_3, mw_388, ⟨_, _, _, mw_388⟩, by decide +kernel⟩ X (c_X4_pointsNow l D tys 0 (by decide) he) hP hD hS hA he rfl rfl ⟨hR.1, Nat.le_trans (by decide) hR.2⟩ rfl hsize rfl hW hdg hf (kI kk)
  | 3, he, kk => exact g_virt (n := 0) (As := []) (rest := rest) (ci := 7) (cq := (RX7, TX7, 5)) ⟨hl, mw_378, mw_376, mw_387, mw_376, mw_3, mw_388, ⟨_, _, _, mw_388⟩, by decide +kernel⟩ X (c_X4_pointsNow l D tys 0 (by decide) he) hP hD hS hA he rfl rfl ⟨hR.1, Nat.le_trans (by decide) hR.2⟩ rfl hsize rfl hW hdg hf (kI kk)
  | 4, he, kk => exact g_virt (n := 0) (As := []) (rest := rest) (ci := 5) (cq := (RX5, TX5, 4)) ⟨hl, mw_378, mw_376, mw_385, mw_376, mw_3, mw_388, ⟨_, _, _, mw_388⟩, by decide +kernel⟩ X (c_X4_pointsNow l D tys 0 (by decide) he) hP hD hS hA he rfl rfl ⟨hR.1, Nat.le_trans (by decide) hR.2⟩ rfl hsize rfl hW hdg hf (kI kk)
  | 5, he, kk => exact g_virt (n := 0) (As := []) (rest := rest) (ci := 0) (cq := (RX0, TX0, 4)) ⟨hl, mw_378, mw_376, mw_379, mw_376, mw_3, mw_388, ⟨_, _, _, mw_388⟩, by decide +kernel⟩ X (c_X4_pointsNow l D tys 0 (by decide) he) hP hD hS hA he rfl rfl ⟨hR.1, Nat.le_trans (by decide) hR.2⟩ rfl hsize rfl hW hdg hf (kI kk)
  | 6, he, kk => exact g_virt (n := 0) (As := []) (rest := rest) (ci := 3) (cq := (RX3, TX3, 5)) ⟨hl, mw_378, mw_376, mw_384, mw_381, mw_9, mw_382, ⟨_, _, _, mw_388⟩, by decide +kernel⟩ X (c_X3_pointsNow l D tys 0 (by decide) he (by omega)) hP hD hS hA he rfl rfl ⟨hR.1, Nat.le_trans (by decide) hR.2⟩ rfl hsize rfl hW hdg hf (kI kk)
  | n + 7, he, kk => exact g_virt (n := 0) (As := []) (rest := rest) (ci := 1) (cq := (RX1, TX1, 5)) ⟨hl, mw_378, mw_376, mw_380, mw_381, mw_9, mw_382, ⟨_, _, _, mw_388⟩, by decide +kernel⟩ X (c_X3_pointsNow l D tys 0 (by decide) he (by omega)) hP hD hS hA he rfl rfl ⟨hR.1, Nat.le_trans (by decide) hR.2⟩ rfl hsize rfl hW hdg hf (kI kk)
set_option maxHeartbeats 4000000 in
set_option maxRecDepth 100000 in
theorem dv_lastSpent (X : Cx p m c meth s args own cc nL rt0 D tys) (hl : Cond.methodLink own idx yX4_lastSpent ∈ wd_big) (hP : va_P D vwCl ws H) (hD : va_D A0 ws) (hS : va_S A0 H0 H locs) (hA : ∀ q, H0.size ≤ q → A0 q) (he : ws[q0]? = some (a, vo_E k kd fr am le po ls)) (hR : 1 ≤ R.frames ∧ 30 ≤ R.locals) (hsize : L.size = nL) (hW : (rest.map fun v => v.category).sum ≤ 8) (hdg : decode cc pc = .ok (.invokevirtual idx, 3)) (hf : cells ≤ R.cells ∧ slots ≤ R.slots)
    (kk : ∀ (H1 : Heap) (locs1 : List Loc), va_P D vwCl ws H1 → va_D A0 ws → va_S A0 H0 H1 locs1 → W p l e R s m args below meth c H1 locs1 cells slots Q (F0 m (pc + 3) L (.int (vLS k ls) :: rest))) : W p l e R s m args below meth c H locs cells slots Q (F0 m pc L (.ref a :: rest)) := by
  match k, he, kk with
  | 0, he, kk => exact g_virt (n := 0) (As := []) (rest := rest) (ci := 4) (cq := (RX4, TX4, 4)) ⟨hl, mw_401, mw_399, mw_400, mw_399, mw_3, mw_411, ⟨_, _, _, mw_411⟩, by decide +kernel⟩ X (c_X4_lastSpent l D tys 0 (by decide) he) hP hD hS hA he rfl rfl ⟨hR.1, Nat.le_trans (by decide) hR.2⟩ rfl hsize rfl hW hdg hf (kI kk)
  | 1, he, kk => exact g_virt (n := 0) (As := []) (rest := rest) (ci := 2) (cq := (RX2, TX2, 4)) ⟨hl, mw_401, mw_399, mw_404, mw_399, mw_3, mw_411, ⟨_, _, _, mw_411⟩, by decide +kernel⟩ X (c_X4_lastSpent l D tys 0 (by decide) he) hP hD hS hA he rfl rfl ⟨hR.1, Nat.le_trans (by decide) hR.2⟩ rfl hsize rfl hW hdg hf (kI kk)
  | 2, he, kk => exact g_virt (n := 0) (As := []) (rest := rest) (ci := 6) (cq := (RX6, TX6, 4)) ⟨hl, mw_401, mw_399, mw_407, mw_399, mw_3, mw_411, ⟨_, _, _, mw_411⟩, by decide +kernel⟩ X (c_X4_lastSpent l D tys 0 (by decide) he) hP hD hS hA he rfl rfl ⟨hR.1, Nat.le_trans (by decide) hR.2⟩ rfl hsize rfl hW hdg hf (kI kk)
  | 3, he, kk => exact g_virt (n := 0) (As := []) (rest := rest) (ci := 7) (cq := (RX7, TX7, 5)) ⟨hl, mw_401, mw_399, mw_408, mw_409, mw_6, mw_410, ⟨_, _, _, mw_411⟩, by decide +kernel⟩ X (c_X7_lastSpent l D tys 0 (by decide) he rfl) hP hD hS hA he rfl rfl ⟨hR.1, Nat.le_trans (by decide) hR.2⟩ rfl hsize rfl hW hdg hf (kI kk)
  | 4, he, kk => exact g_virt (n := 0) (As := []) (rest := rest) (ci := 5) (cq := (RX5, TX5, 4)) ⟨hl, mw_401, mw_399, mw_406, mw_399, mw_3, mw_411, ⟨_, _, _, mw_411⟩, by decide +kernel⟩ X (c_X4_lastSpent l D tys 0 (by decide) he) hP hD hS hA he rfl rfl ⟨hR.1, Nat.le_trans (by decide) hR.2⟩ rfl hsize rfl hW hdg hf (kI kk)
  | 5, he, kk => exact g_virt (n := 0) (As := []) (rest := rest) (ci := 0) (cq := (RX0, TX0, 4)) ⟨hl, mw_401, mw_399, mw_402, mw_399, mw_3, mw_411, ⟨_, _, _, mw_411⟩, by decide +kernel⟩ X (c_X4_lastSpent l D tys 0 (by decide) he) hP hD hS hA he rfl rfl ⟨hR.1, Nat.le_trans (by decide) hR.2⟩ rfl hsize rfl hW hdg hf (kI kk)
  | 6, he, kk => exact g_virt (n := 0) (As := []) (rest := rest) (ci := 3) (cq := (RX3, TX3, 5)) ⟨hl, mw_401, mw_399, mw_405, mw_399, mw_3, mw_411, ⟨_, _, _, mw_411⟩, by decide +kernel⟩ X (c_X4_lastSpent l D tys 0 (by decide) he) hP hD hS hA he rfl rfl ⟨hR.1, Nat.le_trans (by decide) hR.2⟩ rfl hsize rfl hW hdg hf (kI kk)
  | n + 7, he, kk => exact g_virt (n := 0) (As := []) (rest := rest) (ci := 1) (cq := (RX1, TX1, 5)) ⟨hl, mw_401, mw_399, mw_403, mw_399, mw_3, mw_411, ⟨_, _, _, mw_411⟩, by decide +kernel⟩ X (c_X4_lastSpent l D tys 0 (by decide) he) hP hD hS hA he rfl rfl ⟨hR.1, Nat.le_trans (by decide) hR.2⟩ rfl hsize rfl hW hdg hf (kI kk)
end DA
