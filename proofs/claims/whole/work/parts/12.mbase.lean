def mWin (v lo hi : Int32) : Int32 := if v < lo then 0 else if hi < v then 0 else 1
abbrev mI (v : Int32) : Nat := v.toNatClampNeg
def mDat (ar : Nat → Nat → Int32) (i : Nat) : Int32 := if ar 0 i = 2 then 1 else if ar 0 i = 3 then 1 else 0
def mHas (ar : Nat → Nat → Int32) (i : Nat) : Int32 := if ar 0 i < 6 then 0 else 1
def mLast (ar : Nat → Nat → Int32) (i : Nat) : Int32 := if ar 0 i = 3 then ar 3 i + 30 else ar 3 i + 90
def mThe (sc : Nat → Int32) (ar : Nat → Nat → Int32) (v : Int32) : Int32 := if mWin v 0 (sc 1 - 1) = 0 then 0 else if ar 6 (mI v) = 0 then 1 else 0
def mN (ar : Nat → Nat → Int32) (i : Nat) : Int32 := if mHas ar i = 0 then ar 2 i / 10 * 10 else ar 2 i / 10 * 10 + ar 4 i
def mV3 (ar : Nat → Nat → Int32) (i : Nat) (t : Int32) : Int32 := if ar 0 i = 7 then (if t - t / 7 * 7 = 0 then 2 * mN ar i else mN ar i) else mN ar i
def mV2 (ar : Nat → Nat → Int32) (i : Nat) (t : Int32) : Int32 := if ar 0 i = 3 then ar 2 i - ar 2 i / 10 else if 4 ≤ ar 0 i then mV3 ar i t else ar 2 i
def mVal (ar : Nat → Nat → Int32) (i : Nat) (t : Int32) : Int32 := if mDat ar i = 0 then mV2 ar i t else if t ≤ mLast ar i then mV2 ar i t else 0
def mFee (ar : Nat → Nat → Int32) (i : Nat) (g : Int32) : Int32 := if ar 0 i = 3 then (g / 50 + 1) / 2 else if ar 0 i = 7 then (if g / 50 + 1 ≤ ar 4 i then 0 else g / 50 + 1 - ar 4 i) else g / 50 + 1
def mS0 (ar : Nat → Nat → Int32) (i : Nat) : Int32 := if mDat ar i = 0 then ar 2 i * 961 + ar 3 i * 31 + ar 1 i else ar 2 i * 961 + ar 3 i * 31 + ar 1 i + mLast ar i
def mSeal (ar : Nat → Nat → Int32) (i : Nat) : Int32 := if ar 0 i = 7 then mS0 ar i + 3 * ar 4 i else mS0 ar i
abbrev mT : Type := Int32 × (Nat → Int32) × (Nat → Nat → Int32)
def mIssue (sc : Nat → Int32) (ar : Nat → Nat → Int32) (k am : Int32) : mT := if mWin k 0 7 = 0 then (-2, sc, ar) else if mWin am 1 100000 = 0 then (-2, sc, ar) else if sc 1 = 40 then (-4, sc, ar) else (sc 1, va_up (va_up sc 1 (sc 1 + 1)) 2 (sc 2 + am), mSet (mSet (mSet (mSet ar 0 (mI (sc 1)) k) 1 (mI (sc 1)) am) 2 (mI (sc 1)) am) 3 (mI (sc 1)) (sc 0))
def mPass (sc : Nat → Int32) (ar : Nat → Nat → Int32) (dd : Int32) : mT := if mWin dd 1 1000 = 0 then (-2, sc, ar) else if sc 0 + dd ≤ 20000 then (sc 0 + dd, va_up sc 0 (sc 0 + dd), ar) else (-4, sc, ar)
def mValue (sc : Nat → Int32) (ar : Nat → Nat → Int32) (v t : Int32) : Int32 := if mThe sc ar v = 0 then -1 else if mWin t 0 20000 = 0 then -2 else mVal ar (mI v) t
def mFeeP (sc : Nat → Int32) (ar : Nat → Nat → Int32) (v g : Int32) : Int32 := if mThe sc ar v = 0 then -1 else if mWin g 1 100000 = 0 then -2 else mFee ar (mI v) g
def mSealP (sc : Nat → Int32) (ar : Nat → Nat → Int32) (v : Int32) : Int32 := if mThe sc ar v = 0 then -1 else mSeal ar (mI v)
def mMark (sc : Nat → Int32) (ar : Nat → Nat → Int32) (v n : Int32) : Int32 := if mThe sc ar v = 0 then -1 else if mWin n 0 999 = 0 then -2 else if ar 0 (mI v) < 5 then -3 else mSeal ar (mI v) * 7 + n
def mDays (sc : Nat → Int32) (ar : Nat → Nat → Int32) (v t : Int32) : Int32 := if mThe sc ar v = 0 then -1 else if mWin t 0 20000 = 0 then -2 else if mDat ar (mI v) = 0 then -3 else if mLast ar (mI v) - t ≤ 0 then 0 else mLast ar (mI v) - t
def mPaper (sc : Nat → Int32) (ar : Nat → Nat → Int32) (v w : Int32) : Int32 := if mThe sc ar v = 0 then -1 else if mWin w 0 5 = 0 then -2 else if w = 0 then ar 0 (mI v) else if w = 1 then ar 1 (mI v) else if w = 2 then ar 2 (mI v) else if w = 3 then ar 3 (mI v) else if w = 4 then ar 4 (mI v) else if mDat ar (mI v) = 0 then -3 else mLast ar (mI v)
def mSpend (sc : Nat → Int32) (ar : Nat → Nat → Int32) (v g : Int32) : mT := if mThe sc ar v = 0 then (-1, sc, ar) else if mWin g 1 100000 = 0 then (-2, sc, ar) else if ar 0 (mI v) = 3 ∧ ar 5 (mI v) = sc 0 + 1 then (-6, sc, ar) else if mVal ar (mI v) (sc 0) < g then (-5, sc, ar) else if g + mFee ar (mI v) g ≤ ar 2 (mI v) then
  (ar 2 (mI v) - (g + mFee ar (mI v) g), va_up (va_up sc 3 (sc 3 + g)) 4 (sc 4 + mFee ar (mI v) g), if mHas ar (mI v) = 0 then mSet (mSet ar 2 (mI v) (ar 2 (mI v) - (g + mFee ar (mI v) g))) 5 (mI v) (sc 0 + 1) else mSet (mSet (mSet ar 2 (mI v) (ar 2 (mI v) - (g + mFee ar (mI v) g))) 5 (mI v) (sc 0 + 1)) 4 (mI v) (ar 4 (mI v) + g / 100)) else (-5, sc, ar)
def mMerge (sc : Nat → Int32) (ar : Nat → Nat → Int32) (v w : Int32) : mT := if mThe sc ar v = 0 then (-1, sc, ar) else if mThe sc ar w = 0 then (-1, sc, ar) else if v = w then (-2, sc, ar) else if ar 0 (mI v) = ar 0 (mI w) then (if ar 1 (mI v) + ar 1 (mI w) ≤ 100000 then
  (ar 1 (mI v) + ar 1 (mI w), sc, mSet (mSet (mSet (mSet (mSet ar 1 (mI v) (ar 1 (mI v) + ar 1 (mI w))) 2 (mI v) (ar 2 (mI v) + ar 2 (mI w))) 4 (mI v) (ar 4 (mI v) + ar 4 (mI w))) 5 (mI v) (if ar 5 (mI w) ≤ ar 5 (mI v) then ar 5 (mI v) else ar 5 (mI w))) 6 (mI w) 1) else (-4, sc, ar)) else (-3, sc, ar)
/-- the sum of f over those below i that are there -/
def mSum (ar : Nat → Nat → Int32) (f : Nat → Int32) : Nat → Int32
  | 0 => 0
  | i + 1 => mSum ar f i + (if ar 6 i = 0 then f i else 0)
def mTotal (sc : Nat → Int32) (ar : Nat → Nat → Int32) (t : Int32) : Int32 := if mWin t 0 20000 = 0 then -2 else mSum ar (fun i => mVal ar i t) (mI (sc 1))
def mLeft (sc : Nat → Int32) (ar : Nat → Nat → Int32) : Int32 := mSum ar (fun i => ar 2 i) (mI (sc 1))
def mCount (sc : Nat → Int32) (ar : Nat → Nat → Int32) (w : Int32) : Int32 := if w = 0 then sc 0 else if w = 1 then sc 1 else if w = 2 then sc 2 else if w = 3 then sc 3 else if w = 4 then sc 4 else if w = 5 then sc 5 else if w = 6 then mLeft sc ar else -2
/-- the reference's lapse below i: the sum, and the rows then -/
def mLapC (ar : Nat → Nat → Int32) (i : Nat) (day : Int32) : Prop := ar 6 i = 0 ∧ ¬ mDat ar i = 0 ∧ mLast ar i < day
def mLap (ar : Nat → Nat → Int32) (day : Int32) : Nat → Int32 × (Nat → Nat → Int32)
  | 0 => (0, ar)
  | i + 1 => if ar 6 i = 0 then (if mDat ar i = 0 then mLap ar day i else if mLast ar i < day then ((mLap ar day i).1 + ar 2 i, mSet (mLap ar day i).2 2 i 0) else mLap ar day i) else mLap ar day i
def mLapse (sc : Nat → Int32) (ar : Nat → Nat → Int32) : mT := ((mLap ar (sc 0) (mI (sc 1))).1, va_up sc 5 (sc 5 + (mLap ar (sc 0) (mI (sc 1))).1), (mLap ar (sc 0) (mI (sc 1))).2)
def pM (cI cZ : ClassId) (h : Nat) (q ad : Nat → Nat) (f : mT) (ws0 : va_W) : Option Value → va_W → Prop := fun v w => v = some (.int f.1) ∧ mo_at cI cZ w h q ad f.2.1 f.2.2 ∧ mo_fr ws0 w
theorem pM_of {cI cZ : ClassId} {h : Nat} {q ad : Nat → Nat} {f : mT} {ws0 w : va_W} {r : Int32} {sc : Nat → Int32} {ar : Nat → Nat → Int32} (hm : mo_at cI cZ w h q ad sc ar) (hfr : mo_fr ws0 w) (hf : f = (r, sc, ar)) : pM cI cZ h q ad f ws0 (some (.int r)) w := by
  subst hf
  exact ⟨rfl, hm, hfr⟩
theorem win_ii {v lo hi : Int32} (h : ¬ mWin v lo hi = 0) : ¬ v < lo ∧ ¬ hi < v := by
  unfold mWin at h
  by_cases h1 : v < lo
  · exact absurd (if_pos h1) h
  · by_cases h2 : hi < v
    · rw [if_neg h1, if_pos h2] at h
      exact absurd rfl h
    · exact ⟨h1, h2⟩
theorem win_no {v lo hi : Int32} (h : mWin v lo hi = 0) : v < lo ∨ hi < v := by
  unfold mWin at h
  by_cases h1 : v < lo
  · exact Or.inl h1
  · by_cases h2 : hi < v
    · exact Or.inr h2
    · rw [if_neg h1, if_neg h2] at h
      exact absurd h (by decide)
theorem win_in {v x : Int32} {n : Nat} (hn : x = nI n) (h40 : n ≤ 40) (h : ¬ mWin v 0 (x - 1) = 0) : ∃ j : Nat, j < n ∧ v = nI j := by
  obtain ⟨h1, h2⟩ := win_ii h
  obtain ⟨j, hj, rfl⟩ := nI_of h1
  subst hn
  rcases Nat.eq_zero_or_pos n with h0 | h0
  · subst h0
    exfalso
    apply h2
    have h3 : nI 0 - 1 < 0 := by decide
    exact Int32.lt_of_lt_of_le h3 (nI_pos' hj)
  · obtain ⟨m, rfl⟩ : ∃ m, n = m + 1 := ⟨n - 1, by omega⟩
    rw [nI_pred] at h2
    refine ⟨j, ?_, rfl⟩
    rcases Nat.lt_or_ge m j with q | q
    · exact absurd (nI_lt q hj) h2
    · omega
theorem the_in {sc : Nat → Int32} {ar : Nat → Nat → Int32} {v : Int32} {n : Nat} (hn : sc 1 = nI n) (h40 : n ≤ 40) (h : ¬ mThe sc ar v = 0) : ∃ j : Nat, j < n ∧ v = nI j ∧ ar 6 j = 0 := by
  unfold mThe at h
  by_cases h1 : mWin v 0 (sc 1 - 1) = 0
  · exact absurd (if_pos h1) h
  · obtain ⟨j, hj, rfl⟩ := win_in hn h40 h1
    refine ⟨j, hj, rfl, ?_⟩
    rw [if_neg h1, show mI (nI j) = j from nI_clamp (by omega)] at h
    by_cases h2 : ar 6 j = 0
    · exact h2
    · exact absurd (if_neg h2) h
theorem the_vp {sc : Nat → Int32} {ar : Nat → Nat → Int32} {v : Int32} {n : Nat} (hn : sc 1 = nI n) (h40 : n ≤ 40) (h : ¬ mThe sc ar v = 0) : vp_in v 40 := by
  obtain ⟨j, hj, rfl, -⟩ := the_in hn h40 h
  exact vp_in_nI (by omega) (by decide)
theorem win_vp {v x : Int32} {n : Nat} (hn : x = nI n) (h40 : n ≤ 40) (h : ¬ mWin v 0 (x - 1) = 0) : vp_in v 40 := by
  obtain ⟨j, hj, rfl⟩ := win_in hn h40 h
  exact vp_in_nI (by omega) (by decide)
theorem sw_X9_36 : SW RX9 36 yX9_within cX9_within 3 (some .boolean) 3 := ⟨mw_495, mw_496, mw_2, mw_497, by decide +kernel⟩
theorem pw_X9_40 : PW RX9 40 "VoucherOfficeModel" yX9_isDated cX9_isDated 2 (some .boolean) 1 := ⟨mw_515, mw_517, mp_4, mw_2, mw_518, by decide +kernel⟩
theorem pw_X9_48 : PW RX9 48 "VoucherOfficeModel" yX9_hasPoints cX9_hasPoints 2 (some .boolean) 1 := ⟨mw_523, mw_525, mp_6, mw_2, mw_526, by decide +kernel⟩
theorem pw_X9_44 : PW RX9 44 "VoucherOfficeModel" yX9_lastDay cX9_lastDay 2 (some .int) 1 := ⟨mw_519, mw_521, mp_5, mw_2, mw_522, by decide +kernel⟩
theorem pw_X9_58 : PW RX9 58 "VoucherOfficeModel" yX9_isThere cX9_isThere 2 (some .boolean) 1 := ⟨mw_507, mw_509, mp_2, mw_2, mw_510, by decide +kernel⟩
theorem pw_X9_61 : PW RX9 61 "VoucherOfficeModel" yX9_valueOf cX9_valueOf 4 (some .int) 2 := ⟨mw_511, mw_513, mp_3, mw_2, mw_514, by decide +kernel⟩
theorem pw_X9_65 : PW RX9 65 "VoucherOfficeModel" yX9_feeOf cX9_feeOf 4 (some .int) 2 := ⟨mw_531, mw_533, mp_7, mw_2, mw_534, by decide +kernel⟩
theorem pw_X9_74 : PW RX9 74 "VoucherOfficeModel" yX9_sealOf cX9_sealOf 3 (some .int) 1 := ⟨mw_543, mw_545, mp_8, mw_2, mw_546, by decide +kernel⟩
theorem pw_X9_80 : PW RX9 80 "VoucherOfficeModel" yX9_leftOfAll cX9_leftOfAll 3 (some .int) 0 := ⟨mw_575, mw_577, mp_9, mw_2, mw_578, by decide +kernel⟩
set_option maxHeartbeats 4000000 in
set_option maxRecDepth 100000 in
theorem c_X9_within (l : Launch) (D : va_G) (tys : List (ClassId × FieldType)) (d : Nat) (hd : 0 ≤ d) (ws : va_W) (v lo hi : Int32) : Ct l D tys yX9_within cX9_within 3 (some .boolean) d 0 0 [.int v, .int lo, .int hi] ws (pI ws (mWin v lo hi)) := by
  refine ct_intro (by decide) (Nat.le_of_ble_eq_true rfl) ?_
  intro p e s m below meth c A L X hin hP hD hS hA hl
  have hl : lv_has L 3 [(0, .int v), (1, .int lo), (2, .int hi)] := hl
  obtain ⟨hx, hb, hr, hml, hown, hts, hK, hlk, hxK⟩ := id X
  refine lv_iload_n hx hb dX9_within_0 rfl (lv_at hl 0 rfl) ?_
  refine lv_iload_n hx hb dX9_within_1 rfl (lv_at hl 1 rfl) ?_
  refine lv_icmp_lt (tgt := 14) hx hb dX9_within_2 (by decide) (fun c_2 => ?_) (fun c_2 => ?_)
  · -- c_2 True
    refine lv_iconst (v := 0) hx hb dX9_within_14 (by decide) ?_
    exact e_bool X hP hD hS dX9_within_15 (by first | exact Or.inl rfl | exact Or.inr rfl) ⟨by first | rfl | simp only [mWin, if_pos c_2] | (simp only [mWin, if_pos c_2]; rfl), rfl⟩
  · -- c_2 False
    refine lv_iload_n hx hb dX9_within_5 rfl (lv_at hl 0 rfl) ?_
    refine lv_iload_n hx hb dX9_within_6 rfl (lv_at hl 2 rfl) ?_
    refine lv_icmp_gt (tgt := 14) hx hb dX9_within_7 (by decide) (fun c_7 => ?_) (fun c_7 => ?_)
    · -- c_7 True
      refine lv_iconst (v := 0) hx hb dX9_within_14 (by decide) ?_
      exact e_bool X hP hD hS dX9_within_15 (by first | exact Or.inl rfl | exact Or.inr rfl) ⟨by first | rfl | simp only [mWin, if_neg c_2, if_pos c_7] | (simp only [mWin, if_neg c_2, if_pos c_7]; rfl), rfl⟩
    · -- c_7 False
      refine lv_iconst (v := 1) hx hb dX9_within_10 (by decide) ?_
      refine lv_goto (tgt := 15) hx hb dX9_within_11 (by decide) ?_
      exact e_bool X hP hD hS dX9_within_15 (by first | exact Or.inl rfl | exact Or.inr rfl) ⟨by first | rfl | simp only [mWin, if_neg c_2, if_neg c_7] | (simp only [mWin, if_neg c_2, if_neg c_7]; rfl), rfl⟩
set_option maxHeartbeats 4000000 in
set_option maxRecDepth 100000 in
theorem c_X9_isThere (l : Launch) (D : va_G) (cI cZ cP : ClassId) (d : Nat) (hd : 1 ≤ d) {ws : va_W} {h : Nat} {q ad : Nat → Nat} {sc : Nat → Int32} {ar : Nat → Nat → Int32} (hm : mo_at cI cZ ws h q ad sc ar) {n : Nat} (hn : sc 1 = nI n) (h40 : n ≤ 40) (v : Int32) : Ct l D (vTy cI cZ cP) yX9_isThere cX9_isThere 2 (some .boolean) d 0 0 [.ref h, .int v] ws (pI ws (mThe sc ar v)) := by
  refine ct_intro (by decide) (Nat.le_of_ble_eq_true rfl) ?_
  intro p e s m below meth c A L X hin hP hD hS hA hl
  have hl : lv_has L 2 [(0, .ref h), (1, .int v)] := hl
  obtain ⟨hx, hb, hr, hml, hown, hts, hK, hlk, hxK⟩ := id X
  have hfr := mo_fr_rf ws
  refine lv_iload_n hx hb dX9_isThere_0 rfl (lv_at hl 1 rfl) ?_
  refine lv_iconst (v := 0) hx hb dX9_isThere_1 (by decide) ?_
  refine lv_aload_n hx hb dX9_isThere_2 rfl (lv_at hl 0 rfl) ?_
  refine mo_g1 X hP hm mw_450 dX9_isThere_3 ?_
  refine lv_iconst (v := 1) hx hb dX9_isThere_6 (by decide) ?_
  refine lv_isub hx hb dX9_isThere_7 ?_
  refine g_static (As := [.int v, .int 0, .int ((sc 1) - 1)]) (rest := []) sw_X9_36 X (c_X9_within l D (vTy cI cZ cP) 0 (by decide) ws v 0 (((sc 1) - 1))) hP hD hS hA ⟨by show _ ≤ d; omega, by show _ ≤ 30 * d; omega⟩ rfl hl.1 rfl (Nat.le_of_ble_eq_true rfl) dX9_isThere_8 ⟨Nat.le_refl _, Nat.le_refl _⟩ (kI fun H locs hP hD hS => ?_)
  refine W.eq (g2 := F0 m 11 L [.int (mWin v 0 ((sc 1) - 1))]) rfl ?_
  refine lv_if_eq (tgt := 27) hx hb dX9_isThere_11 (by decide) (fun c_11 => ?_) (fun c_11 => ?_)
  · -- c_11 True
    refine lv_iconst (v := 0) hx hb dX9_isThere_27 (by decide) ?_
    exact e_bool X hP hD hS dX9_isThere_28 (by first | exact Or.inl rfl | exact Or.inr rfl) ⟨by first | rfl | simp only [mThe, if_pos c_11] | (simp only [mThe, if_pos c_11]; rfl), rfl⟩
  · -- c_11 False
    have hv := win_vp hn h40 c_11
    refine lv_aload_n hx hb dX9_isThere_14 rfl (lv_at hl 0 rfl) ?_
    refine mo_r6 X hP hm mw_461 dX9_isThere_15 ?_
    refine lv_iload_n hx hb dX9_isThere_18 rfl (lv_at hl 1 rfl) ?_
    refine mo_a6 X hP hm hv dX9_isThere_19 ?_
    refine lv_if_ne (tgt := 27) hx hb dX9_isThere_20 (by decide) (fun c_20 => ?_) (fun c_20 => ?_)
    · -- c_20 True
      refine lv_iconst (v := 0) hx hb dX9_isThere_27 (by decide) ?_
      exact e_bool X hP hD hS dX9_isThere_28 (by first | exact Or.inl rfl | exact Or.inr rfl) ⟨by first | rfl | simp only [mThe, if_neg c_11, if_neg c_20] | (simp only [mThe, if_neg c_11, if_neg c_20]; rfl), rfl⟩
    · -- c_20 False
      refine lv_iconst (v := 1) hx hb dX9_isThere_23 (by decide) ?_
      refine lv_goto (tgt := 28) hx hb dX9_isThere_24 (by decide) ?_
      exact e_bool X hP hD hS dX9_isThere_28 (by first | exact Or.inl rfl | exact Or.inr rfl) ⟨by first | rfl | simp only [mThe, if_neg c_11, if_pos c_20] | (simp only [mThe, if_neg c_11, if_pos c_20]; rfl), rfl⟩
set_option maxHeartbeats 4000000 in
set_option maxRecDepth 100000 in
theorem c_X9_isDated (l : Launch) (D : va_G) (cI cZ cP : ClassId) (d : Nat) (hd : 0 ≤ d) {ws : va_W} {h : Nat} {q ad : Nat → Nat} {sc : Nat → Int32} {ar : Nat → Nat → Int32} (hm : mo_at cI cZ ws h q ad sc ar) {v : Int32} (hv : vp_in v 40) : Ct l D (vTy cI cZ cP) yX9_isDated cX9_isDated 2 (some .boolean) d 0 0 [.ref h, .int v] ws (pI ws (mDat ar (mI v))) := by
  refine ct_intro (by decide) (Nat.le_of_ble_eq_true rfl) ?_
  intro p e s m below meth c A L X hin hP hD hS hA hl
  have hl : lv_has L 2 [(0, .ref h), (1, .int v)] := hl
  obtain ⟨hx, hb, hr, hml, hown, hts, hK, hlk, hxK⟩ := id X
  have hfr := mo_fr_rf ws
  refine lv_aload_n hx hb dX9_isDated_0 rfl (lv_at hl 0 rfl) ?_
  refine mo_r0 X hP hm mw_455 dX9_isDated_1 ?_
  refine lv_iload_n hx hb dX9_isDated_4 rfl (lv_at hl 1 rfl) ?_
  refine mo_a0 X hP hm hv dX9_isDated_5 ?_
  refine lv_iconst (v := 2) hx hb dX9_isDated_6 (by decide) ?_
  refine lv_icmp_eq (tgt := 20) hx hb dX9_isDated_7 (by decide) (fun c_7 => ?_) (fun c_7 => ?_)
  · -- c_7 True
    refine lv_iconst (v := 1) hx hb dX9_isDated_20 (by decide) ?_
    refine lv_goto (tgt := 25) hx hb dX9_isDated_21 (by decide) ?_
    exact e_bool X hP hD hS dX9_isDated_25 (by first | exact Or.inl rfl | exact Or.inr rfl) ⟨by first | rfl | simp only [mDat, if_pos c_7] | (simp only [mDat, if_pos c_7]; rfl), rfl⟩
  · -- c_7 False
    refine lv_aload_n hx hb dX9_isDated_10 rfl (lv_at hl 0 rfl) ?_
    refine mo_r0 X hP hm mw_455 dX9_isDated_11 ?_
    refine lv_iload_n hx hb dX9_isDated_14 rfl (lv_at hl 1 rfl) ?_
    refine mo_a0 X hP hm hv dX9_isDated_15 ?_
    refine lv_iconst (v := 3) hx hb dX9_isDated_16 (by decide) ?_
    refine lv_icmp_ne (tgt := 24) hx hb dX9_isDated_17 (by decide) (fun c_17 => ?_) (fun c_17 => ?_)
    · -- c_17 True
      refine lv_iconst (v := 0) hx hb dX9_isDated_24 (by decide) ?_
      exact e_bool X hP hD hS dX9_isDated_25 (by first | exact Or.inl rfl | exact Or.inr rfl) ⟨by first | rfl | simp only [mDat, if_neg c_7, if_neg c_17] | (simp only [mDat, if_neg c_7, if_neg c_17]; rfl), rfl⟩
    · -- c_17 False
      refine lv_iconst (v := 1) hx hb dX9_isDated_20 (by decide) ?_
      refine lv_goto (tgt := 25) hx hb dX9_isDated_21 (by decide) ?_
      exact e_bool X hP hD hS dX9_isDated_25 (by first | exact Or.inl rfl | exact Or.inr rfl) ⟨by first | rfl | simp only [mDat, if_neg c_7, if_pos c_17] | (simp only [mDat, if_neg c_7, if_pos c_17]; rfl), rfl⟩
set_option maxHeartbeats 4000000 in
set_option maxRecDepth 100000 in
theorem c_X9_hasPoints (l : Launch) (D : va_G) (cI cZ cP : ClassId) (d : Nat) (hd : 0 ≤ d) {ws : va_W} {h : Nat} {q ad : Nat → Nat} {sc : Nat → Int32} {ar : Nat → Nat → Int32} (hm : mo_at cI cZ ws h q ad sc ar) {v : Int32} (hv : vp_in v 40) : Ct l D (vTy cI cZ cP) yX9_hasPoints cX9_hasPoints 2 (some .boolean) d 0 0 [.ref h, .int v] ws (pI ws (mHas ar (mI v))) := by
  refine ct_intro (by decide) (Nat.le_of_ble_eq_true rfl) ?_
  intro p e s m below meth c A L X hin hP hD hS hA hl
  have hl : lv_has L 2 [(0, .ref h), (1, .int v)] := hl
  obtain ⟨hx, hb, hr, hml, hown, hts, hK, hlk, hxK⟩ := id X
  have hfr := mo_fr_rf ws
  refine lv_aload_n hx hb dX9_hasPoints_0 rfl (lv_at hl 0 rfl) ?_
  refine mo_r0 X hP hm mw_455 dX9_hasPoints_1 ?_
  refine lv_iload_n hx hb dX9_hasPoints_4 rfl (lv_at hl 1 rfl) ?_
  refine mo_a0 X hP hm hv dX9_hasPoints_5 ?_
  refine lv_bipush (v := 6) hx hb dX9_hasPoints_6 (by decide) ?_
  refine lv_icmp_lt (tgt := 15) hx hb dX9_hasPoints_8 (by decide) (fun c_8 => ?_) (fun c_8 => ?_)
  · -- c_8 True
    refine lv_iconst (v := 0) hx hb dX9_hasPoints_15 (by decide) ?_
    exact e_bool X hP hD hS dX9_hasPoints_16 (by first | exact Or.inl rfl | exact Or.inr rfl) ⟨by first | rfl | simp only [mHas, if_pos c_8] | (simp only [mHas, if_pos c_8]; rfl), rfl⟩
  · -- c_8 False
    refine lv_iconst (v := 1) hx hb dX9_hasPoints_11 (by decide) ?_
    refine lv_goto (tgt := 16) hx hb dX9_hasPoints_12 (by decide) ?_
    exact e_bool X hP hD hS dX9_hasPoints_16 (by first | exact Or.inl rfl | exact Or.inr rfl) ⟨by first | rfl | simp only [mHas, if_neg c_8] | (simp only [mHas, if_neg c_8]; rfl), rfl⟩
set_option maxHeartbeats 4000000 in
set_option maxRecDepth 100000 in
theorem c_X9_lastDay (l : Launch) (D : va_G) (cI cZ cP : ClassId) (d : Nat) (hd : 0 ≤ d) {ws : va_W} {h : Nat} {q ad : Nat → Nat} {sc : Nat → Int32} {ar : Nat → Nat → Int32} (hm : mo_at cI cZ ws h q ad sc ar) {v : Int32} (hv : vp_in v 40) : Ct l D (vTy cI cZ cP) yX9_lastDay cX9_lastDay 2 (some .int) d 0 0 [.ref h, .int v] ws (pI ws (mLast ar (mI v))) := by
  refine ct_intro (by decide) (Nat.le_of_ble_eq_true rfl) ?_
  intro p e s m below meth c A L X hin hP hD hS hA hl
  have hl : lv_has L 2 [(0, .ref h), (1, .int v)] := hl
  obtain ⟨hx, hb, hr, hml, hown, hts, hK, hlk, hxK⟩ := id X
  have hfr := mo_fr_rf ws
  refine lv_aload_n hx hb dX9_lastDay_0 rfl (lv_at hl 0 rfl) ?_
  refine mo_r3 X hP hm mw_458 dX9_lastDay_1 ?_
  refine lv_iload_n hx hb dX9_lastDay_4 rfl (lv_at hl 1 rfl) ?_
  refine mo_a3 X hP hm hv dX9_lastDay_5 ?_
  refine lv_aload_n hx hb dX9_lastDay_6 rfl (lv_at hl 0 rfl) ?_
  refine mo_r0 X hP hm mw_455 dX9_lastDay_7 ?_
  refine lv_iload_n hx hb dX9_lastDay_10 rfl (lv_at hl 1 rfl) ?_
  refine mo_a0 X hP hm hv dX9_lastDay_11 ?_
  refine lv_iconst (v := 3) hx hb dX9_lastDay_12 (by decide) ?_
  refine lv_icmp_ne (tgt := 21) hx hb dX9_lastDay_13 (by decide) (fun c_13 => ?_) (fun c_13 => ?_)
  · -- c_13 True
    refine lv_bipush (v := 90) hx hb dX9_lastDay_21 (by decide) ?_
    refine lv_iadd hx hb dX9_lastDay_23 ?_
    exact e_int X hP hD hS dX9_lastDay_24 ⟨by first | rfl | simp only [mLast, if_neg c_13] | (simp only [mLast, if_neg c_13]; rfl), rfl⟩
  · -- c_13 False
    refine lv_bipush (v := 30) hx hb dX9_lastDay_16 (by decide) ?_
    refine lv_goto (tgt := 23) hx hb dX9_lastDay_18 (by decide) ?_
    refine lv_iadd hx hb dX9_lastDay_23 ?_
    exact e_int X hP hD hS dX9_lastDay_24 ⟨by first | rfl | simp only [mLast, if_pos c_13] | (simp only [mLast, if_pos c_13]; rfl), rfl⟩
set_option maxHeartbeats 4000000 in
set_option maxRecDepth 100000 in
theorem c_X9_valueOf (l : Launch) (D : va_G) (cI cZ cP : ClassId) (d : Nat) (hd : 1 ≤ d) {ws : va_W} {h : Nat} {q ad : Nat → Nat} {sc : Nat → Int32} {ar : Nat → Nat → Int32} (hm : mo_at cI cZ ws h q ad sc ar) {v : Int32} (hv : vp_in v 40) (t : Int32) : Ct l D (vTy cI cZ cP) yX9_valueOf cX9_valueOf 4 (some .int) d 0 0 [.ref h, .int v, .int t] ws (pI ws (mVal ar (mI v) t)) := by
  refine ct_intro (by decide) (Nat.le_of_ble_eq_true rfl) ?_
  intro p e s m below meth c A L X hin hP hD hS hA hl
  have hl : lv_has L 4 [(0, .ref h), (1, .int v), (2, .int t)] := hl
  obtain ⟨hx, hb, hr, hml, hown, hts, hK, hlk, hxK⟩ := id X
  have hfr := mo_fr_rf ws
  refine lv_aload_n hx hb dX9_valueOf_0 rfl (lv_at hl 0 rfl) ?_
  refine lv_iload_n hx hb dX9_valueOf_1 rfl (lv_at hl 1 rfl) ?_
  refine g_priv (ci := 9) (cq := (RX9, TX9, 13)) (As := [.int v]) (rest := []) pw_X9_40 X (c_X9_isDated l D cI cZ cP 0 (by decide) hm hv ) hP hD hS hA hm.1 rfl rfl ⟨by show _ ≤ d; omega, by show _ ≤ 30 * d; omega⟩ rfl hl.1 rfl (Nat.le_of_ble_eq_true rfl) dX9_valueOf_2 ⟨Nat.le_refl _, Nat.le_refl _⟩ (kI fun H locs hP hD hS => ?_)
  refine W.eq (g2 := F0 m 5 L [.int (mDat ar (mI v))]) rfl ?_
  refine lv_if_eq (tgt := 19) hx hb dX9_valueOf_5 (by decide) (fun c_5 => ?_) (fun c_5 => ?_)
  · -- c_5 True
    refine lv_aload_n hx hb dX9_valueOf_19 rfl (lv_at hl 0 rfl) ?_
    refine mo_r2 X hP hm mw_457 dX9_valueOf_20 ?_
    refine lv_iload_n hx hb dX9_valueOf_23 rfl (lv_at hl 1 rfl) ?_
    refine mo_a2 X hP hm hv dX9_valueOf_24 ?_
    refine lv_istore_n (lv' := [(3, .int (ar 2 (mI v))), (0, .ref h), (1, .int v), (2, .int t)]) hx hb dX9_valueOf_25 rfl hl (by decide) rfl (fun L hl => ?_)
    refine lv_aload_n hx hb dX9_valueOf_26 rfl (lv_at hl 1 rfl) ?_
    refine mo_r0 X hP hm mw_455 dX9_valueOf_27 ?_
    refine lv_iload_n hx hb dX9_valueOf_30 rfl (lv_at hl 2 rfl) ?_
    refine mo_a0 X hP hm hv dX9_valueOf_31 ?_
    refine lv_iconst (v := 3) hx hb dX9_valueOf_32 (by decide) ?_
    refine lv_icmp_ne (tgt := 43) hx hb dX9_valueOf_33 (by decide) (fun c_33 => ?_) (fun c_33 => ?_)
    · -- c_33 True
      refine lv_aload_n hx hb dX9_valueOf_43 rfl (lv_at hl 1 rfl) ?_
      refine mo_r0 X hP hm mw_455 dX9_valueOf_44 ?_
      refine lv_iload_n hx hb dX9_valueOf_47 rfl (lv_at hl 2 rfl) ?_
      refine mo_a0 X hP hm hv dX9_valueOf_48 ?_
      refine lv_iconst (v := 4) hx hb dX9_valueOf_49 (by decide) ?_
      refine lv_icmp_ge (tgt := 55) hx hb dX9_valueOf_50 (by decide) (fun c_50 => ?_) (fun c_50 => ?_)
      · -- c_50 True
        refine lv_iload_n hx hb dX9_valueOf_55 rfl (lv_at hl 0 rfl) ?_
        refine lv_bipush (v := 10) hx hb dX9_valueOf_56 (by decide) ?_
        refine lv_idiv hx hb dX9_valueOf_58 (by decide) ?_
        refine lv_bipush (v := 10) hx hb dX9_valueOf_59 (by decide) ?_
        refine lv_imul hx hb dX9_valueOf_61 ?_
        refine lv_istore_n (lv' := [(3, .int (((ar 2 (mI v)) / 10) * 10)), (0, .ref h), (1, .int v), (2, .int t)]) hx hb dX9_valueOf_62 rfl hl (by decide) rfl (fun L hl => ?_)
        refine lv_aload_n hx hb dX9_valueOf_63 rfl (lv_at hl 1 rfl) ?_
        refine lv_iload_n hx hb dX9_valueOf_64 rfl (lv_at hl 2 rfl) ?_
        refine g_priv (ci := 9) (cq := (RX9, TX9, 13)) (As := [.int v]) (rest := []) pw_X9_48 X (c_X9_hasPoints l D cI cZ cP 0 (by decide) hm hv ) hP hD hS hA hm.1 rfl rfl ⟨by show _ ≤ d; omega, by show _ ≤ 30 * d; omega⟩ rfl hl.1 rfl (Nat.le_of_ble_eq_true rfl) dX9_valueOf_65 ⟨Nat.le_refl _, Nat.le_refl _⟩ (kI fun H locs hP hD hS => ?_)
        refine W.eq (g2 := F0 m 68 L [.int (mHas ar (mI v))]) rfl ?_
        refine lv_if_eq (tgt := 80) hx hb dX9_valueOf_68 (by decide) (fun c_68 => ?_) (fun c_68 => ?_)
        · -- c_68 True
          refine lv_aload_n hx hb dX9_valueOf_80 rfl (lv_at hl 1 rfl) ?_
          refine mo_r0 X hP hm mw_455 dX9_valueOf_81 ?_
          refine lv_iload_n hx hb dX9_valueOf_84 rfl (lv_at hl 2 rfl) ?_
          refine mo_a0 X hP hm hv dX9_valueOf_85 ?_
          refine lv_bipush (v := 7) hx hb dX9_valueOf_86 (by decide) ?_
          refine lv_icmp_ne (tgt := 104) hx hb dX9_valueOf_88 (by decide) (fun c_88 => ?_) (fun c_88 => ?_)
          · -- c_88 True
            refine lv_iload_n hx hb dX9_valueOf_104 rfl (lv_at hl 0 rfl) ?_
            exact e_int X hP hD hS dX9_valueOf_105 ⟨by first | rfl | simp only [mVal, mV2, mV3, mN, if_pos c_5, if_neg c_33, if_pos c_50, if_pos c_68, if_neg c_88] | (simp only [mVal, mV2, mV3, mN, if_pos c_5, if_neg c_33, if_pos c_50, if_pos c_68, if_neg c_88]; rfl), rfl⟩
          · -- c_88 False
            refine lv_iload_n hx hb dX9_valueOf_91 rfl (lv_at hl 3 rfl) ?_
            refine lv_bipush (v := 7) hx hb dX9_valueOf_92 (by decide) ?_
            refine lv_irem hx hb dX9_valueOf_94 (by decide) ?_
            refine lv_if_ne (tgt := 104) hx hb dX9_valueOf_95 (by decide) (fun c_95 => ?_) (fun c_95 => ?_)
            · -- c_95 True
              refine lv_iload_n hx hb dX9_valueOf_104 rfl (lv_at hl 0 rfl) ?_
              exact e_int X hP hD hS dX9_valueOf_105 ⟨by first | rfl | simp only [mVal, mV2, mV3, mN, if_pos c_5, if_neg c_33, if_pos c_50, if_pos c_68, if_pos c_88, if_neg c_95] | (simp only [mVal, mV2, mV3, mN, if_pos c_5, if_neg c_33, if_pos c_50, if_pos c_68, if_pos c_88, if_neg c_95]; rfl), rfl⟩
            · -- c_95 False
              refine lv_iconst (v := 2) hx hb dX9_valueOf_98 (by decide) ?_
              refine lv_iload_n hx hb dX9_valueOf_99 rfl (lv_at hl 0 rfl) ?_
              refine lv_imul hx hb dX9_valueOf_100 ?_
              refine lv_goto (tgt := 105) hx hb dX9_valueOf_101 (by decide) ?_
              exact e_int X hP hD hS dX9_valueOf_105 ⟨by first | rfl | simp only [mVal, mV2, mV3, mN, if_pos c_5, if_neg c_33, if_pos c_50, if_pos c_68, if_pos c_88, if_pos c_95] | (simp only [mVal, mV2, mV3, mN, if_pos c_5, if_neg c_33, if_pos c_50, if_pos c_68, if_pos c_88, if_pos c_95]; rfl), rfl⟩
        · -- c_68 False
          refine lv_iload_n hx hb dX9_valueOf_71 rfl (lv_at hl 0 rfl) ?_
          refine lv_aload_n hx hb dX9_valueOf_72 rfl (lv_at hl 1 rfl) ?_
          refine mo_r4 X hP hm mw_459 dX9_valueOf_73 ?_
          refine lv_iload_n hx hb dX9_valueOf_76 rfl (lv_at hl 2 rfl) ?_
          refine mo_a4 X hP hm hv dX9_valueOf_77 ?_
          refine lv_iadd hx hb dX9_valueOf_78 ?_
          refine lv_istore_n (lv' := [(3, .int ((((ar 2 (mI v)) / 10) * 10) + (ar 4 (mI v)))), (0, .ref h), (1, .int v), (2, .int t)]) hx hb dX9_valueOf_79 rfl hl (by decide) rfl (fun L hl => ?_)
          refine lv_aload_n hx hb dX9_valueOf_80 rfl (lv_at hl 1 rfl) ?_
          refine mo_r0 X hP hm mw_455 dX9_valueOf_81 ?_
          refine lv_iload_n hx hb dX9_valueOf_84 rfl (lv_at hl 2 rfl) ?_
          refine mo_a0 X hP hm hv dX9_valueOf_85 ?_
          refine lv_bipush (v := 7) hx hb dX9_valueOf_86 (by decide) ?_
          refine lv_icmp_ne (tgt := 104) hx hb dX9_valueOf_88 (by decide) (fun c_88 => ?_) (fun c_88 => ?_)
          · -- c_88 True
            refine lv_iload_n hx hb dX9_valueOf_104 rfl (lv_at hl 0 rfl) ?_
            exact e_int X hP hD hS dX9_valueOf_105 ⟨by first | rfl | simp only [mVal, mV2, mV3, mN, if_pos c_5, if_neg c_33, if_pos c_50, if_neg c_68, if_neg c_88] | (simp only [mVal, mV2, mV3, mN, if_pos c_5, if_neg c_33, if_pos c_50, if_neg c_68, if_neg c_88]; rfl), rfl⟩
          · -- c_88 False
            refine lv_iload_n hx hb dX9_valueOf_91 rfl (lv_at hl 3 rfl) ?_
            refine lv_bipush (v := 7) hx hb dX9_valueOf_92 (by decide) ?_
            refine lv_irem hx hb dX9_valueOf_94 (by decide) ?_
            refine lv_if_ne (tgt := 104) hx hb dX9_valueOf_95 (by decide) (fun c_95 => ?_) (fun c_95 => ?_)
            · -- c_95 True
              refine lv_iload_n hx hb dX9_valueOf_104 rfl (lv_at hl 0 rfl) ?_
              exact e_int X hP hD hS dX9_valueOf_105 ⟨by first | rfl | simp only [mVal, mV2, mV3, mN, if_pos c_5, if_neg c_33, if_pos c_50, if_neg c_68, if_pos c_88, if_neg c_95] | (simp only [mVal, mV2, mV3, mN, if_pos c_5, if_neg c_33, if_pos c_50, if_neg c_68, if_pos c_88, if_neg c_95]; rfl), rfl⟩
            · -- c_95 False
              refine lv_iconst (v := 2) hx hb dX9_valueOf_98 (by decide) ?_
              refine lv_iload_n hx hb dX9_valueOf_99 rfl (lv_at hl 0 rfl) ?_
              refine lv_imul hx hb dX9_valueOf_100 ?_
              refine lv_goto (tgt := 105) hx hb dX9_valueOf_101 (by decide) ?_
              exact e_int X hP hD hS dX9_valueOf_105 ⟨by first | rfl | simp only [mVal, mV2, mV3, mN, if_pos c_5, if_neg c_33, if_pos c_50, if_neg c_68, if_pos c_88, if_pos c_95] | (simp only [mVal, mV2, mV3, mN, if_pos c_5, if_neg c_33, if_pos c_50, if_neg c_68, if_pos c_88, if_pos c_95]; rfl), rfl⟩
      · -- c_50 False
        refine lv_iload_n hx hb dX9_valueOf_53 rfl (lv_at hl 0 rfl) ?_
        exact e_int X hP hD hS dX9_valueOf_54 ⟨by first | rfl | simp only [mVal, mV2, mV3, mN, if_pos c_5, if_neg c_33, if_neg c_50] | (simp only [mVal, mV2, mV3, mN, if_pos c_5, if_neg c_33, if_neg c_50]; rfl), rfl⟩
    · -- c_33 False
      refine lv_iload_n hx hb dX9_valueOf_36 rfl (lv_at hl 0 rfl) ?_
      refine lv_iload_n hx hb dX9_valueOf_37 rfl (lv_at hl 0 rfl) ?_
      refine lv_bipush (v := 10) hx hb dX9_valueOf_38 (by decide) ?_
      refine lv_idiv hx hb dX9_valueOf_40 (by decide) ?_
      refine lv_isub hx hb dX9_valueOf_41 ?_
      exact e_int X hP hD hS dX9_valueOf_42 ⟨by first | rfl | simp only [mVal, mV2, mV3, mN, if_pos c_5, if_pos c_33] | (simp only [mVal, mV2, mV3, mN, if_pos c_5, if_pos c_33]; rfl), rfl⟩
  · -- c_5 False
    refine lv_iload_n hx hb dX9_valueOf_8 rfl (lv_at hl 2 rfl) ?_
    refine lv_aload_n hx hb dX9_valueOf_9 rfl (lv_at hl 0 rfl) ?_
    refine lv_iload_n hx hb dX9_valueOf_10 rfl (lv_at hl 1 rfl) ?_
    refine g_priv (ci := 9) (cq := (RX9, TX9, 13)) (As := [.int v]) (rest := [.int t]) pw_X9_44 X (c_X9_lastDay l D cI cZ cP 0 (by decide) hm hv ) hP hD hS hA hm.1 rfl rfl ⟨by show _ ≤ d; omega, by show _ ≤ 30 * d; omega⟩ rfl hl.1 rfl (Nat.le_of_ble_eq_true rfl) dX9_valueOf_11 ⟨Nat.le_refl _, Nat.le_refl _⟩ (kI fun H locs hP hD hS => ?_)
    refine W.eq (g2 := F0 m 14 L [.int (mLast ar (mI v)), .int t]) rfl ?_
    refine lv_icmp_le (tgt := 19) hx hb dX9_valueOf_14 (by decide) (fun c_14 => ?_) (fun c_14 => ?_)
    · -- c_14 True
      refine lv_aload_n hx hb dX9_valueOf_19 rfl (lv_at hl 0 rfl) ?_
      refine mo_r2 X hP hm mw_457 dX9_valueOf_20 ?_
      refine lv_iload_n hx hb dX9_valueOf_23 rfl (lv_at hl 1 rfl) ?_
      refine mo_a2 X hP hm hv dX9_valueOf_24 ?_
      refine lv_istore_n (lv' := [(3, .int (ar 2 (mI v))), (0, .ref h), (1, .int v), (2, .int t)]) hx hb dX9_valueOf_25 rfl hl (by decide) rfl (fun L hl => ?_)
      refine lv_aload_n hx hb dX9_valueOf_26 rfl (lv_at hl 1 rfl) ?_
      refine mo_r0 X hP hm mw_455 dX9_valueOf_27 ?_
      refine lv_iload_n hx hb dX9_valueOf_30 rfl (lv_at hl 2 rfl) ?_
      refine mo_a0 X hP hm hv dX9_valueOf_31 ?_
      refine lv_iconst (v := 3) hx hb dX9_valueOf_32 (by decide) ?_
      refine lv_icmp_ne (tgt := 43) hx hb dX9_valueOf_33 (by decide) (fun c_33 => ?_) (fun c_33 => ?_)
      · -- c_33 True
        refine lv_aload_n hx hb dX9_valueOf_43 rfl (lv_at hl 1 rfl) ?_
        refine mo_r0 X hP hm mw_455 dX9_valueOf_44 ?_
        refine lv_iload_n hx hb dX9_valueOf_47 rfl (lv_at hl 2 rfl) ?_
        refine mo_a0 X hP hm hv dX9_valueOf_48 ?_
        refine lv_iconst (v := 4) hx hb dX9_valueOf_49 (by decide) ?_
        refine lv_icmp_ge (tgt := 55) hx hb dX9_valueOf_50 (by decide) (fun c_50 => ?_) (fun c_50 => ?_)
        · -- c_50 True
          refine lv_iload_n hx hb dX9_valueOf_55 rfl (lv_at hl 0 rfl) ?_
          refine lv_bipush (v := 10) hx hb dX9_valueOf_56 (by decide) ?_
          refine lv_idiv hx hb dX9_valueOf_58 (by decide) ?_
          refine lv_bipush (v := 10) hx hb dX9_valueOf_59 (by decide) ?_
          refine lv_imul hx hb dX9_valueOf_61 ?_
          refine lv_istore_n (lv' := [(3, .int (((ar 2 (mI v)) / 10) * 10)), (0, .ref h), (1, .int v), (2, .int t)]) hx hb dX9_valueOf_62 rfl hl (by decide) rfl (fun L hl => ?_)
          refine lv_aload_n hx hb dX9_valueOf_63 rfl (lv_at hl 1 rfl) ?_
          refine lv_iload_n hx hb dX9_valueOf_64 rfl (lv_at hl 2 rfl) ?_
          refine g_priv (ci := 9) (cq := (RX9, TX9, 13)) (As := [.int v]) (rest := []) pw_X9_48 X (c_X9_hasPoints l D cI cZ cP 0 (by decide) hm hv ) hP hD hS hA hm.1 rfl rfl ⟨by show _ ≤ d; omega, by show _ ≤ 30 * d; omega⟩ rfl hl.1 rfl (Nat.le_of_ble_eq_true rfl) dX9_valueOf_65 ⟨Nat.le_refl _, Nat.le_refl _⟩ (kI fun H locs hP hD hS => ?_)
          refine W.eq (g2 := F0 m 68 L [.int (mHas ar (mI v))]) rfl ?_
          refine lv_if_eq (tgt := 80) hx hb dX9_valueOf_68 (by decide) (fun c_68 => ?_) (fun c_68 => ?_)
          · -- c_68 True
            refine lv_aload_n hx hb dX9_valueOf_80 rfl (lv_at hl 1 rfl) ?_
            refine mo_r0 X hP hm mw_455 dX9_valueOf_81 ?_
            refine lv_iload_n hx hb dX9_valueOf_84 rfl (lv_at hl 2 rfl) ?_
            refine mo_a0 X hP hm hv dX9_valueOf_85 ?_
            refine lv_bipush (v := 7) hx hb dX9_valueOf_86 (by decide) ?_
            refine lv_icmp_ne (tgt := 104) hx hb dX9_valueOf_88 (by decide) (fun c_88 => ?_) (fun c_88 => ?_)
            · -- c_88 True
              refine lv_iload_n hx hb dX9_valueOf_104 rfl (lv_at hl 0 rfl) ?_
              exact e_int X hP hD hS dX9_valueOf_105 ⟨by first | rfl | simp only [mVal, mV2, mV3, mN, if_neg c_5, if_pos c_14, if_neg c_33, if_pos c_50, if_pos c_68, if_neg c_88] | (simp only [mVal, mV2, mV3, mN, if_neg c_5, if_pos c_14, if_neg c_33, if_pos c_50, if_pos c_68, if_neg c_88]; rfl), rfl⟩
            · -- c_88 False
              refine lv_iload_n hx hb dX9_valueOf_91 rfl (lv_at hl 3 rfl) ?_
              refine lv_bipush (v := 7) hx hb dX9_valueOf_92 (by decide) ?_
              refine lv_irem hx hb dX9_valueOf_94 (by decide) ?_
              refine lv_if_ne (tgt := 104) hx hb dX9_valueOf_95 (by decide) (fun c_95 => ?_) (fun c_95 => ?_)
              · -- c_95 True
                refine lv_iload_n hx hb dX9_valueOf_104 rfl (lv_at hl 0 rfl) ?_
                exact e_int X hP hD hS dX9_valueOf_105 ⟨by first | rfl | simp only [mVal, mV2, mV3, mN, if_neg c_5, if_pos c_14, if_neg c_33, if_pos c_50, if_pos c_68, if_pos c_88, if_neg c_95] | (simp only [mVal, mV2, mV3, mN, if_neg c_5, if_pos c_14, if_neg c_33, if_pos c_50, if_pos c_68, if_pos c_88, if_neg c_95]; rfl), rfl⟩
              · -- c_95 False
                refine lv_iconst (v := 2) hx hb dX9_valueOf_98 (by decide) ?_
                refine lv_iload_n hx hb dX9_valueOf_99 rfl (lv_at hl 0 rfl) ?_
                refine lv_imul hx hb dX9_valueOf_100 ?_
                refine lv_goto (tgt := 105) hx hb dX9_valueOf_101 (by decide) ?_
                exact e_int X hP hD hS dX9_valueOf_105 ⟨by first | rfl | simp only [mVal, mV2, mV3, mN, if_neg c_5, if_pos c_14, if_neg c_33, if_pos c_50, if_pos c_68, if_pos c_88, if_pos c_95] | (simp only [mVal, mV2, mV3, mN, if_neg c_5, if_pos c_14, if_neg c_33, if_pos c_50, if_pos c_68, if_pos c_88, if_pos c_95]; rfl), rfl⟩
          · -- c_68 False
            refine lv_iload_n hx hb dX9_valueOf_71 rfl (lv_at hl 0 rfl) ?_
            refine lv_aload_n hx hb dX9_valueOf_72 rfl (lv_at hl 1 rfl) ?_
            refine mo_r4 X hP hm mw_459 dX9_valueOf_73 ?_
            refine lv_iload_n hx hb dX9_valueOf_76 rfl (lv_at hl 2 rfl) ?_
            refine mo_a4 X hP hm hv dX9_valueOf_77 ?_
            refine lv_iadd hx hb dX9_valueOf_78 ?_
            refine lv_istore_n (lv' := [(3, .int ((((ar 2 (mI v)) / 10) * 10) + (ar 4 (mI v)))), (0, .ref h), (1, .int v), (2, .int t)]) hx hb dX9_valueOf_79 rfl hl (by decide) rfl (fun L hl => ?_)
            refine lv_aload_n hx hb dX9_valueOf_80 rfl (lv_at hl 1 rfl) ?_
            refine mo_r0 X hP hm mw_455 dX9_valueOf_81 ?_
            refine lv_iload_n hx hb dX9_valueOf_84 rfl (lv_at hl 2 rfl) ?_
            refine mo_a0 X hP hm hv dX9_valueOf_85 ?_
            refine lv_bipush (v := 7) hx hb dX9_valueOf_86 (by decide) ?_
            refine lv_icmp_ne (tgt := 104) hx hb dX9_valueOf_88 (by decide) (fun c_88 => ?_) (fun c_88 => ?_)
            · -- c_88 True
              refine lv_iload_n hx hb dX9_valueOf_104 rfl (lv_at hl 0 rfl) ?_
              exact e_int X hP hD hS dX9_valueOf_105 ⟨by first | rfl | simp only [mVal, mV2, mV3, mN, if_neg c_5, if_pos c_14, if_neg c_33, if_pos c_50, if_neg c_68, if_neg c_88] | (simp only [mVal, mV2, mV3, mN, if_neg c_5, if_pos c_14, if_neg c_33, if_pos c_50, if_neg c_68, if_neg c_88]; rfl), rfl⟩
            · -- c_88 False
              refine lv_iload_n hx hb dX9_valueOf_91 rfl (lv_at hl 3 rfl) ?_
              refine lv_bipush (v := 7) hx hb dX9_valueOf_92 (by decide) ?_
              refine lv_irem hx hb dX9_valueOf_94 (by decide) ?_
              refine lv_if_ne (tgt := 104) hx hb dX9_valueOf_95 (by decide) (fun c_95 => ?_) (fun c_95 => ?_)
              · -- c_95 True
                refine lv_iload_n hx hb dX9_valueOf_104 rfl (lv_at hl 0 rfl) ?_
                exact e_int X hP hD hS dX9_valueOf_105 ⟨by first | rfl | simp only [mVal, mV2, mV3, mN, if_neg c_5, if_pos c_14, if_neg c_33, if_pos c_50, if_neg c_68, if_pos c_88, if_neg c_95] | (simp only [mVal, mV2, mV3, mN, if_neg c_5, if_pos c_14, if_neg c_33, if_pos c_50, if_neg c_68, if_pos c_88, if_neg c_95]; rfl), rfl⟩
              · -- c_95 False
                refine lv_iconst (v := 2) hx hb dX9_valueOf_98 (by decide) ?_
                refine lv_iload_n hx hb dX9_valueOf_99 rfl (lv_at hl 0 rfl) ?_
                refine lv_imul hx hb dX9_valueOf_100 ?_
                refine lv_goto (tgt := 105) hx hb dX9_valueOf_101 (by decide) ?_
                exact e_int X hP hD hS dX9_valueOf_105 ⟨by first | rfl | simp only [mVal, mV2, mV3, mN, if_neg c_5, if_pos c_14, if_neg c_33, if_pos c_50, if_neg c_68, if_pos c_88, if_pos c_95] | (simp only [mVal, mV2, mV3, mN, if_neg c_5, if_pos c_14, if_neg c_33, if_pos c_50, if_neg c_68, if_pos c_88, if_pos c_95]; rfl), rfl⟩
        · -- c_50 False
          refine lv_iload_n hx hb dX9_valueOf_53 rfl (lv_at hl 0 rfl) ?_
          exact e_int X hP hD hS dX9_valueOf_54 ⟨by first | rfl | simp only [mVal, mV2, mV3, mN, if_neg c_5, if_pos c_14, if_neg c_33, if_neg c_50] | (simp only [mVal, mV2, mV3, mN, if_neg c_5, if_pos c_14, if_neg c_33, if_neg c_50]; rfl), rfl⟩
      · -- c_33 False
        refine lv_iload_n hx hb dX9_valueOf_36 rfl (lv_at hl 0 rfl) ?_
        refine lv_iload_n hx hb dX9_valueOf_37 rfl (lv_at hl 0 rfl) ?_
        refine lv_bipush (v := 10) hx hb dX9_valueOf_38 (by decide) ?_
        refine lv_idiv hx hb dX9_valueOf_40 (by decide) ?_
        refine lv_isub hx hb dX9_valueOf_41 ?_
        exact e_int X hP hD hS dX9_valueOf_42 ⟨by first | rfl | simp only [mVal, mV2, mV3, mN, if_neg c_5, if_pos c_14, if_pos c_33] | (simp only [mVal, mV2, mV3, mN, if_neg c_5, if_pos c_14, if_pos c_33]; rfl), rfl⟩
    · -- c_14 False
      refine lv_iconst (v := 0) hx hb dX9_valueOf_17 (by decide) ?_
      exact e_int X hP hD hS dX9_valueOf_18 ⟨by first | rfl | simp only [mVal, mV2, mV3, mN, if_neg c_5, if_neg c_14] | (simp only [mVal, mV2, mV3, mN, if_neg c_5, if_neg c_14]; rfl), rfl⟩
set_option maxHeartbeats 4000000 in
set_option maxRecDepth 100000 in
theorem c_X9_feeOf (l : Launch) (D : va_G) (cI cZ cP : ClassId) (d : Nat) (hd : 0 ≤ d) {ws : va_W} {h : Nat} {q ad : Nat → Nat} {sc : Nat → Int32} {ar : Nat → Nat → Int32} (hm : mo_at cI cZ ws h q ad sc ar) {v : Int32} (hv : vp_in v 40) (g : Int32) : Ct l D (vTy cI cZ cP) yX9_feeOf cX9_feeOf 4 (some .int) d 0 0 [.ref h, .int v, .int g] ws (pI ws (mFee ar (mI v) g)) := by
  refine ct_intro (by decide) (Nat.le_of_ble_eq_true rfl) ?_
  intro p e s m below meth c A L X hin hP hD hS hA hl
  have hl : lv_has L 4 [(0, .ref h), (1, .int v), (2, .int g)] := hl
  obtain ⟨hx, hb, hr, hml, hown, hts, hK, hlk, hxK⟩ := id X
  have hfr := mo_fr_rf ws
  refine lv_iload_n hx hb dX9_feeOf_0 rfl (lv_at hl 2 rfl) ?_
  refine lv_bipush (v := 50) hx hb dX9_feeOf_1 (by decide) ?_
  refine lv_idiv hx hb dX9_feeOf_3 (by decide) ?_
  refine lv_iconst (v := 1) hx hb dX9_feeOf_4 (by decide) ?_
  refine lv_iadd hx hb dX9_feeOf_5 ?_
  refine lv_istore_n (lv' := [(3, .int ((g / 50) + 1)), (0, .ref h), (1, .int v), (2, .int g)]) hx hb dX9_feeOf_6 rfl hl (by decide) rfl (fun L hl => ?_)
  refine lv_aload_n hx hb dX9_feeOf_7 rfl (lv_at hl 1 rfl) ?_
  refine mo_r0 X hP hm mw_455 dX9_feeOf_8 ?_
  refine lv_iload_n hx hb dX9_feeOf_11 rfl (lv_at hl 2 rfl) ?_
  refine mo_a0 X hP hm hv dX9_feeOf_12 ?_
  refine lv_iconst (v := 3) hx hb dX9_feeOf_13 (by decide) ?_
  refine lv_icmp_ne (tgt := 21) hx hb dX9_feeOf_14 (by decide) (fun c_14 => ?_) (fun c_14 => ?_)
  · -- c_14 True
    refine lv_aload_n hx hb dX9_feeOf_21 rfl (lv_at hl 1 rfl) ?_
    refine mo_r0 X hP hm mw_455 dX9_feeOf_22 ?_
    refine lv_iload_n hx hb dX9_feeOf_25 rfl (lv_at hl 2 rfl) ?_
    refine mo_a0 X hP hm hv dX9_feeOf_26 ?_
    refine lv_bipush (v := 7) hx hb dX9_feeOf_27 (by decide) ?_
    refine lv_icmp_eq (tgt := 34) hx hb dX9_feeOf_29 (by decide) (fun c_29 => ?_) (fun c_29 => ?_)
    · -- c_29 True
      refine lv_iload_n hx hb dX9_feeOf_34 rfl (lv_at hl 0 rfl) ?_
      refine lv_aload_n hx hb dX9_feeOf_35 rfl (lv_at hl 1 rfl) ?_
      refine mo_r4 X hP hm mw_459 dX9_feeOf_36 ?_
      refine lv_iload_n hx hb dX9_feeOf_39 rfl (lv_at hl 2 rfl) ?_
      refine mo_a4 X hP hm hv dX9_feeOf_40 ?_
      refine lv_icmp_le (tgt := 55) hx hb dX9_feeOf_41 (by decide) (fun c_41 => ?_) (fun c_41 => ?_)
      · -- c_41 True
        refine lv_iconst (v := 0) hx hb dX9_feeOf_55 (by decide) ?_
        exact e_int X hP hD hS dX9_feeOf_56 ⟨by first | rfl | simp only [mFee, if_neg c_14, if_pos c_29, if_pos c_41] | (simp only [mFee, if_neg c_14, if_pos c_29, if_pos c_41]; rfl), rfl⟩
      · -- c_41 False
        refine lv_iload_n hx hb dX9_feeOf_44 rfl (lv_at hl 0 rfl) ?_
        refine lv_aload_n hx hb dX9_feeOf_45 rfl (lv_at hl 1 rfl) ?_
        refine mo_r4 X hP hm mw_459 dX9_feeOf_46 ?_
        refine lv_iload_n hx hb dX9_feeOf_49 rfl (lv_at hl 2 rfl) ?_
        refine mo_a4 X hP hm hv dX9_feeOf_50 ?_
        refine lv_isub hx hb dX9_feeOf_51 ?_
        refine lv_goto (tgt := 56) hx hb dX9_feeOf_52 (by decide) ?_
        exact e_int X hP hD hS dX9_feeOf_56 ⟨by first | rfl | simp only [mFee, if_neg c_14, if_pos c_29, if_neg c_41] | (simp only [mFee, if_neg c_14, if_pos c_29, if_neg c_41]; rfl), rfl⟩
    · -- c_29 False
      refine lv_iload_n hx hb dX9_feeOf_32 rfl (lv_at hl 0 rfl) ?_
      exact e_int X hP hD hS dX9_feeOf_33 ⟨by first | rfl | simp only [mFee, if_neg c_14, if_neg c_29] | (simp only [mFee, if_neg c_14, if_neg c_29]; rfl), rfl⟩
  · -- c_14 False
    refine lv_iload_n hx hb dX9_feeOf_17 rfl (lv_at hl 0 rfl) ?_
    refine lv_iconst (v := 2) hx hb dX9_feeOf_18 (by decide) ?_
    refine lv_idiv hx hb dX9_feeOf_19 (by decide) ?_
    exact e_int X hP hD hS dX9_feeOf_20 ⟨by first | rfl | simp only [mFee, if_pos c_14] | (simp only [mFee, if_pos c_14]; rfl), rfl⟩
set_option maxHeartbeats 4000000 in
set_option maxRecDepth 100000 in
theorem c_X9_sealOf (l : Launch) (D : va_G) (cI cZ cP : ClassId) (d : Nat) (hd : 1 ≤ d) {ws : va_W} {h : Nat} {q ad : Nat → Nat} {sc : Nat → Int32} {ar : Nat → Nat → Int32} (hm : mo_at cI cZ ws h q ad sc ar) {v : Int32} (hv : vp_in v 40) : Ct l D (vTy cI cZ cP) yX9_sealOf cX9_sealOf 3 (some .int) d 0 0 [.ref h, .int v] ws (pI ws (mSeal ar (mI v))) := by
  refine ct_intro (by decide) (Nat.le_of_ble_eq_true rfl) ?_
  intro p e s m below meth c A L X hin hP hD hS hA hl
  have hl : lv_has L 3 [(0, .ref h), (1, .int v)] := hl
  obtain ⟨hx, hb, hr, hml, hown, hts, hK, hlk, hxK⟩ := id X
  have hfr := mo_fr_rf ws
  refine lv_aload_n hx hb dX9_sealOf_0 rfl (lv_at hl 0 rfl) ?_
  refine mo_r2 X hP hm mw_457 dX9_sealOf_1 ?_
  refine lv_iload_n hx hb dX9_sealOf_4 rfl (lv_at hl 1 rfl) ?_
  refine mo_a2 X hP hm hv dX9_sealOf_5 ?_
  refine lv_sipush (v := 961) hx hb dX9_sealOf_6 (by decide) ?_
  refine lv_imul hx hb dX9_sealOf_9 ?_
  refine lv_aload_n hx hb dX9_sealOf_10 rfl (lv_at hl 0 rfl) ?_
  refine mo_r3 X hP hm mw_458 dX9_sealOf_11 ?_
  refine lv_iload_n hx hb dX9_sealOf_14 rfl (lv_at hl 1 rfl) ?_
  refine mo_a3 X hP hm hv dX9_sealOf_15 ?_
  refine lv_bipush (v := 31) hx hb dX9_sealOf_16 (by decide) ?_
  refine lv_imul hx hb dX9_sealOf_18 ?_
  refine lv_iadd hx hb dX9_sealOf_19 ?_
  refine lv_aload_n hx hb dX9_sealOf_20 rfl (lv_at hl 0 rfl) ?_
  refine mo_r1 X hP hm mw_456 dX9_sealOf_21 ?_
  refine lv_iload_n hx hb dX9_sealOf_24 rfl (lv_at hl 1 rfl) ?_
  refine mo_a1 X hP hm hv dX9_sealOf_25 ?_
  refine lv_iadd hx hb dX9_sealOf_26 ?_
  refine lv_istore_n (lv' := [(2, .int ((((ar 2 (mI v)) * 961) + ((ar 3 (mI v)) * 31)) + (ar 1 (mI v)))), (0, .ref h), (1, .int v)]) hx hb dX9_sealOf_27 rfl hl (by decide) rfl (fun L hl => ?_)
  refine lv_aload_n hx hb dX9_sealOf_28 rfl (lv_at hl 1 rfl) ?_
  refine lv_iload_n hx hb dX9_sealOf_29 rfl (lv_at hl 2 rfl) ?_
  refine g_priv (ci := 9) (cq := (RX9, TX9, 13)) (As := [.int v]) (rest := []) pw_X9_40 X (c_X9_isDated l D cI cZ cP 0 (by decide) hm hv ) hP hD hS hA hm.1 rfl rfl ⟨by show _ ≤ d; omega, by show _ ≤ 30 * d; omega⟩ rfl hl.1 rfl (Nat.le_of_ble_eq_true rfl) dX9_sealOf_30 ⟨Nat.le_refl _, Nat.le_refl _⟩ (kI fun H locs hP hD hS => ?_)
  refine W.eq (g2 := F0 m 33 L [.int (mDat ar (mI v))]) rfl ?_
  refine lv_if_eq (tgt := 44) hx hb dX9_sealOf_33 (by decide) (fun c_33 => ?_) (fun c_33 => ?_)
  · -- c_33 True
    refine lv_aload_n hx hb dX9_sealOf_44 rfl (lv_at hl 1 rfl) ?_
    refine mo_r0 X hP hm mw_455 dX9_sealOf_45 ?_
    refine lv_iload_n hx hb dX9_sealOf_48 rfl (lv_at hl 2 rfl) ?_
    refine mo_a0 X hP hm hv dX9_sealOf_49 ?_
    refine lv_bipush (v := 7) hx hb dX9_sealOf_50 (by decide) ?_
    refine lv_icmp_ne (tgt := 66) hx hb dX9_sealOf_52 (by decide) (fun c_52 => ?_) (fun c_52 => ?_)
    · -- c_52 True
      refine lv_iload_n hx hb dX9_sealOf_66 rfl (lv_at hl 0 rfl) ?_
      exact e_int X hP hD hS dX9_sealOf_67 ⟨by first | rfl | simp only [mSeal, mS0, if_pos c_33, if_neg c_52] | (simp only [mSeal, mS0, if_pos c_33, if_neg c_52]; rfl), rfl⟩
    · -- c_52 False
      refine lv_iload_n hx hb dX9_sealOf_55 rfl (lv_at hl 0 rfl) ?_
      refine lv_iconst (v := 3) hx hb dX9_sealOf_56 (by decide) ?_
      refine lv_aload_n hx hb dX9_sealOf_57 rfl (lv_at hl 1 rfl) ?_
      refine mo_r4 X hP hm mw_459 dX9_sealOf_58 ?_
      refine lv_iload_n hx hb dX9_sealOf_61 rfl (lv_at hl 2 rfl) ?_
      refine mo_a4 X hP hm hv dX9_sealOf_62 ?_
      refine lv_imul hx hb dX9_sealOf_63 ?_
      refine lv_iadd hx hb dX9_sealOf_64 ?_
      refine lv_istore_n (lv' := [(2, .int (((((ar 2 (mI v)) * 961) + ((ar 3 (mI v)) * 31)) + (ar 1 (mI v))) + (3 * (ar 4 (mI v))))), (0, .ref h), (1, .int v)]) hx hb dX9_sealOf_65 rfl hl (by decide) rfl (fun L hl => ?_)
      refine lv_iload_n hx hb dX9_sealOf_66 rfl (lv_at hl 0 rfl) ?_
      exact e_int X hP hD hS dX9_sealOf_67 ⟨by first | rfl | simp only [mSeal, mS0, if_pos c_33, if_pos c_52] | (simp only [mSeal, mS0, if_pos c_33, if_pos c_52]; rfl), rfl⟩
  · -- c_33 False
    refine lv_iload_n hx hb dX9_sealOf_36 rfl (lv_at hl 0 rfl) ?_
    refine lv_aload_n hx hb dX9_sealOf_37 rfl (lv_at hl 1 rfl) ?_
    refine lv_iload_n hx hb dX9_sealOf_38 rfl (lv_at hl 2 rfl) ?_
    refine g_priv (ci := 9) (cq := (RX9, TX9, 13)) (As := [.int v]) (rest := [.int ((((ar 2 (mI v)) * 961) + ((ar 3 (mI v)) * 31)) + (ar 1 (mI v)))]) pw_X9_44 X (c_X9_lastDay l D cI cZ cP 0 (by decide) hm hv ) hP hD hS hA hm.1 rfl rfl ⟨by show _ ≤ d; omega, by show _ ≤ 30 * d; omega⟩ rfl hl.1 rfl (Nat.le_of_ble_eq_true rfl) dX9_sealOf_39 ⟨Nat.le_refl _, Nat.le_refl _⟩ (kI fun H locs hP hD hS => ?_)
    refine W.eq (g2 := F0 m 42 L [.int (mLast ar (mI v)), .int ((((ar 2 (mI v)) * 961) + ((ar 3 (mI v)) * 31)) + (ar 1 (mI v)))]) rfl ?_
    refine lv_iadd hx hb dX9_sealOf_42 ?_
    refine lv_istore_n (lv' := [(2, .int (((((ar 2 (mI v)) * 961) + ((ar 3 (mI v)) * 31)) + (ar 1 (mI v))) + (mLast ar (mI v)))), (0, .ref h), (1, .int v)]) hx hb dX9_sealOf_43 rfl hl (by decide) rfl (fun L hl => ?_)
    refine lv_aload_n hx hb dX9_sealOf_44 rfl (lv_at hl 1 rfl) ?_
    refine mo_r0 X hP hm mw_455 dX9_sealOf_45 ?_
    refine lv_iload_n hx hb dX9_sealOf_48 rfl (lv_at hl 2 rfl) ?_
    refine mo_a0 X hP hm hv dX9_sealOf_49 ?_
    refine lv_bipush (v := 7) hx hb dX9_sealOf_50 (by decide) ?_
    refine lv_icmp_ne (tgt := 66) hx hb dX9_sealOf_52 (by decide) (fun c_52 => ?_) (fun c_52 => ?_)
    · -- c_52 True
      refine lv_iload_n hx hb dX9_sealOf_66 rfl (lv_at hl 0 rfl) ?_
      exact e_int X hP hD hS dX9_sealOf_67 ⟨by first | rfl | simp only [mSeal, mS0, if_neg c_33, if_neg c_52] | (simp only [mSeal, mS0, if_neg c_33, if_neg c_52]; rfl), rfl⟩
    · -- c_52 False
      refine lv_iload_n hx hb dX9_sealOf_55 rfl (lv_at hl 0 rfl) ?_
      refine lv_iconst (v := 3) hx hb dX9_sealOf_56 (by decide) ?_
      refine lv_aload_n hx hb dX9_sealOf_57 rfl (lv_at hl 1 rfl) ?_
      refine mo_r4 X hP hm mw_459 dX9_sealOf_58 ?_
      refine lv_iload_n hx hb dX9_sealOf_61 rfl (lv_at hl 2 rfl) ?_
      refine mo_a4 X hP hm hv dX9_sealOf_62 ?_
      refine lv_imul hx hb dX9_sealOf_63 ?_
      refine lv_iadd hx hb dX9_sealOf_64 ?_
      refine lv_istore_n (lv' := [(2, .int ((((((ar 2 (mI v)) * 961) + ((ar 3 (mI v)) * 31)) + (ar 1 (mI v))) + (mLast ar (mI v))) + (3 * (ar 4 (mI v))))), (0, .ref h), (1, .int v)]) hx hb dX9_sealOf_65 rfl hl (by decide) rfl (fun L hl => ?_)
      refine lv_iload_n hx hb dX9_sealOf_66 rfl (lv_at hl 0 rfl) ?_
      exact e_int X hP hD hS dX9_sealOf_67 ⟨by first | rfl | simp only [mSeal, mS0, if_neg c_33, if_pos c_52] | (simp only [mSeal, mS0, if_neg c_33, if_pos c_52]; rfl), rfl⟩
