/-- a voucher's numbers, of the kind k -/
def vInv (ar : Nat → Nat → Int32) (v k : Nat) : Prop := k ≤ 7 ∧ ar 0 v = nI k ∧ ∃ L P M S : Nat, ar 2 v = nI L ∧ ar 4 v = nI P ∧ ar 1 v = nI M ∧ ar 5 v = nI S ∧ 100 * P + L ≤ M ∧ M ≤ 100000 ∧ S ≤ 20001 ∧ (k < 6 → P = 0)
/-- what holds of the office's numbers at every time -/
def mInv (sc : Nat → Int32) (ar : Nat → Nat → Int32) (n : Nat) : Prop := sc 1 = nI n ∧ n ≤ 40 ∧ (∃ dd : Nat, sc 0 = nI dd ∧ dd ≤ 20000) ∧ (∀ v, v < n → ∃ k, vInv ar v k) ∧ (∀ v, n ≤ v → ar 4 v = 0 ∧ ar 5 v = 0 ∧ ar 6 v = 0)
theorem i_ss (a b : Int32) : a - (a - b) = b := by
  rw [Int32.sub_eq_iff_eq_add, Int32.add_comm, Int32.sub_add_cancel]
theorem k_cases {k : Nat} (h : k ≤ 7) : k = 0 ∨ k = 1 ∨ k = 2 ∨ k = 3 ∨ k = 4 ∨ k = 5 ∨ k = 6 ∨ k = 7 := by omega
theorem val_eq {ar : Nat → Nat → Int32} {j k : Nat} (hk : k ≤ 7) (h : ar 0 j = nI k) (t : Int32) : mVal ar j t = vVal k (ar 3 j) (ar 2 j) (ar 4 j) t := by
  rcases k_cases hk with rfl | rfl | rfl | rfl | rfl | rfl | rfl | rfl
  · have h0 : ar 0 j = 0 := h
    simp only [mVal, mDat, mV2, h0, vVal, if_neg (by decide : ¬ (0 : Int32) = 2), if_neg (by decide : ¬ (0 : Int32) = 3), if_neg (by decide : ¬ (4 : Int32) ≤ 0), if_pos]
  · have h0 : ar 0 j = 1 := h
    simp only [mVal, mDat, mV2, h0, vVal, if_neg (by decide : ¬ (1 : Int32) = 2), if_neg (by decide : ¬ (1 : Int32) = 3), if_neg (by decide : ¬ (4 : Int32) ≤ 1), if_pos]
  · have h0 : ar 0 j = 2 := h
    simp only [mVal, mDat, mV2, mLast, h0, vVal, vSea, vLast, if_pos, if_neg (by decide : ¬ (1 : Int32) = 0), if_neg (by decide : ¬ (2 : Int32) = 3), if_neg (by decide : ¬ (4 : Int32) ≤ 2)]
  · have h0 : ar 0 j = 3 := h
    simp only [mVal, mDat, mV2, mLast, h0, vVal, vSea, vLast, if_pos, if_neg (by decide : ¬ (1 : Int32) = 0), if_neg (by decide : ¬ (3 : Int32) = 2)]
    by_cases c : t ≤ ar 3 j + 30
    · simp only [if_pos c]
    · simp only [if_neg c]
      decide
  · have h0 : ar 0 j = 4 := h
    simp only [mVal, mDat, mV2, mV3, mN, mHas, h0, vVal, vRnd, i_ss, if_pos, if_neg (by decide : ¬ (4 : Int32) = 2), if_neg (by decide : ¬ (4 : Int32) = 3), if_neg (by decide : ¬ (4 : Int32) = 7), if_pos (by decide : (4 : Int32) ≤ 4), if_pos (by decide : (4 : Int32) < 6)]
  · have h0 : ar 0 j = 5 := h
    simp only [mVal, mDat, mV2, mV3, mN, mHas, h0, vVal, vRnd, i_ss, if_pos, if_neg (by decide : ¬ (5 : Int32) = 2), if_neg (by decide : ¬ (5 : Int32) = 3), if_neg (by decide : ¬ (5 : Int32) = 7), if_pos (by decide : (4 : Int32) ≤ 5), if_pos (by decide : (5 : Int32) < 6)]
  · have h0 : ar 0 j = 6 := h
    simp only [mVal, mDat, mV2, mV3, mN, mHas, h0, vVal, vRnd, i_ss, if_pos, if_neg (by decide : ¬ (6 : Int32) = 2), if_neg (by decide : ¬ (6 : Int32) = 3), if_neg (by decide : ¬ (6 : Int32) = 7), if_pos (by decide : (4 : Int32) ≤ 6), if_neg (by decide : ¬ (6 : Int32) < 6), if_neg (by decide : ¬ (1 : Int32) = 0)]
  · have h0 : ar 0 j = 7 := h
    simp only [mVal, mDat, mV2, mV3, mN, mHas, h0, vVal, vRnd, i_ss, if_pos, if_neg (by decide : ¬ (7 : Int32) = 2), if_neg (by decide : ¬ (7 : Int32) = 3), if_pos (by decide : (4 : Int32) ≤ 7), if_neg (by decide : ¬ (7 : Int32) < 6), if_neg (by decide : ¬ (1 : Int32) = 0), Int32.mul_comm 2]
theorem seal_eq {ar : Nat → Nat → Int32} {j k : Nat} (hk : k ≤ 7) (h : ar 0 j = nI k) : mSeal ar j = vSeal k (ar 3 j) (ar 1 j) (ar 2 j) (ar 4 j) := by
  have hb : ar 2 j * 961 + ar 3 j * 31 + ar 1 j = vBase (ar 3 j) (ar 1 j) (ar 2 j) := by
    unfold vBase
    rw [Int32.add_mul, Int32.mul_assoc, show (31 : Int32) * 31 = 961 from by decide]
  rcases k_cases hk with rfl | rfl | rfl | rfl | rfl | rfl | rfl | rfl
  · have h0 : ar 0 j = 0 := h
    simp only [mSeal, mS0, mDat, h0, vSeal, hb, if_neg (by decide : ¬ (0 : Int32) = 2), if_neg (by decide : ¬ (0 : Int32) = 3), if_neg (by decide : ¬ (0 : Int32) = 7), if_pos]
  · have h0 : ar 0 j = 1 := h
    simp only [mSeal, mS0, mDat, h0, vSeal, hb, if_neg (by decide : ¬ (1 : Int32) = 2), if_neg (by decide : ¬ (1 : Int32) = 3), if_neg (by decide : ¬ (1 : Int32) = 7), if_pos]
  · have h0 : ar 0 j = 2 := h
    simp only [mSeal, mS0, mDat, mLast, h0, vSeal, vLast, hb, if_neg (by decide : ¬ (1 : Int32) = 0), if_neg (by decide : ¬ (2 : Int32) = 3), if_neg (by decide : ¬ (2 : Int32) = 7), if_pos]
  · have h0 : ar 0 j = 3 := h
    simp only [mSeal, mS0, mDat, mLast, h0, vSeal, vLast, hb, if_neg (by decide : ¬ (1 : Int32) = 0), if_neg (by decide : ¬ (3 : Int32) = 2), if_neg (by decide : ¬ (3 : Int32) = 7), if_pos]
  · have h0 : ar 0 j = 4 := h
    simp only [mSeal, mS0, mDat, h0, vSeal, hb, if_neg (by decide : ¬ (4 : Int32) = 2), if_neg (by decide : ¬ (4 : Int32) = 3), if_neg (by decide : ¬ (4 : Int32) = 7), if_pos]
  · have h0 : ar 0 j = 5 := h
    simp only [mSeal, mS0, mDat, h0, vSeal, hb, if_neg (by decide : ¬ (5 : Int32) = 2), if_neg (by decide : ¬ (5 : Int32) = 3), if_neg (by decide : ¬ (5 : Int32) = 7), if_pos]
  · have h0 : ar 0 j = 6 := h
    simp only [mSeal, mS0, mDat, h0, vSeal, hb, if_neg (by decide : ¬ (6 : Int32) = 2), if_neg (by decide : ¬ (6 : Int32) = 3), if_neg (by decide : ¬ (6 : Int32) = 7), if_pos]
  · have h0 : ar 0 j = 7 := h
    simp only [mSeal, mS0, mDat, h0, vSeal, hb, if_neg (by decide : ¬ (7 : Int32) = 2), if_neg (by decide : ¬ (7 : Int32) = 3), if_pos]
theorem dat_eq {ar : Nat → Nat → Int32} {j k : Nat} (hk : k ≤ 7) (h : ar 0 j = nI k) : ((k = 2 ∨ k = 3) ∧ ¬ mDat ar j = 0 ∧ mLast ar j = vLast k (ar 3 j)) ∨ (¬ (k = 2 ∨ k = 3) ∧ mDat ar j = 0) := by
  rcases k_cases hk with rfl | rfl | rfl | rfl | rfl | rfl | rfl | rfl
  · have h0 : ar 0 j = 0 := h
    exact Or.inr ⟨by omega, by simp only [mDat, h0]; decide⟩
  · have h0 : ar 0 j = 1 := h
    exact Or.inr ⟨by omega, by simp only [mDat, h0]; decide⟩
  · have h0 : ar 0 j = 2 := h
    exact Or.inl ⟨by omega, by simp only [mDat, h0]; decide, by simp only [mLast, h0, vLast, if_neg (by decide : ¬ (2 : Int32) = 3)]⟩
  · have h0 : ar 0 j = 3 := h
    exact Or.inl ⟨by omega, by simp only [mDat, h0]; decide, by simp only [mLast, h0, vLast, if_pos]⟩
  · have h0 : ar 0 j = 4 := h
    exact Or.inr ⟨by omega, by simp only [mDat, h0]; decide⟩
  · have h0 : ar 0 j = 5 := h
    exact Or.inr ⟨by omega, by simp only [mDat, h0]; decide⟩
  · have h0 : ar 0 j = 6 := h
    exact Or.inr ⟨by omega, by simp only [mDat, h0]; decide⟩
  · have h0 : ar 0 j = 7 := h
    exact Or.inr ⟨by omega, by simp only [mDat, h0]; decide⟩
theorem has_eq {ar : Nat → Nat → Int32} {j k : Nat} (hk : k ≤ 7) (h : ar 0 j = nI k) : (k < 6 ∧ mHas ar j = 0) ∨ (6 ≤ k ∧ ¬ mHas ar j = 0) := by
  rcases Nat.lt_or_ge k 6 with q | q
  · exact Or.inl ⟨q, by rw [mHas, h, if_pos]; exact nI_lt (b := 6) q (by decide)⟩
  · exact Or.inr ⟨q, by rw [mHas, h, if_neg]; decide; exact nI_nlt (b := 6) q (by omega)⟩
theorem vLast_no {k : Nat} {fr : Int32} (h : ¬ (k = 2 ∨ k = 3)) : vLast k fr = -3 := by
  unfold vLast
  split <;> simp_all
theorem vDays_no {k : Nat} {fr t : Int32} (h : ¬ (k = 2 ∨ k = 3)) : vDays k fr t = -3 := by
  unfold vDays
  split <;> simp_all
theorem vDays_is {k : Nat} {fr t : Int32} (h : k = 2 ∨ k = 3) : vDays k fr t = if 0 < vLast k fr - t then vLast k fr - t else 0 := by
  rcases h with rfl | rfl <;> rfl
theorem days_eq {ar : Nat → Nat → Int32} {j k : Nat} (hk : k ≤ 7) (h : ar 0 j = nI k) (t : Int32) : (if mDat ar j = 0 then (-3 : Int32) else if mLast ar j - t ≤ 0 then 0 else mLast ar j - t) = vDays k (ar 3 j) t := by
  rcases dat_eq hk h with ⟨h1, h2, h3⟩ | ⟨h1, h2⟩
  · rw [if_neg h2, h3, vDays_is h1]
    by_cases c : 0 < vLast k (ar 3 j) - t
    · rw [if_pos c, if_neg (Int32.not_le.mpr c)]
    · rw [if_neg c, if_pos (Int32.not_lt.mp c)]
  · rw [if_pos h2, vDays_no h1]
theorem last_eq {ar : Nat → Nat → Int32} {j k : Nat} (hk : k ≤ 7) (h : ar 0 j = nI k) : (if mDat ar j = 0 then (-3 : Int32) else mLast ar j) = vLast k (ar 3 j) := by
  rcases dat_eq hk h with ⟨h1, h2, h3⟩ | ⟨h1, h2⟩
  · rw [if_neg h2, h3]
  · rw [if_pos h2, vLast_no h1]
theorem vMark_no {k : Nat} {fr am le po n : Int32} (h : k < 5) : vMark k fr am le po n = -3 := by
  rcases (by omega : k = 0 ∨ k = 1 ∨ k = 2 ∨ k = 3 ∨ k = 4) with rfl | rfl | rfl | rfl | rfl <;> rfl
theorem vMark_is {k : Nat} {fr am le po n : Int32} (hk : k ≤ 7) (h : 5 ≤ k) : vMark k fr am le po n = vSeal k fr am le po * 7 + n := by
  rcases (by omega : k = 5 ∨ k = 6 ∨ k = 7) with rfl | rfl | rfl <;> rfl
theorem mark_eq {ar : Nat → Nat → Int32} {j k : Nat} (hk : k ≤ 7) (h : ar 0 j = nI k) (n : Int32) : (if ar 0 j < 5 then (-3 : Int32) else mSeal ar j * 7 + n) = vMark k (ar 3 j) (ar 1 j) (ar 2 j) (ar 4 j) n := by
  rcases Nat.lt_or_ge k 5 with q | q
  · rw [if_pos (by rw [h]; exact nI_lt (b := 5) q (by decide)), vMark_no q]
  · rw [if_neg (by rw [h]; exact nI_nlt (b := 5) q (by omega)), vMark_is hk q, seal_eq hk h]
theorem pts_eq {ar : Nat → Nat → Int32} {j k : Nat} (hv : vInv ar j k) : ar 4 j = vPts k (ar 4 j) := by
  obtain ⟨hk, h, L, P, M, S, e2, e4, e1, e5, hs, hM, hS, h6⟩ := hv
  rcases Nat.lt_or_ge k 6 with q | q
  · have hP := h6 q
    subst hP
    rw [e4]
    rcases (by omega : k = 0 ∨ k = 1 ∨ k = 2 ∨ k = 3 ∨ k = 4 ∨ k = 5) with rfl | rfl | rfl | rfl | rfl | rfl <;> rfl
  · rcases (by omega : k = 6 ∨ k = 7) with rfl | rfl <;> rfl
theorem g_nat {g : Int32} {hi : Nat} (hh : hi < 2 ^ 31) (h1 : ¬ g < 1) (h2 : ¬ nI hi < g) : ∃ G : Nat, 1 ≤ G ∧ G ≤ hi ∧ g = nI G := by
  have h0 : ¬ g < 0 := fun z => h1 (Int32.lt_trans z (by decide))
  obtain ⟨G, hG, rfl⟩ := nI_of h0
  refine ⟨G, ?_, ?_, rfl⟩
  · rcases Nat.eq_zero_or_pos G with q | q
    · subst q
      exact absurd (by decide) h1
    · exact q
  · rcases Nat.lt_or_ge hi G with q | q
    · exact absurd (nI_lt q hG) h2
    · exact q
theorem fee_nat {G : Nat} (h : G ≤ 100000) : nI G / 50 + 1 = nI (G / 50 + 1) := by
  rw [show (50 : Int32) = nI 50 from rfl, pk_div (by omega) (by decide) (by decide), nI_1]
theorem fee_eq {ar : Nat → Nat → Int32} {j k G : Nat} (hv : vInv ar j k) (hG : G ≤ 100000) : mFee ar j (nI G) = vFee k (ar 4 j) (nI G) ∧ ∃ F : Nat, F ≤ 2001 ∧ vFee k (ar 4 j) (nI G) = nI F := by
  obtain ⟨hk, h, L, P, M, S, e2, e4, e1, e5, hs, hM, hS, h6⟩ := hv
  have hF := fee_nat hG
  have hb : G / 50 + 1 ≤ 2001 := by omega
  rcases k_cases hk with rfl | rfl | rfl | rfl | rfl | rfl | rfl | rfl
  · have h0 : ar 0 j = 0 := h
    exact ⟨by simp only [mFee, h0, vFee, if_neg (by decide : ¬ (0 : Int32) = 3), if_neg (by decide : ¬ (0 : Int32) = 7)], _, hb, hF⟩
  · have h0 : ar 0 j = 1 := h
    exact ⟨by simp only [mFee, h0, vFee, if_neg (by decide : ¬ (1 : Int32) = 3), if_neg (by decide : ¬ (1 : Int32) = 7)], _, hb, hF⟩
  · have h0 : ar 0 j = 2 := h
    exact ⟨by simp only [mFee, h0, vFee, if_neg (by decide : ¬ (2 : Int32) = 3), if_neg (by decide : ¬ (2 : Int32) = 7)], _, hb, hF⟩
  · have h0 : ar 0 j = 3 := h
    refine ⟨by simp only [mFee, h0, vFee, if_pos], (G / 50 + 1) / 2, by omega, ?_⟩
    show (nI G / 50 + 1) / 2 = _
    rw [hF, show (2 : Int32) = nI 2 from rfl, pk_div (by omega) (by decide) (by decide)]
  · have h0 : ar 0 j = 4 := h
    exact ⟨by simp only [mFee, h0, vFee, if_neg (by decide : ¬ (4 : Int32) = 3), if_neg (by decide : ¬ (4 : Int32) = 7)], _, hb, hF⟩
  · have h0 : ar 0 j = 5 := h
    exact ⟨by simp only [mFee, h0, vFee, if_neg (by decide : ¬ (5 : Int32) = 3), if_neg (by decide : ¬ (5 : Int32) = 7)], _, hb, hF⟩
  · have h0 : ar 0 j = 6 := h
    exact ⟨by simp only [mFee, h0, vFee, if_neg (by decide : ¬ (6 : Int32) = 3), if_neg (by decide : ¬ (6 : Int32) = 7)], _, hb, hF⟩
  · have h0 : ar 0 j = 7 := h
    simp only [mFee, h0, vFee, if_neg (by decide : ¬ (7 : Int32) = 3), if_pos, hF, e4]
    rcases Nat.lt_or_ge P (G / 50 + 1) with q | q
    · have c1 : ¬ nI (G / 50 + 1) ≤ nI P := nI_ge q (by omega)
      have e : nI (G / 50 + 1) - nI P = nI (G / 50 + 1 - P) := pk_sub (by omega)
      have c2 : (0 : Int32) < nI (G / 50 + 1) - nI P := by rw [e]; exact nI_lt (a := 0) (by omega) (by omega)
      rw [if_neg c1, if_pos c2]
      exact ⟨rfl, _, by omega, e⟩
    · have c1 : nI (G / 50 + 1) ≤ nI P := nI_le q (by omega)
      have c2 : ¬ (0 : Int32) < nI (G / 50 + 1) - nI P := by
        rcases Nat.eq_or_lt_of_le q with z | z
        · rw [z, Int32.sub_self]; decide
        · exact fun w => absurd (pk_sneg (by omega) z) (fun y => absurd (Int32.lt_trans w y) (by decide))
      rw [if_pos c1, if_neg c2]
      exact ⟨rfl, 0, by omega, rfl⟩
