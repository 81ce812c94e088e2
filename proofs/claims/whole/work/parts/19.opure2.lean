theorem sum_yes {ar : Nat → Nat → Int32} {f : Nat → Int32} {i n : Nat} (hi : i < n) (h6 : ar 6 i = 0) : mSum ar f (min (i + 1) n) = mSum ar f (min i n) + f i := by
  rw [show min (i + 1) n = i + 1 by omega, show min i n = i by omega, mSum, if_pos h6]
theorem sum_no {ar : Nat → Nat → Int32} {f : Nat → Int32} {i n : Nat} (h : ¬ (i < n ∧ ar 6 i = 0)) : mSum ar f (min (i + 1) n) = mSum ar f (min i n) := by
  rcases Nat.lt_or_ge i n with q | q
  · rw [show min (i + 1) n = i + 1 by omega, show min i n = i by omega, mSum, if_neg (fun z => h ⟨q, z⟩), Int32.add_zero]
  · rw [show min (i + 1) n = n by omega, show min i n = n by omega]
theorem the_back {sc : Nat → Int32} {ar : Nat → Nat → Int32} {i n : Nat} (hn : sc 1 = nI n) (h40 : n ≤ 40) (h : mThe sc ar (nI i) = 0) : ¬ (i < n ∧ ar 6 i = 0) := fun z => the_nI hn h40 z.1 z.2 h
theorem mLap_key (ar : Nat → Nat → Int32) (day : Int32) (i : Nat) : (∀ j, j ≠ 2 → (mLap ar day i).2 j = ar j) ∧ ∀ k, (mLap ar day i).2 2 k = ar 2 k ∨ (mLap ar day i).2 2 k = 0 := by
  induction i with
  | zero => exact ⟨fun j _ => rfl, fun k => Or.inl rfl⟩
  | succ i ih =>
    simp only [mLap]
    by_cases h1 : ar 6 i = 0
    · by_cases h2 : mDat ar i = 0
      · simp only [if_pos h1, if_pos h2]; exact ih
      · by_cases h3 : mLast ar i < day
        · simp only [if_pos h1, if_neg h2, if_pos h3]
          refine ⟨fun j hj => ?_, fun k => ?_⟩
          · rw [← ih.1 j hj]
            simp only [mSet, va_up, if_neg hj]
          · by_cases hk : k = i
            · subst hk
              exact Or.inr (mS_at _ _ _ _)
            · rw [mS_i _ _ _ _ _ _ hk]
              exact ih.2 k
        · simp only [if_pos h1, if_neg h2, if_neg h3]; exact ih
    · simp only [if_neg h1]; exact ih
theorem mLap_inv {ar : Nat → Nat → Int32} {day : Int32} {i v k : Nat} (h : vInv ar v k) : vInv (mLap ar day i).2 v k := by
  obtain ⟨hk, h0, L, P, M, S, e2, e4, e1, e5, hs, hM, hS, h6⟩ := h
  obtain ⟨g, g2⟩ := mLap_key ar day i
  rcases g2 v with q | q
  · exact ⟨hk, by rw [g 0 (by decide)]; exact h0, L, P, M, S, q.trans e2, by rw [g 4 (by decide)]; exact e4, by rw [g 1 (by decide)]; exact e1, by rw [g 5 (by decide)]; exact e5, hs, hM, hS, h6⟩
  · exact ⟨hk, by rw [g 0 (by decide)]; exact h0, 0, P, M, S, q, by rw [g 4 (by decide)]; exact e4, by rw [g 1 (by decide)]; exact e1, by rw [g 5 (by decide)]; exact e5, by omega, hM, hS, h6⟩
theorem vLR_no {k : Nat} {fr le day : Int32} (h : ¬ (k = 2 ∨ k = 3)) : vLR k fr le day = 0 := by
  unfold vLR
  split <;> simp_all
theorem vLL_no {k : Nat} {fr le day : Int32} (h : ¬ (k = 2 ∨ k = 3)) : vLL k fr le day = le := by
  unfold vLL
  split <;> simp_all
theorem vLR_is {k : Nat} {fr le day : Int32} (h : k = 2 ∨ k = 3) : vLR k fr le day = if vLast k fr < day then le else 0 := by
  rcases h with rfl | rfl <;> rfl
theorem vLL_is {k : Nat} {fr le day : Int32} (h : k = 2 ∨ k = 3) : vLL k fr le day = if vLast k fr < day then 0 else le := by
  rcases h with rfl | rfl <;> rfl
/-- one voucher's lapse, on both sides -/
theorem lap_yes {ar B : Nat → Nat → Int32} {day x : Int32} {i k : Nat} (hB : mLap ar day i = (x, B)) (h6 : ar 6 i = 0) (hv : vInv B i k) :
    (mLap ar day (i + 1)).1 = x + vLR k (B 3 i) (B 2 i) day ∧ vo_E k (B 0 i) (B 3 i) (B 1 i) (vLL k (B 3 i) (B 2 i) day) (B 4 i) (B 5 i - 1) = ofE (mLap ar day (i + 1)).2 i ∧ (∀ v, (mLap ar day (i + 1)).2 6 v = B 6 v) ∧ (∀ v, v ≠ i → ofE (mLap ar day (i + 1)).2 v = ofE B v) := by
  obtain ⟨g0, g1, g2, g3⟩ := mLap_rest ar day i
  have ed := mLap_dat ar day i i
  have el := mLap_last ar day i i
  rw [hB] at g0 g1 g2 g3 ed el
  have hk0 : mI (B 0 i) = k := by rw [hv.2.1]; exact nI_clamp (by have := hv.1; omega)
  have same : vo_E k (B 0 i) (B 3 i) (B 1 i) (B 2 i) (B 4 i) (B 5 i - 1) = ofE B i := by rw [ofE, hk0]
  rcases dat_eq hv.1 hv.2.1 with ⟨k23, d0, dl⟩ | ⟨k23, d0⟩
  · have d0' : ¬ mDat ar i = 0 := by rw [← ed]; exact d0
    have dl' : mLast ar i = vLast k (B 3 i) := by rw [← el]; exact dl
    rw [vLR_is k23, vLL_is k23]
    by_cases c : vLast k (B 3 i) < day
    · have e : mLap ar day (i + 1) = (x + ar 2 i, mSet B 2 i 0) := by
        simp only [mLap, hB, if_pos h6, if_neg d0', dl', if_pos c]
      rw [e, if_pos c, if_pos c, show ar 2 i = B 2 i from g1.symm]
      refine ⟨rfl, ?_, fun v => mS_j B 2 i 6 v 0 (by decide), fun v hv' => ofE_S _ _ _ _ _ hv'⟩
      simp only [ofE, mS_at, mS_j _ _ _ _ _ _ (by decide : (0 : Nat) ≠ 2), mS_j _ _ _ _ _ _ (by decide : (1 : Nat) ≠ 2), mS_j _ _ _ _ _ _ (by decide : (3 : Nat) ≠ 2), mS_j _ _ _ _ _ _ (by decide : (4 : Nat) ≠ 2), mS_j _ _ _ _ _ _ (by decide : (5 : Nat) ≠ 2), hk0]
    · have e : mLap ar day (i + 1) = (x, B) := by
        simp only [mLap, hB, if_pos h6, if_neg d0', dl', if_neg c]
      rw [e, if_neg c, if_neg c, Int32.add_zero]
      exact ⟨rfl, same, fun v => rfl, fun v _ => rfl⟩
  · have d0' : mDat ar i = 0 := by rw [← ed]; exact d0
    have e : mLap ar day (i + 1) = (x, B) := by
      simp only [mLap, hB, if_pos h6, if_pos d0']
    rw [e, vLR_no k23, vLL_no k23, Int32.add_zero]
    exact ⟨rfl, same, fun v => rfl, fun v _ => rfl⟩
theorem lap_no {ar : Nat → Nat → Int32} {day : Int32} {i n : Nat} (h : ¬ (i < n ∧ ar 6 i = 0)) : mLap ar day (min (i + 1) n) = mLap ar day (min i n) := by
  rcases Nat.lt_or_ge i n with q | q
  · rw [show min (i + 1) n = i + 1 by omega, show min i n = i by omega, mLap, if_neg (fun z => h ⟨q, z⟩)]
  · rw [show min (i + 1) n = n by omega, show min i n = n by omega]
theorem sp_lt {a b : Nat} (ha : a ≤ 20001) (hb : b ≤ 20001) : nI a - 1 < nI b - 1 ↔ a < b := by
  rw [Int32.lt_iff_toInt_lt, show (1 : Int32) = nI 1 from rfl, pk_sub_toInt (by omega) (by decide), pk_sub_toInt (by omega) (by decide)]
  omega
/-- merge, on both sides: the taker's cell -/
theorem mg_eq {ar : Nat → Nat → Int32} {j i k : Nat} (hji : i ≠ j) (hv : vInv ar j k) (hi : vInv ar i k) :
    vo_E k (ar 0 j) (ar 3 j) (ar 1 j + ar 1 i) (ar 2 j + ar 2 i) (vTP k (ar 4 j) k (ar 4 i)) (vTS k (ar 5 j - 1) k (ar 5 i - 1)) = ofE (mSet (mSet (mSet (mSet ar 1 j (ar 1 j + ar 1 i)) 2 j (ar 2 j + ar 2 i)) 4 j (ar 4 j + ar 4 i)) 5 j (if ar 5 i ≤ ar 5 j then ar 5 j else ar 5 i)) j := by
  obtain ⟨hk, h0, L, P, M, S, e2, e4, e1, e5, hs, hM, hS, h6⟩ := id hv
  obtain ⟨-, -, L', P', M', S', e2', e4', e1', e5', hs', hM', hS', h6'⟩ := id hi
  have hk0 : mI (ar 0 j) = k := by rw [h0]; exact nI_clamp (by omega)
  have e : ofE (mSet (mSet (mSet (mSet ar 1 j (ar 1 j + ar 1 i)) 2 j (ar 2 j + ar 2 i)) 4 j (ar 4 j + ar 4 i)) 5 j (if ar 5 i ≤ ar 5 j then ar 5 j else ar 5 i)) j = vo_E k (ar 0 j) (ar 3 j) (ar 1 j + ar 1 i) (ar 2 j + ar 2 i) (ar 4 j + ar 4 i) ((if ar 5 i ≤ ar 5 j then ar 5 j else ar 5 i) - 1) := by
    simp only [ofE, mS_at, mS_j _ _ _ _ _ _ (by decide : (0 : Nat) ≠ 5), mS_j _ _ _ _ _ _ (by decide : (1 : Nat) ≠ 5), mS_j _ _ _ _ _ _ (by decide : (2 : Nat) ≠ 5), mS_j _ _ _ _ _ _ (by decide : (3 : Nat) ≠ 5), mS_j _ _ _ _ _ _ (by decide : (4 : Nat) ≠ 5), mS_j _ _ _ _ _ _ (by decide : (0 : Nat) ≠ 4), mS_j _ _ _ _ _ _ (by decide : (1 : Nat) ≠ 4), mS_j _ _ _ _ _ _ (by decide : (2 : Nat) ≠ 4), mS_j _ _ _ _ _ _ (by decide : (3 : Nat) ≠ 4), mS_j _ _ _ _ _ _ (by decide : (0 : Nat) ≠ 2), mS_j _ _ _ _ _ _ (by decide : (1 : Nat) ≠ 2), mS_j _ _ _ _ _ _ (by decide : (3 : Nat) ≠ 2), mS_j _ _ _ _ _ _ (by decide : (0 : Nat) ≠ 1), mS_j _ _ _ _ _ _ (by decide : (3 : Nat) ≠ 1), hk0]
  rw [e]
  by_cases k3 : k = 3
  · subst k3
    have eS : vTS 3 (ar 5 j - 1) 3 (ar 5 i - 1) = (if ar 5 i ≤ ar 5 j then ar 5 j else ar 5 i) - 1 := by
      show (if ar 5 j - 1 < ar 5 i - 1 then ar 5 i - 1 else ar 5 j - 1) = _
      rw [e5, e5']
      rcases Nat.lt_or_ge S S' with q | q
      · rw [if_pos ((sp_lt hS hS').mpr q), if_neg (nI_ge q (by omega))]
      · rw [if_neg (fun z => absurd ((sp_lt hS hS').mp z) (by omega)), if_pos (nI_le q (by omega))]
    rw [eS]
    exact vo_po (by decide) _ _ _ _ _ _ _
  · rw [vo_ls k3 _ _ _ _ _ (vTS k (ar 5 j - 1) k (ar 5 i - 1)) ((if ar 5 i ≤ ar 5 j then ar 5 j else ar 5 i) - 1)]
    rcases Nat.lt_or_ge k 6 with q | q
    · exact vo_po q _ _ _ _ _ _ _
    · have eP : vTP k (ar 4 j) k (ar 4 i) = ar 4 j + ar 4 i := by
        rcases (by omega : k = 6 ∨ k = 7) with rfl | rfl <;> rfl
      rw [eP]
/-! what every call keeps -/
theorem inv_pass {sc : Nat → Int32} {ar : Nat → Nat → Int32} {n : Nat} (h : mInv sc ar n) (dd : Int32) : mInv (mPass sc ar dd).2.1 (mPass sc ar dd).2.2 n := by
  unfold mPass
  by_cases c1 : mWin dd 1 1000 = 0
  · rw [if_pos c1]; exact h
  · rw [if_neg c1]
    by_cases c2 : sc 0 + dd ≤ 20000
    · rw [if_pos c2]
      obtain ⟨hn, h40, ⟨d0, e0, hd0⟩, hv, ho⟩ := h
      obtain ⟨w1, w2⟩ := win_ii c1
      obtain ⟨G, g1, g2, eG⟩ := g_nat (hi := 1000) (by decide) w1 w2
      refine ⟨hn, h40, ⟨d0 + G, ?_, ?_⟩, hv, ho⟩
      · show sc 0 + dd = _
        rw [e0, eG, nI_add]
      · rw [e0, eG, nI_add] at c2
        exact (nI_leI (b := 20000) (by omega) (by decide)).mp c2
    · rw [if_neg c2]; exact h
theorem inv_issue {sc : Nat → Int32} {ar : Nat → Nat → Int32} {n : Nat} (h : mInv sc ar n) (k am : Int32) : ∃ n', mInv (mIssue sc ar k am).2.1 (mIssue sc ar k am).2.2 n' := by
  unfold mIssue
  by_cases c1 : mWin k 0 7 = 0
  · rw [if_pos c1]; exact ⟨n, h⟩
  · rw [if_neg c1]
    by_cases c2 : mWin am 1 100000 = 0
    · rw [if_pos c2]; exact ⟨n, h⟩
    · rw [if_neg c2]
      by_cases c3 : sc 1 = 40
      · rw [if_pos c3]; exact ⟨n, h⟩
      · rw [if_neg c3]
        obtain ⟨hn, h40, ⟨d0, e0, hd0⟩, hv, ho⟩ := h
        have hn40 : n < 40 := by
          rcases Nat.lt_or_ge n 40 with q | q
          · exact q
          · exact absurd (by rw [hn, show n = 40 by omega]; rfl) c3
        have em : mI (sc 1) = n := by rw [hn]; exact nI_clamp (by omega)
        obtain ⟨w1, w2⟩ := win_ii c1
        obtain ⟨K, hK, eK⟩ := nI_of w1
        have hK7 : K ≤ 7 := by
          rcases Nat.lt_or_ge 7 K with q | q
          · rw [eK] at w2; exact absurd (nI_lt q hK) w2
          · exact q
        obtain ⟨w3, w4⟩ := win_ii c2
        obtain ⟨G, g1, g2, eG⟩ := g_nat (hi := 100000) (by decide) w3 w4
        rw [em]
        dsimp only
        refine ⟨n + 1, ?_, by omega, ⟨d0, e0, hd0⟩, fun v hvn => ?_, fun v hvn => ?_⟩
        · show sc 1 + 1 = _
          rw [hn, nI_1]
        · by_cases hvv : v = n
          · subst hvv
            obtain ⟨o4, o5, o6⟩ := ho v (Nat.le_refl v)
            refine ⟨K, hK7, ?_, G, 0, G, 0, ?_, ?_, ?_, ?_, by omega, g2, by omega, fun _ => rfl⟩
            · rw [mS_j _ _ _ _ _ _ (by decide : (0 : Nat) ≠ 3), mS_j _ _ _ _ _ _ (by decide : (0 : Nat) ≠ 2), mS_j _ _ _ _ _ _ (by decide : (0 : Nat) ≠ 1), mS_at]; exact eK
            · rw [mS_j _ _ _ _ _ _ (by decide : (2 : Nat) ≠ 3), mS_at]; exact eG
            · rw [mS_j _ _ _ _ _ _ (by decide : (4 : Nat) ≠ 3), mS_j _ _ _ _ _ _ (by decide : (4 : Nat) ≠ 2), mS_j _ _ _ _ _ _ (by decide : (4 : Nat) ≠ 1), mS_j _ _ _ _ _ _ (by decide : (4 : Nat) ≠ 0)]; exact o4
            · rw [mS_j _ _ _ _ _ _ (by decide : (1 : Nat) ≠ 3), mS_j _ _ _ _ _ _ (by decide : (1 : Nat) ≠ 2), mS_at]; exact eG
            · rw [mS_j _ _ _ _ _ _ (by decide : (5 : Nat) ≠ 3), mS_j _ _ _ _ _ _ (by decide : (5 : Nat) ≠ 2), mS_j _ _ _ _ _ _ (by decide : (5 : Nat) ≠ 1), mS_j _ _ _ _ _ _ (by decide : (5 : Nat) ≠ 0)]; exact o5
          · obtain ⟨k0, hk0⟩ := hv v (by omega)
            refine ⟨k0, ?_⟩
            unfold vInv at hk0 ⊢
            simp only [mS_i _ _ _ _ _ _ hvv]
            exact hk0
        · obtain ⟨o4, o5, o6⟩ := ho v (by omega)
          have hvv : v ≠ n := by omega
          simp only [mS_i _ _ _ _ _ _ hvv]
          exact ⟨o4, o5, o6⟩
theorem inv_lapse {sc : Nat → Int32} {ar : Nat → Nat → Int32} {n : Nat} (h : mInv sc ar n) : mInv (mLapse sc ar).2.1 (mLapse sc ar).2.2 n := by
  obtain ⟨hn, h40, hd, hv, ho⟩ := h
  obtain ⟨g, -⟩ := mLap_key ar (sc 0) (mI (sc 1))
  refine ⟨hn, h40, hd, fun v hvn => ?_, fun v hvn => ?_⟩
  · obtain ⟨k, hk⟩ := hv v hvn
    exact ⟨k, mLap_inv hk⟩
  · show (mLap ar (sc 0) (mI (sc 1))).2 4 v = 0 ∧ (mLap ar (sc 0) (mI (sc 1))).2 5 v = 0 ∧ (mLap ar (sc 0) (mI (sc 1))).2 6 v = 0
    rw [g 4 (by decide), g 5 (by decide), g 6 (by decide)]
    exact ho v hvn
theorem inv_spend {sc : Nat → Int32} {ar : Nat → Nat → Int32} {n : Nat} (h : mInv sc ar n) (v g : Int32) : mInv (mSpend sc ar v g).2.1 (mSpend sc ar v g).2.2 n := by
  unfold mSpend
  by_cases c1 : mThe sc ar v = 0
  · rw [if_pos c1]; exact h
  rw [if_neg c1]
  by_cases c2 : mWin g 1 100000 = 0
  · rw [if_pos c2]; exact h
  rw [if_neg c2]
  by_cases c3 : ar 0 (mI v) = 3 ∧ ar 5 (mI v) = sc 0 + 1
  · rw [if_pos c3]; exact h
  rw [if_neg c3]
  by_cases c4 : mVal ar (mI v) (sc 0) < g
  · rw [if_pos c4]; exact h
  rw [if_neg c4]
  by_cases c5 : g + mFee ar (mI v) g ≤ ar 2 (mI v)
  · rw [if_pos c5]
    obtain ⟨hn, h40, ⟨d0, e0, hd0⟩, hv, ho⟩ := h
    obtain ⟨j, hj, ev, h6⟩ := the_in hn h40 c1
    have em : mI v = j := by rw [ev]; exact nI_clamp (by omega)
    rw [em] at c5 ⊢
    dsimp only
    obtain ⟨k, hk⟩ := hv j hj
    obtain ⟨ef, G, F, hG1, hG2, eg, hF, eF⟩ := fee_w hk c2
    obtain ⟨hk7, h0, L, P, M, S, e2, e4, e1, e5, hs, hM, hS, hp6⟩ := id hk
    rw [ef, eF, eg, e2, nI_add] at c5
    have hle : G + F ≤ L := (nI_leI (by omega) (by omega)).mp c5
    have eL : ar 2 j - (g + mFee ar j g) = nI (L - (G + F)) := by rw [ef, eF, eg, e2, nI_add, pk_sub hle]
    have eS : sc 0 + 1 = nI (d0 + 1) := by rw [e0, nI_1]
    refine ⟨hn, h40, ⟨d0, e0, hd0⟩, fun w hw => ?_, fun w hw => ?_⟩
    · by_cases hwj : w = j
      · subst hwj
        refine ⟨k, hk7, ?_⟩
        rcases has_eq hk7 h0 with ⟨k6, hh⟩ | ⟨k6, hh⟩
        · simp only [if_pos hh]
          refine ⟨?_, L - (G + F), P, M, d0 + 1, ?_, ?_, ?_, ?_, by omega, hM, by omega, hp6⟩
          · rw [mS_j _ _ _ _ _ _ (by decide : (0 : Nat) ≠ 5), mS_j _ _ _ _ _ _ (by decide : (0 : Nat) ≠ 2)]; exact h0
          · rw [mS_j _ _ _ _ _ _ (by decide : (2 : Nat) ≠ 5), mS_at]; exact eL
          · rw [mS_j _ _ _ _ _ _ (by decide : (4 : Nat) ≠ 5), mS_j _ _ _ _ _ _ (by decide : (4 : Nat) ≠ 2)]; exact e4
          · rw [mS_j _ _ _ _ _ _ (by decide : (1 : Nat) ≠ 5), mS_j _ _ _ _ _ _ (by decide : (1 : Nat) ≠ 2)]; exact e1
          · rw [mS_at]; exact eS
        · simp only [if_neg hh]
          refine ⟨?_, L - (G + F), P + G / 100, M, d0 + 1, ?_, ?_, ?_, ?_, by omega, hM, by omega, fun q => absurd q (by omega)⟩
          · rw [mS_j _ _ _ _ _ _ (by decide : (0 : Nat) ≠ 4), mS_j _ _ _ _ _ _ (by decide : (0 : Nat) ≠ 5), mS_j _ _ _ _ _ _ (by decide : (0 : Nat) ≠ 2)]; exact h0
          · rw [mS_j _ _ _ _ _ _ (by decide : (2 : Nat) ≠ 4), mS_j _ _ _ _ _ _ (by decide : (2 : Nat) ≠ 5), mS_at]; exact eL
          · rw [mS_at, e4, eg, show (100 : Int32) = nI 100 from rfl, pk_div (by omega) (by decide) (by decide), nI_add]
          · rw [mS_j _ _ _ _ _ _ (by decide : (1 : Nat) ≠ 4), mS_j _ _ _ _ _ _ (by decide : (1 : Nat) ≠ 5), mS_j _ _ _ _ _ _ (by decide : (1 : Nat) ≠ 2)]; exact e1
          · rw [mS_j _ _ _ _ _ _ (by decide : (5 : Nat) ≠ 4), mS_at]; exact eS
      · obtain ⟨k0, hk0⟩ := hv w hw
        refine ⟨k0, ?_⟩
        unfold vInv at hk0 ⊢
        by_cases hh : mHas ar j = 0
        · simp only [if_pos hh, mS_i _ _ _ _ _ _ hwj]; exact hk0
        · simp only [if_neg hh, mS_i _ _ _ _ _ _ hwj]; exact hk0
    · have hwj : w ≠ j := by omega
      by_cases hh : mHas ar j = 0
      · simp only [if_pos hh, mS_i _ _ _ _ _ _ hwj]; exact ho w hw
      · simp only [if_neg hh, mS_i _ _ _ _ _ _ hwj]; exact ho w hw
  · rw [if_neg c5]; exact h
theorem inv_merge {sc : Nat → Int32} {ar : Nat → Nat → Int32} {n : Nat} (h : mInv sc ar n) (v v2 : Int32) : mInv (mMerge sc ar v v2).2.1 (mMerge sc ar v v2).2.2 n := by
  unfold mMerge
  by_cases c1 : mThe sc ar v = 0
  · rw [if_pos c1]; exact h
  rw [if_neg c1]
  by_cases c2 : mThe sc ar v2 = 0
  · rw [if_pos c2]; exact h
  rw [if_neg c2]
  by_cases c3 : v = v2
  · rw [if_pos c3]; exact h
  rw [if_neg c3]
  by_cases c4 : ar 0 (mI v) = ar 0 (mI v2)
  · rw [if_pos c4]
    by_cases c5 : ar 1 (mI v) + ar 1 (mI v2) ≤ 100000
    · rw [if_pos c5]
      obtain ⟨hn, h40, hd, hv, ho⟩ := h
      obtain ⟨j, hj, ev, h6⟩ := the_in hn h40 c1
      obtain ⟨i, hi, ei, h6i⟩ := the_in hn h40 c2
      have em : mI v = j := by rw [ev]; exact nI_clamp (by omega)
      have em2 : mI v2 = i := by rw [ei]; exact nI_clamp (by omega)
      rw [em, em2] at c4 c5 ⊢
      dsimp only
      have hij : j ≠ i := fun z => c3 (by rw [ev, ei, z])
      obtain ⟨k, hk⟩ := hv j hj
      obtain ⟨k', hk'⟩ := hv i hi
      obtain ⟨hk7, h0, L, P, M, S, e2, e4, e1, e5, hs, hM, hS, hp6⟩ := id hk
      obtain ⟨hk7', h0', L', P', M', S', e2', e4', e1', e5', hs', hM', hS', hp6'⟩ := id hk'
      have ekk : k = k' := (nI_eq (by omega) (by omega)).mp (by rw [← h0, ← h0']; exact c4)
      have hMM : M + M' ≤ 100000 := by
        rw [e1, e1', nI_add] at c5
        exact (nI_leI (b := 100000) (by omega) (by decide)).mp c5
      refine ⟨hn, h40, hd, fun w hw => ?_, fun w hw => ?_⟩
      · by_cases hwj : w = j
        · subst hwj
          refine ⟨k, hk7, ?_, L + L', P + P', M + M', if S' ≤ S then S else S', ?_, ?_, ?_, ?_, by omega, hMM, by split <;> assumption, fun q => by rw [hp6 q, hp6' (by omega)]⟩
          · rw [mS_j _ _ _ _ _ _ (by decide : (0 : Nat) ≠ 6), mS_j _ _ _ _ _ _ (by decide : (0 : Nat) ≠ 5), mS_j _ _ _ _ _ _ (by decide : (0 : Nat) ≠ 4), mS_j _ _ _ _ _ _ (by decide : (0 : Nat) ≠ 2), mS_j _ _ _ _ _ _ (by decide : (0 : Nat) ≠ 1)]; exact h0
          · rw [mS_j _ _ _ _ _ _ (by decide : (2 : Nat) ≠ 6), mS_j _ _ _ _ _ _ (by decide : (2 : Nat) ≠ 5), mS_j _ _ _ _ _ _ (by decide : (2 : Nat) ≠ 4), mS_at, e2, e2', nI_add]
          · rw [mS_j _ _ _ _ _ _ (by decide : (4 : Nat) ≠ 6), mS_j _ _ _ _ _ _ (by decide : (4 : Nat) ≠ 5), mS_at, e4, e4', nI_add]
          · rw [mS_j _ _ _ _ _ _ (by decide : (1 : Nat) ≠ 6), mS_j _ _ _ _ _ _ (by decide : (1 : Nat) ≠ 5), mS_j _ _ _ _ _ _ (by decide : (1 : Nat) ≠ 4), mS_j _ _ _ _ _ _ (by decide : (1 : Nat) ≠ 2), mS_at, e1, e1', nI_add]
          · rw [mS_j _ _ _ _ _ _ (by decide : (5 : Nat) ≠ 6), mS_at, e5, e5']
            by_cases q : S' ≤ S
            · rw [if_pos (nI_le q (by omega)), if_pos q]
            · rw [if_neg (nI_ge (by omega) (by omega)), if_neg q]
        · obtain ⟨k0, hk0⟩ := hv w hw
          refine ⟨k0, ?_⟩
          unfold vInv at hk0 ⊢
          simp only [mS_j _ _ _ _ _ _ (by decide : (0 : Nat) ≠ 6), mS_j _ _ _ _ _ _ (by decide : (1 : Nat) ≠ 6), mS_j _ _ _ _ _ _ (by decide : (2 : Nat) ≠ 6), mS_j _ _ _ _ _ _ (by decide : (4 : Nat) ≠ 6), mS_j _ _ _ _ _ _ (by decide : (5 : Nat) ≠ 6), mS_i _ _ _ _ _ _ hwj]
          exact hk0
      · have hwj : w ≠ j := by omega
        have hwi : w ≠ i := by omega
        simp only [mS_i _ _ _ _ _ _ hwi, mS_i _ _ _ _ _ _ hwj]
        exact ho w hw
    · rw [if_neg c5]; exact h
  · rw [if_neg c4]; exact h
