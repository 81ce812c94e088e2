def mOut (v lo hi : Int32) : Int32 := if mWin v lo hi = 0 then 1 else 0
theorem out_0 {v lo hi : Int32} (h : mOut v lo hi = 0) : ¬ mWin v lo hi = 0 := fun z => by
  rw [mOut, if_pos z] at h
  exact absurd h (by decide)
theorem out_1 {v lo hi : Int32} (h : ¬ mOut v lo hi = 0) : mWin v lo hi = 0 := by
  by_cases z : mWin v lo hi = 0
  · exact z
  · exact absurd (if_neg z) h
theorem win_nI {j hi : Nat} (h : hi < 2 ^ 31) (hj : j ≤ hi) : ¬ mWin (nI j) 0 (nI hi) = 0 := by
  rw [mWin, if_neg (nI_pos (by omega)), if_neg (nI_nlt hj h)]
  decide
theorem the_nI {sc : Nat → Int32} {ar : Nat → Nat → Int32} {j n : Nat} (hn : sc 1 = nI n) (h40 : n ≤ 40) (hj : j < n) (h6 : ar 6 j = 0) : ¬ mThe sc ar (nI j) = 0 := by
  obtain ⟨m, rfl⟩ : ∃ m, n = m + 1 := ⟨n - 1, by omega⟩
  rw [mThe, hn, nI_pred, if_neg (win_nI (by omega) (by omega)), show mI (nI j) = j from nI_clamp (by omega), if_pos h6]
  decide
theorem the_no {sc : Nat → Int32} {ar : Nat → Nat → Int32} {j n : Nat} (hn : sc 1 = nI n) (h40 : n ≤ 40) (hj : j < 2 ^ 31) (h : ¬ (j < n ∧ ar 6 j = 0)) : mThe sc ar (nI j) = 0 := by
  by_cases z : mThe sc ar (nI j) = 0
  · exact z
  · obtain ⟨i, hi, e, h6⟩ := the_in hn h40 z
    have : j = i := (nI_eq hj (by omega)).mp e
    subst this
    exact absurd ⟨hi, h6⟩ h
theorem the_out {sc : Nat → Int32} {ar : Nat → Nat → Int32} {v : Int32} {n : Nat} (hn : sc 1 = nI n) (h40 : n ≤ 40) (h : mWin v 0 39 = 0) : mThe sc ar v = 0 := by
  by_cases z : mThe sc ar v = 0
  · exact z
  · obtain ⟨i, hi, rfl, h6⟩ := the_in hn h40 z
    exact absurd h (win_nI (hi := 39) (by decide) (by omega))
theorem in_40 {v : Int32} (h : ¬ mWin v 0 39 = 0) : ∃ j : Nat, j < 40 ∧ v = nI j := by
  obtain ⟨h1, h2⟩ := win_ii h
  obtain ⟨j, hj, rfl⟩ := nI_of h1
  refine ⟨j, ?_, rfl⟩
  rcases Nat.lt_or_ge 39 j with q | q
  · exact absurd (nI_lt q hj) h2
  · omega
theorem fee_w {ar : Nat → Nat → Int32} {j k : Nat} {g : Int32} (hv : vInv ar j k) (hw : ¬ mWin g 1 100000 = 0) : mFee ar j g = vFee k (ar 4 j) g ∧ ∃ G F : Nat, 1 ≤ G ∧ G ≤ 100000 ∧ g = nI G ∧ F ≤ 2001 ∧ vFee k (ar 4 j) g = nI F := by
  obtain ⟨h1, h2⟩ := win_ii hw
  obtain ⟨G, g1, g2, rfl⟩ := g_nat (hi := 100000) (by decide) h1 h2
  obtain ⟨e1, F, f1, f2⟩ := fee_eq hv g2
  exact ⟨e1, G, F, g1, g2, rfl, f1, f2⟩
theorem mS_at (ar : Nat → Nat → Int32) (j i : Nat) (x : Int32) : mSet ar j i x j i = x := by simp [mSet, va_up, upd]
theorem mS_i (ar : Nat → Nat → Int32) (j i j' i' : Nat) (x : Int32) (h : i' ≠ i) : mSet ar j i x j' i' = ar j' i' := by
  by_cases hj : j' = j
  · subst hj; simp [mSet, va_up, upd, h]
  · simp [mSet, va_up, hj]
theorem mS_j (ar : Nat → Nat → Int32) (j i j' i' : Nat) (x : Int32) (h : j' ≠ j) : mSet ar j i x j' i' = ar j' i' := by simp [mSet, va_up, h]
theorem ofE_S (ar : Nat → Nat → Int32) (j i v : Nat) (x : Int32) (h : v ≠ i) : ofE (mSet ar j i x) v = ofE ar v := by
  simp only [ofE, mS_i _ _ _ _ _ _ h]
theorem ofE_6 (ar : Nat → Nat → Int32) (i v : Nat) (x : Int32) : ofE (mSet ar 6 i x) v = ofE ar v := by
  simp only [ofE, mS_j _ _ _ _ _ _ (by decide : (0 : Nat) ≠ 6), mS_j _ _ _ _ _ _ (by decide : (1 : Nat) ≠ 6), mS_j _ _ _ _ _ _ (by decide : (2 : Nat) ≠ 6), mS_j _ _ _ _ _ _ (by decide : (3 : Nat) ≠ 6), mS_j _ _ _ _ _ _ (by decide : (4 : Nat) ≠ 6), mS_j _ _ _ _ _ _ (by decide : (5 : Nat) ≠ 6)]
/-- of another kind than 3 the last number isn't held -/
theorem vo_ls {k : Nat} (hk : k ≠ 3) (kd fr am le po ls ls' : Int32) : vo_E k kd fr am le po ls = vo_E k kd fr am le po ls' := by
  match k, hk with
  | 0, _ => rfl
  | 1, _ => rfl
  | 2, _ => rfl
  | 3, hk => exact absurd rfl hk
  | 4, _ => rfl
  | 5, _ => rfl
  | 6, _ => rfl
  | n + 7, _ => rfl
theorem vo_po {k : Nat} (hk : k < 6) (kd fr am le po po' ls : Int32) : vo_E k kd fr am le po ls = vo_E k kd fr am le po' ls := by
  rcases (by omega : k = 0 ∨ k = 1 ∨ k = 2 ∨ k = 3 ∨ k = 4 ∨ k = 5) with rfl | rfl | rfl | rfl | rfl | rfl <;> rfl
theorem vSR_n {k : Nat} (h : k ≠ 3) (fr le po ls day g : Int32) : vSR k fr le po ls day g = vSp k fr le po day g := by
  unfold vSR; split
  · exact absurd rfl h
  · rfl
theorem vSL_n {k : Nat} (h : k ≠ 3) (fr le po ls day g : Int32) : vSL k fr le po ls day g = vSpL k fr le po day g := by
  unfold vSL; split
  · exact absurd rfl h
  · rfl
theorem vSP_lo {k : Nat} (h : k < 6) (fr le po day g : Int32) : vSP k fr le po day g = po := by
  rcases (by omega : k = 0 ∨ k = 1 ∨ k = 2 ∨ k = 3 ∨ k = 4 ∨ k = 5) with rfl | rfl | rfl | rfl | rfl | rfl <;> rfl
theorem vSP_hi {k : Nat} (hk : k ≤ 7) (h : 6 ≤ k) (fr le po day g : Int32) : vSP k fr le po day g = if vSp k fr le po day g < 0 then po else po + g / 100 := by
  rcases (by omega : k = 6 ∨ k = 7) with rfl | rfl <;> rfl
theorem i_1 (a b : Int32) : a - 1 = b ↔ a = b + 1 := Int32.sub_eq_iff_eq_add
/-- spend, on both sides -/
theorem sp_cases {sc : Nat → Int32} {ar : Nat → Nat → Int32} {j k : Nat} {v g : Int32} (hv : vInv ar j k) (em : mI v = j) (hz : ¬ mThe sc ar v = 0) (hw : ¬ mWin g 1 100000 = 0) :
    (vSR k (ar 3 j) (ar 2 j) (ar 4 j) (ar 5 j - 1) (sc 0) g < 0 ∧ mSpend sc ar v g = (vSR k (ar 3 j) (ar 2 j) (ar 4 j) (ar 5 j - 1) (sc 0) g, sc, ar) ∧ vo_E k (ar 0 j) (ar 3 j) (ar 1 j) (vSL k (ar 3 j) (ar 2 j) (ar 4 j) (ar 5 j - 1) (sc 0) g) (vSP k (ar 3 j) (ar 2 j) (ar 4 j) (sc 0) g) (vSS k (ar 3 j) (ar 2 j) (ar 4 j) (ar 5 j - 1) (sc 0) g) = vo_E k (ar 0 j) (ar 3 j) (ar 1 j) (ar 2 j) (ar 4 j) (ar 5 j - 1)) ∨
    (¬ vSR k (ar 3 j) (ar 2 j) (ar 4 j) (ar 5 j - 1) (sc 0) g < 0 ∧ ∃ ar' : Nat → Nat → Int32, mSpend sc ar v g = (vSR k (ar 3 j) (ar 2 j) (ar 4 j) (ar 5 j - 1) (sc 0) g, va_up (va_up sc 3 (sc 3 + g)) 4 (sc 4 + vFee k (ar 4 j) g), ar') ∧ vo_E k (ar 0 j) (ar 3 j) (ar 1 j) (vSL k (ar 3 j) (ar 2 j) (ar 4 j) (ar 5 j - 1) (sc 0) g) (vSP k (ar 3 j) (ar 2 j) (ar 4 j) (sc 0) g) (vSS k (ar 3 j) (ar 2 j) (ar 4 j) (ar 5 j - 1) (sc 0) g) = ofE ar' j ∧ (∀ w, ar' 6 w = ar 6 w) ∧ (∀ w, w ≠ j → ofE ar' w = ofE ar w)) := by
  obtain ⟨ef, G, F, hG1, hG2, eg, hF, eF⟩ := fee_w hv hw
  obtain ⟨hk, h0, L, P, M, S, e2, e4, e1, e5, hs, hM, hS, h6⟩ := id hv
  have ev := val_eq hk h0 (sc 0)
  have hk0 : mI (ar 0 j) = k := by rw [h0]; exact nI_clamp (by omega)
  by_cases c3 : k = 3 ∧ ar 5 j = sc 0 + 1
  · obtain ⟨rfl, c5⟩ := c3
    have c5' : ar 5 j - 1 = sc 0 := (i_1 _ _).mpr c5
    have h03 : ar 0 j = 3 := h0
    refine Or.inl ⟨?_, ?_, ?_⟩
    · simp only [vSR, if_pos c5']; decide
    · simp only [mSpend, if_neg hz, if_neg hw, em, if_pos (show ar 0 j = 3 ∧ ar 5 j = sc 0 + 1 from ⟨h03, c5⟩), vSR, if_pos c5']
    · simp only [vSL, vSP, vSS, if_pos c5']
  · have c3' : ¬ (ar 0 j = 3 ∧ ar 5 j = sc 0 + 1) := fun z => c3 ⟨(nI_eq (b := 3) (by omega) (by decide)).mp (h0.symm.trans z.1), z.2⟩
    have eSR : vSR k (ar 3 j) (ar 2 j) (ar 4 j) (ar 5 j - 1) (sc 0) g = vSp k (ar 3 j) (ar 2 j) (ar 4 j) (sc 0) g := by
      by_cases k3 : k = 3
      · subst k3
        simp only [vSR, if_neg (fun z => c3 ⟨rfl, (i_1 _ _).mp z⟩)]
      · exact vSR_n k3 _ _ _ _ _ _
    have eSL : vSL k (ar 3 j) (ar 2 j) (ar 4 j) (ar 5 j - 1) (sc 0) g = vSpL k (ar 3 j) (ar 2 j) (ar 4 j) (sc 0) g := by
      by_cases k3 : k = 3
      · subst k3
        simp only [vSL, if_neg (fun z => c3 ⟨rfl, (i_1 _ _).mp z⟩)]
      · exact vSL_n k3 _ _ _ _ _ _
    rw [eSR, eSL]
    have refused : vSp k (ar 3 j) (ar 2 j) (ar 4 j) (sc 0) g = -5 → vSpL k (ar 3 j) (ar 2 j) (ar 4 j) (sc 0) g = ar 2 j → vo_E k (ar 0 j) (ar 3 j) (ar 1 j) (ar 2 j) (vSP k (ar 3 j) (ar 2 j) (ar 4 j) (sc 0) g) (vSS k (ar 3 j) (ar 2 j) (ar 4 j) (ar 5 j - 1) (sc 0) g) = vo_E k (ar 0 j) (ar 3 j) (ar 1 j) (ar 2 j) (ar 4 j) (ar 5 j - 1) := by
      intro q1 _
      have hneg : vSp k (ar 3 j) (ar 2 j) (ar 4 j) (sc 0) g < 0 := by rw [q1]; decide
      have eP : vSP k (ar 3 j) (ar 2 j) (ar 4 j) (sc 0) g = ar 4 j := by
        rcases Nat.lt_or_ge k 6 with q | q
        · exact vSP_lo q _ _ _ _ _
        · rw [vSP_hi hk q, if_pos hneg]
      rw [eP]
      by_cases k3 : k = 3
      · subst k3
        simp only [vSS, if_neg (fun z => c3 ⟨rfl, (i_1 _ _).mp z⟩), if_pos hneg]
      · exact vo_ls k3 _ _ _ _ _ _ _
    by_cases cv : vVal k (ar 3 j) (ar 2 j) (ar 4 j) (sc 0) < g
    · have q1 : vSp k (ar 3 j) (ar 2 j) (ar 4 j) (sc 0) g = -5 := by simp only [vSp, if_pos cv]
      have q2 : vSpL k (ar 3 j) (ar 2 j) (ar 4 j) (sc 0) g = ar 2 j := by simp only [vSpL, if_pos cv]
      refine Or.inl ⟨by rw [q1]; decide, ?_, by rw [q2]; exact refused q1 q2⟩
      simp only [mSpend, if_neg hz, if_neg hw, em, if_neg c3', ev, if_pos cv, q1]
    · by_cases cl : g + vFee k (ar 4 j) g ≤ ar 2 j
      · have q1 : vSp k (ar 3 j) (ar 2 j) (ar 4 j) (sc 0) g = ar 2 j - (g + vFee k (ar 4 j) g) := by simp only [vSp, if_neg cv, if_pos cl]
        have q2 : vSpL k (ar 3 j) (ar 2 j) (ar 4 j) (sc 0) g = ar 2 j - (g + vFee k (ar 4 j) g) := by simp only [vSpL, if_neg cv, if_pos cl]
        have hnn : ¬ vSp k (ar 3 j) (ar 2 j) (ar 4 j) (sc 0) g < 0 := by
          rw [q1, eF, eg, e2, nI_add]
          rw [eF, eg, e2, nI_add] at cl
          have hle : G + F ≤ L := (nI_leI (by omega) (by omega)).mp cl
          rw [pk_sub hle]
          exact nI_pos (by omega)
        have eS5 : (sc 0 + 1) - 1 = sc 0 := Int32.add_sub_cancel _ _
        have hS3 : k = 3 → vSS k (ar 3 j) (ar 2 j) (ar 4 j) (ar 5 j - 1) (sc 0) g = sc 0 := by
          rintro rfl
          simp only [vSS, if_neg (fun z => c3 ⟨rfl, (i_1 _ _).mp z⟩), if_neg hnn]
        rcases has_eq hk h0 with ⟨k6, hh⟩ | ⟨k6, hh⟩
        · refine Or.inr ⟨hnn, mSet (mSet ar 2 j (ar 2 j - (g + vFee k (ar 4 j) g))) 5 j (sc 0 + 1), ?_, ?_, ?_, ?_⟩
          · simp only [mSpend, if_neg hz, if_neg hw, em, if_neg c3', ev, if_neg cv, ef, if_pos cl, if_pos hh, q1]
          · rw [q2, vSP_lo k6]
            have : ofE (mSet (mSet ar 2 j (ar 2 j - (g + vFee k (ar 4 j) g))) 5 j (sc 0 + 1)) j = vo_E k (ar 0 j) (ar 3 j) (ar 1 j) (ar 2 j - (g + vFee k (ar 4 j) g)) (ar 4 j) ((sc 0 + 1) - 1) := by
              simp only [ofE, mS_at, mS_j _ _ _ _ _ _ (by decide : (0 : Nat) ≠ 5), mS_j _ _ _ _ _ _ (by decide : (0 : Nat) ≠ 2), mS_j _ _ _ _ _ _ (by decide : (1 : Nat) ≠ 5), mS_j _ _ _ _ _ _ (by decide : (1 : Nat) ≠ 2), mS_j _ _ _ _ _ _ (by decide : (3 : Nat) ≠ 5), mS_j _ _ _ _ _ _ (by decide : (3 : Nat) ≠ 2), mS_j _ _ _ _ _ _ (by decide : (4 : Nat) ≠ 5), mS_j _ _ _ _ _ _ (by decide : (4 : Nat) ≠ 2), mS_j _ _ _ _ _ _ (by decide : (2 : Nat) ≠ 5), hk0]
            rw [this, eS5]
            by_cases k3 : k = 3
            · rw [hS3 k3]
            · exact vo_ls k3 _ _ _ _ _ _ _
          · intro w
            rw [mS_j _ _ _ _ _ _ (by decide : (6 : Nat) ≠ 5), mS_j _ _ _ _ _ _ (by decide : (6 : Nat) ≠ 2)]
          · intro w hw'
            rw [ofE_S _ _ _ _ _ hw', ofE_S _ _ _ _ _ hw']
        · refine Or.inr ⟨hnn, mSet (mSet (mSet ar 2 j (ar 2 j - (g + vFee k (ar 4 j) g))) 5 j (sc 0 + 1)) 4 j (ar 4 j + g / 100), ?_, ?_, ?_, ?_⟩
          · simp only [mSpend, if_neg hz, if_neg hw, em, if_neg c3', ev, if_neg cv, ef, if_pos cl, if_neg hh, q1]
          · rw [q2, vSP_hi hk k6, if_neg hnn]
            have : ofE (mSet (mSet (mSet ar 2 j (ar 2 j - (g + vFee k (ar 4 j) g))) 5 j (sc 0 + 1)) 4 j (ar 4 j + g / 100)) j = vo_E k (ar 0 j) (ar 3 j) (ar 1 j) (ar 2 j - (g + vFee k (ar 4 j) g)) (ar 4 j + g / 100) ((sc 0 + 1) - 1) := by
              simp only [ofE, mS_at, mS_j _ _ _ _ _ _ (by decide : (0 : Nat) ≠ 4), mS_j _ _ _ _ _ _ (by decide : (1 : Nat) ≠ 4), mS_j _ _ _ _ _ _ (by decide : (2 : Nat) ≠ 4), mS_j _ _ _ _ _ _ (by decide : (3 : Nat) ≠ 4), mS_j _ _ _ _ _ _ (by decide : (5 : Nat) ≠ 4), mS_j _ _ _ _ _ _ (by decide : (0 : Nat) ≠ 5), mS_j _ _ _ _ _ _ (by decide : (0 : Nat) ≠ 2), mS_j _ _ _ _ _ _ (by decide : (1 : Nat) ≠ 5), mS_j _ _ _ _ _ _ (by decide : (1 : Nat) ≠ 2), mS_j _ _ _ _ _ _ (by decide : (3 : Nat) ≠ 5), mS_j _ _ _ _ _ _ (by decide : (3 : Nat) ≠ 2), mS_j _ _ _ _ _ _ (by decide : (2 : Nat) ≠ 5), hk0]
            rw [this]
            exact vo_ls (by omega) _ _ _ _ _ _ _
          · intro w
            rw [mS_j _ _ _ _ _ _ (by decide : (6 : Nat) ≠ 4), mS_j _ _ _ _ _ _ (by decide : (6 : Nat) ≠ 5), mS_j _ _ _ _ _ _ (by decide : (6 : Nat) ≠ 2)]
          · intro w hw'
            rw [ofE_S _ _ _ _ _ hw', ofE_S _ _ _ _ _ hw', ofE_S _ _ _ _ _ hw']
      · have q1 : vSp k (ar 3 j) (ar 2 j) (ar 4 j) (sc 0) g = -5 := by simp only [vSp, if_neg cv, if_neg cl]
        have q2 : vSpL k (ar 3 j) (ar 2 j) (ar 4 j) (sc 0) g = ar 2 j := by simp only [vSpL, if_neg cv, if_neg cl]
        refine Or.inl ⟨by rw [q1]; decide, ?_, by rw [q2]; exact refused q1 q2⟩
        simp only [mSpend, if_neg hz, if_neg hw, em, if_neg c3', ev, if_neg cv, ef, if_neg cl, q1]
