set_option maxHeartbeats 4000000 in
set_option maxRecDepth 100000 in
theorem lp_X9_total {p : Program} {l : Launch} {e : Env} {s : State} {m : MethodId} {args : Array Value} {below : List Frame} {meth : Method} {c : Code} {Q : State → Prop} {A : Nat → Prop} {D : va_G} {cI cZ cP : ClassId} {h : Nat} {q ad : Nat → Nat} {sc : Nat → Int32} {ar : Nat → Nat → Int32} {d : Nat} {ws : va_W} (hd : 2 ≤ d) (X : Cx p m c meth s args "VoucherOfficeModel" cX9_total 4 (some .int) D (vTy cI cZ cP)) (hA : ∀ q, s.heap.size ≤ q → A q) (hm : mo_at cI cZ ws h q ad sc ar) {n : Nat} (hn : sc 1 = nI n) (h40 : n ≤ 40) {t : Int32} (kend : ∀ (H : Heap) (locs : List Loc) (L : Array Slot), va_P D vwCl ws H → va_D A ws → va_S A s.heap H locs → lv_has L 4 [(3, .int (nI n)), (2, .int (mSum ar (fun i => mVal ar i t) n)), (0, .ref h), (1, .int t)] → W p l e (rm_d d 0 0) s m args below meth c H locs 0 0 Q (F0 m 54 L [])) : ∀ (j i : Nat), i + j = n → ∀ (H : Heap) (locs : List Loc) (L : Array Slot), va_P D vwCl ws H → va_D A ws → va_S A s.heap H locs → lv_has L 4 [(3, .int (nI i)), (2, .int (mSum ar (fun i => mVal ar i t) i)), (0, .ref h), (1, .int t)] → W p l e (rm_d d 0 0) s m args below meth c H locs 0 0 Q (F0 m 18 L []) := by
  obtain ⟨hx, hb, hr, hml, hown, hts, hK, hlk, hxK⟩ := id X
  intro j
  induction j with
  | zero =>
    intro i hij H locs L hP hD hS hl
    have hi : i = n := by omega
    subst hi
    refine lv_iload_n hx hb dX9_total_18 rfl (lv_at hl 0 rfl) ?_
    refine lv_aload_n hx hb dX9_total_19 rfl (lv_at hl 2 rfl) ?_
    refine mo_g1 X hP hm mw_450 dX9_total_20 ?_
    refine lv_icmp_ge (tgt := 54) hx hb dX9_total_23 (by decide) (fun c_9 => ?_) (fun c_9 => ?_)
    · exact kend H locs L hP hD hS (lv_sub hl [0, 1, 2, 3] rfl)
    · exact absurd (by rw [hn]; exact nI_le (Nat.le_refl _) (by omega)) c_9
  | succ j ih =>
    intro i hij H locs L hP hD hS hl
    have hi : i < n := by omega
    have hv : vp_in (nI i) 40 := vp_in_nI (by omega) (by decide)
    have hmi : (nI i).toNatClampNeg = i := nI_clamp (by omega)
    refine lv_iload_n hx hb dX9_total_18 rfl (lv_at hl 0 rfl) ?_
    refine lv_aload_n hx hb dX9_total_19 rfl (lv_at hl 2 rfl) ?_
    refine mo_g1 X hP hm mw_450 dX9_total_20 ?_
    refine lv_icmp_ge (tgt := 54) hx hb dX9_total_23 (by decide) (fun c_9 => ?_) (fun c_9 => ?_)
    · exact absurd (by rw [hn] at c_9; exact c_9) (nI_ge hi (by omega))
    · skip
      refine lv_iload_n hx hb dX9_total_26 rfl (lv_at hl 1 rfl) ?_
      refine lv_aload_n hx hb dX9_total_27 rfl (lv_at hl 2 rfl) ?_
      refine mo_r6 X hP hm mw_461 dX9_total_28 ?_
      refine lv_iload_n hx hb dX9_total_31 rfl (lv_at hl 0 rfl) ?_
      refine mo_a6 X hP hm hv dX9_total_32 ?_
      refine lv_if_eq (tgt := 40) hx hb dX9_total_33 (by decide) (fun c_33 => ?_) (fun c_33 => ?_)
      · -- c_33 True
        refine lv_aload_n hx hb dX9_total_40 rfl (lv_at hl 2 rfl) ?_
        refine lv_iload_n hx hb dX9_total_41 rfl (lv_at hl 0 rfl) ?_
        refine lv_iload_n hx hb dX9_total_42 rfl (lv_at hl 3 rfl) ?_
        refine g_priv (ci := 9) (cq := (RX9, TX9, 13)) (As := [.int (nI i), .int t]) (rest := [.int (mSum ar (fun i => mVal ar i t) i)]) pw_X9_61 X (c_X9_valueOf l D cI cZ cP 1 (by decide) hm hv t) hP hD hS hA hm.1 rfl rfl ⟨by show _ ≤ d; omega, by show _ ≤ 30 * d; omega⟩ rfl hl.1 rfl (Nat.le_of_ble_eq_true rfl) dX9_total_43 ⟨Nat.le_refl _, Nat.le_refl _⟩ (kI fun H locs hP hD hS => ?_)
        refine W.eq (g2 := F0 m 46 L [.int (mVal ar (mI (nI i)) t), .int (mSum ar (fun i => mVal ar i t) i)]) rfl ?_
        refine lv_iadd hx hb dX9_total_46 ?_
        refine lv_istore_n (lv' := [(2, .int ((mSum ar (fun i => mVal ar i t) i) + (mVal ar (mI (nI i)) t))), (3, .int (nI i)), (0, .ref h), (1, .int t)]) hx hb dX9_total_47 rfl hl (by decide) rfl (fun L hl => ?_)
        refine lv_iinc (v := ((nI i) + 1)) (lv' := [(3, .int ((nI i) + 1)), (2, .int ((mSum ar (fun i => mVal ar i t) i) + (mVal ar (mI (nI i)) t))), (0, .ref h), (1, .int t)]) hx hb dX9_total_48 hl (k := 1) rfl rfl (by decide) rfl (fun L hl => ?_)
        refine lv_goto (tgt := 18) hx hb dX9_total_51 (by decide) ?_
        have e1 : ((nI i) + 1) = nI (i + 1) := nI_1 i
        have e2 : ((mSum ar (fun i => mVal ar i t) i) + (mVal ar (mI (nI i)) t)) = mSum ar (fun i => mVal ar i t) (i + 1) := by rw [hmi] at c_33; simp only [mSum, if_pos c_33, mI, hmi]
        have hl := lv_sub hl [0, 1, 2, 3] rfl
        have hl : lv_has L 4 [(3, .int ((nI i) + 1)), (2, .int ((mSum ar (fun i => mVal ar i t) i) + (mVal ar (mI (nI i)) t))), (0, .ref h), (1, .int t)] := hl
        rw [e1, e2] at hl
        exact ih (i + 1) (by omega) H locs L hP hD hS hl
      · -- c_33 False
        refine lv_iconst (v := 0) hx hb dX9_total_36 (by decide) ?_
        refine lv_goto (tgt := 46) hx hb dX9_total_37 (by decide) ?_
        refine lv_iadd hx hb dX9_total_46 ?_
        refine lv_istore_n (lv' := [(2, .int ((mSum ar (fun i => mVal ar i t) i) + 0)), (3, .int (nI i)), (0, .ref h), (1, .int t)]) hx hb dX9_total_47 rfl hl (by decide) rfl (fun L hl => ?_)
        refine lv_iinc (v := ((nI i) + 1)) (lv' := [(3, .int ((nI i) + 1)), (2, .int ((mSum ar (fun i => mVal ar i t) i) + 0)), (0, .ref h), (1, .int t)]) hx hb dX9_total_48 hl (k := 1) rfl rfl (by decide) rfl (fun L hl => ?_)
        refine lv_goto (tgt := 18) hx hb dX9_total_51 (by decide) ?_
        have e1 : ((nI i) + 1) = nI (i + 1) := nI_1 i
        have e2 : ((mSum ar (fun i => mVal ar i t) i) + 0) = mSum ar (fun i => mVal ar i t) (i + 1) := by rw [hmi] at c_33; simp only [mSum, if_neg c_33, mI, hmi]
        have hl := lv_sub hl [0, 1, 2, 3] rfl
        have hl : lv_has L 4 [(3, .int ((nI i) + 1)), (2, .int ((mSum ar (fun i => mVal ar i t) i) + 0)), (0, .ref h), (1, .int t)] := hl
        rw [e1, e2] at hl
        exact ih (i + 1) (by omega) H locs L hP hD hS hl
set_option maxHeartbeats 4000000 in
set_option maxRecDepth 100000 in
theorem lp_X9_leftOfAll {p : Program} {l : Launch} {e : Env} {s : State} {m : MethodId} {args : Array Value} {below : List Frame} {meth : Method} {c : Code} {Q : State → Prop} {A : Nat → Prop} {D : va_G} {cI cZ cP : ClassId} {h : Nat} {q ad : Nat → Nat} {sc : Nat → Int32} {ar : Nat → Nat → Int32} {d : Nat} {ws : va_W} (hd : 0 ≤ d) (X : Cx p m c meth s args "VoucherOfficeModel" cX9_leftOfAll 3 (some .int) D (vTy cI cZ cP)) (hA : ∀ q, s.heap.size ≤ q → A q) (hm : mo_at cI cZ ws h q ad sc ar) {n : Nat} (hn : sc 1 = nI n) (h40 : n ≤ 40) (kend : ∀ (H : Heap) (locs : List Loc) (L : Array Slot), va_P D vwCl ws H → va_D A ws → va_S A s.heap H locs → lv_has L 3 [(2, .int (nI n)), (1, .int (mSum ar (fun i => ar 2 i) n)), (0, .ref h)] → W p l e (rm_d d 0 0) s m args below meth c H locs 0 0 Q (F0 m 40 L [])) : ∀ (j i : Nat), i + j = n → ∀ (H : Heap) (locs : List Loc) (L : Array Slot), va_P D vwCl ws H → va_D A ws → va_S A s.heap H locs → lv_has L 3 [(2, .int (nI i)), (1, .int (mSum ar (fun i => ar 2 i) i)), (0, .ref h)] → W p l e (rm_d d 0 0) s m args below meth c H locs 0 0 Q (F0 m 4 L []) := by
  obtain ⟨hx, hb, hr, hml, hown, hts, hK, hlk, hxK⟩ := id X
  intro j
  induction j with
  | zero =>
    intro i hij H locs L hP hD hS hl
    have hi : i = n := by omega
    subst hi
    refine lv_iload_n hx hb dX9_leftOfAll_4 rfl (lv_at hl 0 rfl) ?_
    refine lv_aload_n hx hb dX9_leftOfAll_5 rfl (lv_at hl 2 rfl) ?_
    refine mo_g1 X hP hm mw_450 dX9_leftOfAll_6 ?_
    refine lv_icmp_ge (tgt := 40) hx hb dX9_leftOfAll_9 (by decide) (fun c_9 => ?_) (fun c_9 => ?_)
    · exact kend H locs L hP hD hS (lv_sub hl [0, 1, 2] rfl)
    · exact absurd (by rw [hn]; exact nI_le (Nat.le_refl _) (by omega)) c_9
  | succ j ih =>
    intro i hij H locs L hP hD hS hl
    have hi : i < n := by omega
    have hv : vp_in (nI i) 40 := vp_in_nI (by omega) (by decide)
    have hmi : (nI i).toNatClampNeg = i := nI_clamp (by omega)
    refine lv_iload_n hx hb dX9_leftOfAll_4 rfl (lv_at hl 0 rfl) ?_
    refine lv_aload_n hx hb dX9_leftOfAll_5 rfl (lv_at hl 2 rfl) ?_
    refine mo_g1 X hP hm mw_450 dX9_leftOfAll_6 ?_
    refine lv_icmp_ge (tgt := 40) hx hb dX9_leftOfAll_9 (by decide) (fun c_9 => ?_) (fun c_9 => ?_)
    · exact absurd (by rw [hn] at c_9; exact c_9) (nI_ge hi (by omega))
    · skip
      refine lv_iload_n hx hb dX9_leftOfAll_12 rfl (lv_at hl 1 rfl) ?_
      refine lv_aload_n hx hb dX9_leftOfAll_13 rfl (lv_at hl 2 rfl) ?_
      refine mo_r6 X hP hm mw_461 dX9_leftOfAll_14 ?_
      refine lv_iload_n hx hb dX9_leftOfAll_17 rfl (lv_at hl 0 rfl) ?_
      refine mo_a6 X hP hm hv dX9_leftOfAll_18 ?_
      refine lv_if_eq (tgt := 26) hx hb dX9_leftOfAll_19 (by decide) (fun c_19 => ?_) (fun c_19 => ?_)
      · -- c_19 True
        refine lv_aload_n hx hb dX9_leftOfAll_26 rfl (lv_at hl 2 rfl) ?_
        refine mo_r2 X hP hm mw_457 dX9_leftOfAll_27 ?_
        refine lv_iload_n hx hb dX9_leftOfAll_30 rfl (lv_at hl 0 rfl) ?_
        refine mo_a2 X hP hm hv dX9_leftOfAll_31 ?_
        refine lv_iadd hx hb dX9_leftOfAll_32 ?_
        refine lv_istore_n (lv' := [(1, .int ((mSum ar (fun i => ar 2 i) i) + (ar 2 (mI (nI i))))), (2, .int (nI i)), (0, .ref h)]) hx hb dX9_leftOfAll_33 rfl hl (by decide) rfl (fun L hl => ?_)
        refine lv_iinc (v := ((nI i) + 1)) (lv' := [(2, .int ((nI i) + 1)), (1, .int ((mSum ar (fun i => ar 2 i) i) + (ar 2 (mI (nI i))))), (0, .ref h)]) hx hb dX9_leftOfAll_34 hl (k := 1) rfl rfl (by decide) rfl (fun L hl => ?_)
        refine lv_goto (tgt := 4) hx hb dX9_leftOfAll_37 (by decide) ?_
        have e1 : ((nI i) + 1) = nI (i + 1) := nI_1 i
        have e2 : ((mSum ar (fun i => ar 2 i) i) + (ar 2 (mI (nI i)))) = mSum ar (fun i => ar 2 i) (i + 1) := by rw [hmi] at c_19; simp only [mSum, if_pos c_19, mI, hmi]
        have hl := lv_sub hl [0, 1, 2] rfl
        have hl : lv_has L 3 [(2, .int ((nI i) + 1)), (1, .int ((mSum ar (fun i => ar 2 i) i) + (ar 2 (mI (nI i))))), (0, .ref h)] := hl
        rw [e1, e2] at hl
        exact ih (i + 1) (by omega) H locs L hP hD hS hl
      · -- c_19 False
        refine lv_iconst (v := 0) hx hb dX9_leftOfAll_22 (by decide) ?_
        refine lv_goto (tgt := 32) hx hb dX9_leftOfAll_23 (by decide) ?_
        refine lv_iadd hx hb dX9_leftOfAll_32 ?_
        refine lv_istore_n (lv' := [(1, .int ((mSum ar (fun i => ar 2 i) i) + 0)), (2, .int (nI i)), (0, .ref h)]) hx hb dX9_leftOfAll_33 rfl hl (by decide) rfl (fun L hl => ?_)
        refine lv_iinc (v := ((nI i) + 1)) (lv' := [(2, .int ((nI i) + 1)), (1, .int ((mSum ar (fun i => ar 2 i) i) + 0)), (0, .ref h)]) hx hb dX9_leftOfAll_34 hl (k := 1) rfl rfl (by decide) rfl (fun L hl => ?_)
        refine lv_goto (tgt := 4) hx hb dX9_leftOfAll_37 (by decide) ?_
        have e1 : ((nI i) + 1) = nI (i + 1) := nI_1 i
        have e2 : ((mSum ar (fun i => ar 2 i) i) + 0) = mSum ar (fun i => ar 2 i) (i + 1) := by rw [hmi] at c_19; simp only [mSum, if_neg c_19, mI, hmi]
        have hl := lv_sub hl [0, 1, 2] rfl
        have hl : lv_has L 3 [(2, .int ((nI i) + 1)), (1, .int ((mSum ar (fun i => ar 2 i) i) + 0)), (0, .ref h)] := hl
        rw [e1, e2] at hl
        exact ih (i + 1) (by omega) H locs L hP hD hS hl
theorem mLap_rest (ar : Nat → Nat → Int32) (day : Int32) : ∀ i : Nat, (mLap ar day i).2 6 = ar 6 ∧ (mLap ar day i).2 2 i = ar 2 i ∧ (mLap ar day i).2 0 = ar 0 ∧ (mLap ar day i).2 3 = ar 3 := by
  have key : ∀ i : Nat, (∀ j, j ≠ 2 → (mLap ar day i).2 j = ar j) ∧ ∀ k, i ≤ k → (mLap ar day i).2 2 k = ar 2 k := by
    intro i
    induction i with
    | zero => exact ⟨fun j _ => rfl, fun k _ => rfl⟩
    | succ i ih =>
      have same : (∀ j, j ≠ 2 → (mLap ar day i).2 j = ar j) ∧ ∀ k, i + 1 ≤ k → (mLap ar day i).2 2 k = ar 2 k := ⟨ih.1, fun k hk => ih.2 k (by omega)⟩
      simp only [mLap]
      by_cases h1 : ar 6 i = 0
      · by_cases h2 : mDat ar i = 0
        · simp only [if_pos h1, if_pos h2]; exact same
        · by_cases h3 : mLast ar i < day
          · simp only [if_pos h1, if_neg h2, if_pos h3]
            refine ⟨fun j hj => ?_, fun k hk => ?_⟩
            · rw [← ih.1 j hj]
              simp only [mSet, va_up, if_neg hj]
            · rw [← ih.2 k (by omega)]
              have hk' : ¬ k = i := by omega
              simp [mSet, va_up, upd, hk']
          · simp only [if_pos h1, if_neg h2, if_neg h3]; exact same
      · simp only [if_neg h1]; exact same
  intro i
  exact ⟨(key i).1 6 (by decide), (key i).2 i (Nat.le_refl i), (key i).1 0 (by decide), (key i).1 3 (by decide)⟩
theorem mLap_dat (ar : Nat → Nat → Int32) (day : Int32) (i k : Nat) : mDat (mLap ar day i).2 k = mDat ar k := by
  obtain ⟨-, -, h, -⟩ := mLap_rest ar day i
  simp only [mDat, h]
theorem mLap_last (ar : Nat → Nat → Int32) (day : Int32) (i k : Nat) : mLast (mLap ar day i).2 k = mLast ar k := by
  obtain ⟨-, -, h, h3⟩ := mLap_rest ar day i
  simp only [mLast, h, h3]
set_option maxHeartbeats 4000000 in
set_option maxRecDepth 100000 in
theorem lp_X9_lapse {p : Program} {l : Launch} {e : Env} {s : State} {m : MethodId} {args : Array Value} {below : List Frame} {meth : Method} {c : Code} {Q : State → Prop} {A : Nat → Prop} {D : va_G} {cI cZ cP : ClassId} {h : Nat} {q ad : Nat → Nat} {sc : Nat → Int32} {ar : Nat → Nat → Int32} {d : Nat} {ws0 : va_W} (hd : 1 ≤ d) (X : Cx p m c meth s args "VoucherOfficeModel" cX9_lapse 3 (some .int) D (vTy cI cZ cP)) (hA : ∀ q, s.heap.size ≤ q → A q) {n : Nat} (hn : sc 1 = nI n) (h40 : n ≤ 40) (kend : ∀ (ws : va_W) (H : Heap) (locs : List Loc) (L : Array Slot), va_P D vwCl ws H → va_D A ws → va_S A s.heap H locs → mo_at cI cZ ws h q ad sc (mLap ar (sc 0) n).2 → mo_fr ws0 ws → lv_has L 3 [(2, .int (nI n)), (1, .int (mLap ar (sc 0) n).1), (0, .ref h)] → W p l e (rm_d d 0 0) s m args below meth c H locs 0 0 Q (F0 m 66 L [])) : ∀ (j i : Nat), i + j = n → ∀ (ws : va_W) (H : Heap) (locs : List Loc) (L : Array Slot), va_P D vwCl ws H → va_D A ws → va_S A s.heap H locs → mo_at cI cZ ws h q ad sc (mLap ar (sc 0) i).2 → mo_fr ws0 ws → lv_has L 3 [(2, .int (nI i)), (1, .int (mLap ar (sc 0) i).1), (0, .ref h)] → W p l e (rm_d d 0 0) s m args below meth c H locs 0 0 Q (F0 m 4 L []) := by
  obtain ⟨hx, hb, hr, hml, hown, hts, hK, hlk, hxK⟩ := id X
  intro j
  induction j with
  | zero =>
    intro i hij ws H locs L hP hD hS hm hfr hl
    have hi : i = n := by omega
    subst hi
    refine lv_iload_n hx hb dX9_lapse_4 rfl (lv_at hl 0 rfl) ?_
    refine lv_aload_n hx hb dX9_lapse_5 rfl (lv_at hl 2 rfl) ?_
    refine mo_g1 X hP hm mw_450 dX9_lapse_6 ?_
    refine lv_icmp_ge (tgt := 66) hx hb dX9_lapse_9 (by decide) (fun c_9 => ?_) (fun c_9 => ?_)
    · exact kend ws H locs L hP hD hS hm hfr hl
    · exact absurd (by rw [hn]; exact nI_le (Nat.le_refl _) (by omega)) c_9
  | succ j ih =>
    intro i hij ws H locs L hP hD hS hm hfr hl
    have hi : i < n := by omega
    have hv : vp_in (nI i) 40 := vp_in_nI (by omega) (by decide)
    have hmi : (nI i).toNatClampNeg = i := nI_clamp (by omega)
    obtain ⟨g0, g1, g2, g3⟩ := mLap_rest ar (sc 0) i
    refine lv_iload_n hx hb dX9_lapse_4 rfl (lv_at hl 0 rfl) ?_
    refine lv_aload_n hx hb dX9_lapse_5 rfl (lv_at hl 2 rfl) ?_
    refine mo_g1 X hP hm mw_450 dX9_lapse_6 ?_
    refine lv_icmp_ge (tgt := 66) hx hb dX9_lapse_9 (by decide) (fun c_9 => ?_) (fun c_9 => ?_)
    · exact absurd (by rw [hn] at c_9; exact c_9) (nI_ge hi (by omega))
    · skip
      refine lv_aload_n hx hb dX9_lapse_12 rfl (lv_at hl 2 rfl) ?_
      refine mo_r6 X hP hm mw_461 dX9_lapse_13 ?_
      refine lv_iload_n hx hb dX9_lapse_16 rfl (lv_at hl 0 rfl) ?_
      refine mo_a6 X hP hm hv dX9_lapse_17 ?_
      refine lv_if_ne (tgt := 60) hx hb dX9_lapse_18 (by decide) (fun c_18 => ?_) (fun c_18 => ?_)
      · -- c_18 True
        have c_18 : ¬ ar 6 i = 0 := by rw [hmi, g0] at c_18; exact c_18
        refine lv_iinc (v := ((nI i) + 1)) (lv' := [(2, .int ((nI i) + 1)), (1, .int (mLap ar (sc 0) i).1), (0, .ref h)]) hx hb dX9_lapse_60 hl (k := 0) rfl rfl (by decide) rfl (fun L hl => ?_)
        refine lv_goto (tgt := 4) hx hb dX9_lapse_63 (by decide) ?_
        have e1 : ((nI i) + 1) = nI (i + 1) := nI_1 i
        have e2 : mLap ar (sc 0) (i + 1) = ((mLap ar (sc 0) i).1, (mLap ar (sc 0) i).2) := by simp only [mLap, if_neg c_18, mI, hmi, g1]
        refine ih (i + 1) (by omega) ws H locs L hP hD hS (by rw [e2]; exact hm) hfr ?_
        have hl := lv_sub hl [0, 1, 2] rfl
        have hl : lv_has L 3 [(2, .int ((nI i) + 1)), (1, .int (mLap ar (sc 0) i).1), (0, .ref h)] := hl
        rw [e2, ← e1]
        exact hl
      · -- c_18 False
        have c_18 : ar 6 i = 0 := by rw [hmi, g0] at c_18; exact c_18
        refine lv_aload_n hx hb dX9_lapse_21 rfl (lv_at hl 2 rfl) ?_
        refine lv_iload_n hx hb dX9_lapse_22 rfl (lv_at hl 0 rfl) ?_
        refine g_priv (ci := 9) (cq := (RX9, TX9, 13)) (As := [.int (nI i)]) (rest := []) pw_X9_40 X (c_X9_isDated l D cI cZ cP 0 (by decide) hm hv ) hP hD hS hA hm.1 rfl rfl ⟨by show _ ≤ d; omega, by show _ ≤ 30 * d; omega⟩ rfl hl.1 rfl (Nat.le_of_ble_eq_true rfl) dX9_lapse_23 ⟨Nat.le_refl _, Nat.le_refl _⟩ (kI fun H locs hP hD hS => ?_)
        refine W.eq (g2 := F0 m 26 L [.int (mDat (mLap ar (sc 0) i).2 (mI (nI i)))]) rfl ?_
        refine lv_if_eq (tgt := 60) hx hb dX9_lapse_26 (by decide) (fun c_26 => ?_) (fun c_26 => ?_)
        · -- c_26 True
          have c_26 : mDat ar i = 0 := by simp only [mI, hmi, mLap_dat] at c_26; exact c_26
          refine lv_iinc (v := ((nI i) + 1)) (lv' := [(2, .int ((nI i) + 1)), (1, .int (mLap ar (sc 0) i).1), (0, .ref h)]) hx hb dX9_lapse_60 hl (k := 0) rfl rfl (by decide) rfl (fun L hl => ?_)
          refine lv_goto (tgt := 4) hx hb dX9_lapse_63 (by decide) ?_
          have e1 : ((nI i) + 1) = nI (i + 1) := nI_1 i
          have e2 : mLap ar (sc 0) (i + 1) = ((mLap ar (sc 0) i).1, (mLap ar (sc 0) i).2) := by simp only [mLap, if_pos c_18, if_pos c_26, mI, hmi, g1]
          refine ih (i + 1) (by omega) ws H locs L hP hD hS (by rw [e2]; exact hm) hfr ?_
          have hl := lv_sub hl [0, 1, 2] rfl
          have hl : lv_has L 3 [(2, .int ((nI i) + 1)), (1, .int (mLap ar (sc 0) i).1), (0, .ref h)] := hl
          rw [e2, ← e1]
          exact hl
        · -- c_26 False
          have c_26 : ¬ mDat ar i = 0 := by simp only [mI, hmi, mLap_dat] at c_26; exact c_26
          refine lv_aload_n hx hb dX9_lapse_29 rfl (lv_at hl 2 rfl) ?_
          refine lv_iload_n hx hb dX9_lapse_30 rfl (lv_at hl 0 rfl) ?_
          refine g_priv (ci := 9) (cq := (RX9, TX9, 13)) (As := [.int (nI i)]) (rest := []) pw_X9_44 X (c_X9_lastDay l D cI cZ cP 0 (by decide) hm hv ) hP hD hS hA hm.1 rfl rfl ⟨by show _ ≤ d; omega, by show _ ≤ 30 * d; omega⟩ rfl hl.1 rfl (Nat.le_of_ble_eq_true rfl) dX9_lapse_31 ⟨Nat.le_refl _, Nat.le_refl _⟩ (kI fun H locs hP hD hS => ?_)
          refine W.eq (g2 := F0 m 34 L [.int (mLast (mLap ar (sc 0) i).2 (mI (nI i)))]) rfl ?_
          refine lv_aload_n hx hb dX9_lapse_34 rfl (lv_at hl 2 rfl) ?_
          refine mo_g0 X hP hm mw_449 dX9_lapse_35 ?_
          refine lv_icmp_lt (tgt := 44) hx hb dX9_lapse_38 (by decide) (fun c_38 => ?_) (fun c_38 => ?_)
          · -- c_38 True
            have c_38 : mLast ar i < sc 0 := by simp only [mI, hmi, mLap_last] at c_38; exact c_38
            refine lv_iload_n hx hb dX9_lapse_44 rfl (lv_at hl 1 rfl) ?_
            refine lv_aload_n hx hb dX9_lapse_45 rfl (lv_at hl 2 rfl) ?_
            refine mo_r2 X hP hm mw_457 dX9_lapse_46 ?_
            refine lv_iload_n hx hb dX9_lapse_49 rfl (lv_at hl 0 rfl) ?_
            refine mo_a2 X hP hm hv dX9_lapse_50 ?_
            refine lv_iadd hx hb dX9_lapse_51 ?_
            refine lv_istore_n (lv' := [(1, .int ((mLap ar (sc 0) i).1 + ((mLap ar (sc 0) i).2 2 (mI (nI i))))), (2, .int (nI i)), (0, .ref h)]) hx hb dX9_lapse_52 rfl hl (by decide) rfl (fun L hl => ?_)
            refine lv_aload_n hx hb dX9_lapse_53 rfl (lv_at hl 2 rfl) ?_
            refine mo_r2 X hP hm mw_457 dX9_lapse_54 ?_
            refine lv_iload_n hx hb dX9_lapse_57 rfl (lv_at hl 1 rfl) ?_
            refine lv_iconst (v := 0) hx hb dX9_lapse_58 (by decide) ?_
            refine mo_s2 X hP hD hS hm hfr hv dX9_lapse_59 (fun ws H locs hP hD hS hm hfr => ?_)
            refine lv_iinc (v := ((nI i) + 1)) (lv' := [(2, .int ((nI i) + 1)), (1, .int ((mLap ar (sc 0) i).1 + ((mLap ar (sc 0) i).2 2 (mI (nI i))))), (0, .ref h)]) hx hb dX9_lapse_60 hl (k := 1) rfl rfl (by decide) rfl (fun L hl => ?_)
            refine lv_goto (tgt := 4) hx hb dX9_lapse_63 (by decide) ?_
            have e1 : ((nI i) + 1) = nI (i + 1) := nI_1 i
            have e2 : mLap ar (sc 0) (i + 1) = (((mLap ar (sc 0) i).1 + ((mLap ar (sc 0) i).2 2 (mI (nI i)))), (mSet (mLap ar (sc 0) i).2 2 (mI (nI i)) 0)) := by simp only [mLap, if_pos c_18, if_neg c_26, if_pos c_38, mI, hmi, g1]
            refine ih (i + 1) (by omega) ws H locs L hP hD hS (by rw [e2]; exact hm) hfr ?_
            have hl := lv_sub hl [0, 1, 2] rfl
            have hl : lv_has L 3 [(2, .int ((nI i) + 1)), (1, .int ((mLap ar (sc 0) i).1 + ((mLap ar (sc 0) i).2 2 (mI (nI i))))), (0, .ref h)] := hl
            rw [e2, ← e1]
            exact hl
          · -- c_38 False
            have c_38 : ¬ mLast ar i < sc 0 := by simp only [mI, hmi, mLap_last] at c_38; exact c_38
            refine lv_goto (tgt := 60) hx hb dX9_lapse_41 (by decide) ?_
            refine lv_iinc (v := ((nI i) + 1)) (lv' := [(2, .int ((nI i) + 1)), (1, .int (mLap ar (sc 0) i).1), (0, .ref h)]) hx hb dX9_lapse_60 hl (k := 0) rfl rfl (by decide) rfl (fun L hl => ?_)
            refine lv_goto (tgt := 4) hx hb dX9_lapse_63 (by decide) ?_
            have e1 : ((nI i) + 1) = nI (i + 1) := nI_1 i
            have e2 : mLap ar (sc 0) (i + 1) = ((mLap ar (sc 0) i).1, (mLap ar (sc 0) i).2) := by simp only [mLap, if_pos c_18, if_neg c_26, if_neg c_38, mI, hmi, g1]
            refine ih (i + 1) (by omega) ws H locs L hP hD hS (by rw [e2]; exact hm) hfr ?_
            have hl := lv_sub hl [0, 1, 2] rfl
            have hl : lv_has L 3 [(2, .int ((nI i) + 1)), (1, .int (mLap ar (sc 0) i).1), (0, .ref h)] := hl
            rw [e2, ← e1]
            exact hl
set_option maxHeartbeats 4000000 in
set_option maxRecDepth 100000 in
theorem c_X9_total (l : Launch) (D : va_G) (cI cZ cP : ClassId) (d : Nat) (hd : 2 ≤ d) {ws : va_W} {h : Nat} {q ad : Nat → Nat} {sc : Nat → Int32} {ar : Nat → Nat → Int32} (hm : mo_at cI cZ ws h q ad sc ar) {n : Nat} (hn : sc 1 = nI n) (h40 : n ≤ 40) (t : Int32) : Ct l D (vTy cI cZ cP) yX9_total cX9_total 4 (some .int) d 0 0 [.ref h, .int t] ws (pI ws (mTotal sc ar t)) := by
  refine ct_intro (by decide) (Nat.le_of_ble_eq_true rfl) ?_
  intro p e s m below meth c A L X hin hP hD hS hA hl
  have hl : lv_has L 4 [(0, .ref h), (1, .int t)] := hl
  obtain ⟨hx, hb, hr, hml, hown, hts, hK, hlk, hxK⟩ := id X
  have hfr := mo_fr_rf ws
  refine lv_iload_n hx hb dX9_total_0 rfl (lv_at hl 1 rfl) ?_
  refine lv_iconst (v := 0) hx hb dX9_total_1 (by decide) ?_
  refine lv_sipush (v := 20000) hx hb dX9_total_2 (by decide) ?_
  refine g_static (As := [.int t, .int 0, .int 20000]) (rest := []) sw_X9_36 X (c_X9_within l D (vTy cI cZ cP) 0 (by decide) ws t 0 20000) hP hD hS hA ⟨by show _ ≤ d; omega, by show _ ≤ 30 * d; omega⟩ rfl hl.1 rfl (Nat.le_of_ble_eq_true rfl) dX9_total_5 ⟨Nat.le_refl _, Nat.le_refl _⟩ (kI fun H locs hP hD hS => ?_)
  refine W.eq (g2 := F0 m 8 L [.int (mWin t 0 20000)]) rfl ?_
  refine lv_if_ne (tgt := 14) hx hb dX9_total_8 (by decide) (fun c_8 => ?_) (fun c_8 => ?_)
  · -- c_8 True
    refine lv_iconst (v := 0) hx hb dX9_total_14 (by decide) ?_
    refine lv_istore_n (lv' := [(2, .int 0), (0, .ref h), (1, .int t)]) hx hb dX9_total_15 rfl hl (by decide) rfl (fun L hl => ?_)
    refine lv_iconst (v := 0) hx hb dX9_total_16 (by decide) ?_
    refine lv_istore_n (lv' := [(3, .int 0), (2, .int 0), (0, .ref h), (1, .int t)]) hx hb dX9_total_17 rfl hl (by decide) rfl (fun L hl => ?_)
    have e0 : n = mI (sc 1) := by rw [hn]; exact (nI_clamp (by omega)).symm
    refine lp_X9_total (ws := ws) (by omega) X hA hm hn h40 (t := t) (fun H locs L hP hD hS hl => ?_) n 0 (by omega) _ _ _ hP hD hS (lv_sub hl [0, 1, 2, 3] rfl)
    refine lv_iload_n hx hb dX9_total_54 rfl (lv_at hl 1 rfl) ?_
    exact e_int X hP hD hS dX9_total_55 ⟨by simp only [mTotal, if_neg c_8, ← e0], rfl⟩
  · -- c_8 False
    refine lv_bipush (v := (-2)) hx hb dX9_total_11 (by decide) ?_
    exact e_int X hP hD hS dX9_total_13 ⟨by first | rfl | simp only [mTotal, if_pos c_8] | (simp only [mTotal, if_pos c_8]; rfl), rfl⟩
set_option maxHeartbeats 4000000 in
set_option maxRecDepth 100000 in
theorem c_X9_leftOfAll (l : Launch) (D : va_G) (cI cZ cP : ClassId) (d : Nat) (hd : 1 ≤ d) {ws : va_W} {h : Nat} {q ad : Nat → Nat} {sc : Nat → Int32} {ar : Nat → Nat → Int32} (hm : mo_at cI cZ ws h q ad sc ar) {n : Nat} (hn : sc 1 = nI n) (h40 : n ≤ 40) : Ct l D (vTy cI cZ cP) yX9_leftOfAll cX9_leftOfAll 3 (some .int) d 0 0 [.ref h] ws (pI ws (mLeft sc ar)) := by
  refine ct_intro (by decide) (Nat.le_of_ble_eq_true rfl) ?_
  intro p e s m below meth c A L X hin hP hD hS hA hl
  have hl : lv_has L 3 [(0, .ref h)] := hl
  obtain ⟨hx, hb, hr, hml, hown, hts, hK, hlk, hxK⟩ := id X
  have hfr := mo_fr_rf ws
  refine lv_iconst (v := 0) hx hb dX9_leftOfAll_0 (by decide) ?_
  refine lv_istore_n (lv' := [(1, .int 0), (0, .ref h)]) hx hb dX9_leftOfAll_1 rfl hl (by decide) rfl (fun L hl => ?_)
  refine lv_iconst (v := 0) hx hb dX9_leftOfAll_2 (by decide) ?_
  refine lv_istore_n (lv' := [(2, .int 0), (1, .int 0), (0, .ref h)]) hx hb dX9_leftOfAll_3 rfl hl (by decide) rfl (fun L hl => ?_)
  have e0 : n = mI (sc 1) := by rw [hn]; exact (nI_clamp (by omega)).symm
  refine lp_X9_leftOfAll (ws := ws) (by omega) X hA hm hn h40 (fun H locs L hP hD hS hl => ?_) n 0 (by omega) _ _ _ hP hD hS (lv_sub hl [0, 1, 2] rfl)
  refine lv_iload_n hx hb dX9_leftOfAll_40 rfl (lv_at hl 1 rfl) ?_
  exact e_int X hP hD hS dX9_leftOfAll_41 ⟨by simp only [mLeft, ← e0], rfl⟩
set_option maxHeartbeats 4000000 in
set_option maxRecDepth 100000 in
theorem c_X9_count (l : Launch) (D : va_G) (cI cZ cP : ClassId) (d : Nat) (hd : 2 ≤ d) {ws : va_W} {h : Nat} {q ad : Nat → Nat} {sc : Nat → Int32} {ar : Nat → Nat → Int32} (hm : mo_at cI cZ ws h q ad sc ar) {n : Nat} (hn : sc 1 = nI n) (h40 : n ≤ 40) (w : Int32) : Ct l D (vTy cI cZ cP) yX9_count cX9_count 2 (some .int) d 0 0 [.ref h, .int w] ws (pI ws (mCount sc ar w)) := by
  refine ct_intro (by decide) (Nat.le_of_ble_eq_true rfl) ?_
  intro p e s m below meth c A L X hin hP hD hS hA hl
  have hl : lv_has L 2 [(0, .ref h), (1, .int w)] := hl
  obtain ⟨hx, hb, hr, hml, hown, hts, hK, hlk, hxK⟩ := id X
  have hfr := mo_fr_rf ws
  refine lv_iload_n hx hb dX9_count_0 rfl (lv_at hl 1 rfl) ?_
  by_cases s_1 : w.toInt < 0 ∨ 6 < w.toInt
  · refine lv_tableOut (tgt := 79) hx hb dX9_count_1 s_1 (by decide) ?_
    refine lv_bipush (v := (-2)) hx hb dX9_count_79 (by decide) ?_
    exact e_int X hP hD hS dX9_count_81 ⟨by first | rfl | (simp only [mCount, if_neg (sw_out (y := 0) s_1 (by decide)), if_neg (sw_out (y := 1) s_1 (by decide)), if_neg (sw_out (y := 2) s_1 (by decide)), if_neg (sw_out (y := 3) s_1 (by decide)), if_neg (sw_out (y := 4) s_1 (by decide)), if_neg (sw_out (y := 5) s_1 (by decide)), if_neg (sw_out (y := 6) s_1 (by decide))]; done) | (simp only [mCount, if_neg (sw_out (y := 0) s_1 (by decide)), if_neg (sw_out (y := 1) s_1 (by decide)), if_neg (sw_out (y := 2) s_1 (by decide)), if_neg (sw_out (y := 3) s_1 (by decide)), if_neg (sw_out (y := 4) s_1 (by decide)), if_neg (sw_out (y := 5) s_1 (by decide)), if_neg (sw_out (y := 6) s_1 (by decide))]; rfl), rfl⟩
  · have e_1 : w = 0 ∨ w = 1 ∨ w = 2 ∨ w = 3 ∨ w = 4 ∨ w = 5 ∨ w = 6 := sw_7 s_1
    rcases e_1 with f_0 | f_1 | f_2 | f_3 | f_4 | f_5 | f_6
    · refine lv_tableIn (tgt := 44) (off := 43) hx hb dX9_count_1 (by rw [f_0]; decide) (by rw [f_0]; decide) (by rw [f_0]; rfl) (by decide) ?_
      refine lv_aload_n hx hb dX9_count_44 rfl (lv_at hl 0 rfl) ?_
      refine mo_g0 X hP hm mw_449 dX9_count_45 ?_
      exact e_int X hP hD hS dX9_count_48 ⟨by subst f_0; first | (simp only [mCount]; done) | (simp only [mCount]; rfl) | (simp [mCount]; done), rfl⟩
    · refine lv_tableIn (tgt := 49) (off := 48) hx hb dX9_count_1 (by rw [f_1]; decide) (by rw [f_1]; decide) (by rw [f_1]; rfl) (by decide) ?_
      refine lv_aload_n hx hb dX9_count_49 rfl (lv_at hl 0 rfl) ?_
      refine mo_g1 X hP hm mw_450 dX9_count_50 ?_
      exact e_int X hP hD hS dX9_count_53 ⟨by subst f_1; first | (simp only [mCount]; done) | (simp only [mCount]; rfl) | (simp [mCount]; done), rfl⟩
    · refine lv_tableIn (tgt := 54) (off := 53) hx hb dX9_count_1 (by rw [f_2]; decide) (by rw [f_2]; decide) (by rw [f_2]; rfl) (by decide) ?_
      refine lv_aload_n hx hb dX9_count_54 rfl (lv_at hl 0 rfl) ?_
      refine mo_g2 X hP hm mw_451 dX9_count_55 ?_
      exact e_int X hP hD hS dX9_count_58 ⟨by subst f_2; first | (simp only [mCount]; done) | (simp only [mCount]; rfl) | (simp [mCount]; done), rfl⟩
    · refine lv_tableIn (tgt := 59) (off := 58) hx hb dX9_count_1 (by rw [f_3]; decide) (by rw [f_3]; decide) (by rw [f_3]; rfl) (by decide) ?_
      refine lv_aload_n hx hb dX9_count_59 rfl (lv_at hl 0 rfl) ?_
      refine mo_g3 X hP hm mw_452 dX9_count_60 ?_
      exact e_int X hP hD hS dX9_count_63 ⟨by subst f_3; first | (simp only [mCount]; done) | (simp only [mCount]; rfl) | (simp [mCount]; done), rfl⟩
    · refine lv_tableIn (tgt := 64) (off := 63) hx hb dX9_count_1 (by rw [f_4]; decide) (by rw [f_4]; decide) (by rw [f_4]; rfl) (by decide) ?_
      refine lv_aload_n hx hb dX9_count_64 rfl (lv_at hl 0 rfl) ?_
      refine mo_g4 X hP hm mw_453 dX9_count_65 ?_
      exact e_int X hP hD hS dX9_count_68 ⟨by subst f_4; first | (simp only [mCount]; done) | (simp only [mCount]; rfl) | (simp [mCount]; done), rfl⟩
    · refine lv_tableIn (tgt := 69) (off := 68) hx hb dX9_count_1 (by rw [f_5]; decide) (by rw [f_5]; decide) (by rw [f_5]; rfl) (by decide) ?_
      refine lv_aload_n hx hb dX9_count_69 rfl (lv_at hl 0 rfl) ?_
      refine mo_g5 X hP hm mw_454 dX9_count_70 ?_
      exact e_int X hP hD hS dX9_count_73 ⟨by subst f_5; first | (simp only [mCount]; done) | (simp only [mCount]; rfl) | (simp [mCount]; done), rfl⟩
    · refine lv_tableIn (tgt := 74) (off := 73) hx hb dX9_count_1 (by rw [f_6]; decide) (by rw [f_6]; decide) (by rw [f_6]; rfl) (by decide) ?_
      refine lv_aload_n hx hb dX9_count_74 rfl (lv_at hl 0 rfl) ?_
      refine g_priv (ci := 9) (cq := (RX9, TX9, 13)) (As := []) (rest := []) pw_X9_80 X (c_X9_leftOfAll l D cI cZ cP 1 (by decide) hm hn h40) hP hD hS hA hm.1 rfl rfl ⟨by show _ ≤ d; omega, by show _ ≤ 30 * d; omega⟩ rfl hl.1 rfl (Nat.le_of_ble_eq_true rfl) dX9_count_75 ⟨Nat.le_refl _, Nat.le_refl _⟩ (kI fun H locs hP hD hS => ?_)
      refine W.eq (g2 := F0 m 78 L [.int (mLeft sc ar)]) rfl ?_
      exact e_int X hP hD hS dX9_count_78 ⟨by subst f_6; first | (simp only [mCount]; done) | (simp only [mCount]; rfl) | (simp [mCount]; done), rfl⟩
set_option maxHeartbeats 4000000 in
set_option maxRecDepth 100000 in
theorem c_X9_lapse (l : Launch) (D : va_G) (cI cZ cP : ClassId) (d : Nat) (hd : 1 ≤ d) {ws : va_W} {h : Nat} {q ad : Nat → Nat} {sc : Nat → Int32} {ar : Nat → Nat → Int32} (hm : mo_at cI cZ ws h q ad sc ar) {n : Nat} (hn : sc 1 = nI n) (h40 : n ≤ 40) : Ct l D (vTy cI cZ cP) yX9_lapse cX9_lapse 3 (some .int) d 0 0 [.ref h] ws (pM cI cZ h q ad (mLapse sc ar) ws) := by
  refine ct_intro (by decide) (Nat.le_of_ble_eq_true rfl) ?_
  intro p e s m below meth c A L X hin hP hD hS hA hl
  have hl : lv_has L 3 [(0, .ref h)] := hl
  obtain ⟨hx, hb, hr, hml, hown, hts, hK, hlk, hxK⟩ := id X
  have hfr := mo_fr_rf ws
  refine lv_iconst (v := 0) hx hb dX9_lapse_0 (by decide) ?_
  refine lv_istore_n (lv' := [(1, .int 0), (0, .ref h)]) hx hb dX9_lapse_1 rfl hl (by decide) rfl (fun L hl => ?_)
  refine lv_iconst (v := 0) hx hb dX9_lapse_2 (by decide) ?_
  refine lv_istore_n (lv' := [(2, .int 0), (1, .int 0), (0, .ref h)]) hx hb dX9_lapse_3 rfl hl (by decide) rfl (fun L hl => ?_)
  have e0 : n = mI (sc 1) := by rw [hn]; exact (nI_clamp (by omega)).symm
  refine lp_X9_lapse (by omega) X hA hn h40 (fun ws H locs L hP hD hS hm hfr hl => ?_) n 0 (by omega) _ _ _ _ hP hD hS hm hfr (lv_sub hl [0, 1, 2] rfl)
  refine lv_aload_n hx hb dX9_lapse_66 rfl (lv_at hl 2 rfl) ?_
  refine lv_dup hx hb dX9_lapse_67 rfl ?_
  refine mo_g5 X hP hm mw_454 dX9_lapse_68 ?_
  refine lv_iload_n hx hb dX9_lapse_71 rfl (lv_at hl 1 rfl) ?_
  refine lv_iadd hx hb dX9_lapse_72 ?_
  refine mo_p5 X hP hD hS hm hfr mw_454 dX9_lapse_73 (fun ws H locs hP hD hS hm hfr => ?_)
  refine lv_iload_n hx hb dX9_lapse_76 rfl (lv_at hl 1 rfl) ?_
  exact e_int X hP hD hS dX9_lapse_77 (pM_of hm hfr (by simp only [mLapse, ← e0] <;> rfl))
