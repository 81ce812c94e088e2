theorem pw_X8_93 : PW RX8 93 "VoucherOffice" yX8_leftOfAll cX8_leftOfAll 4 (some .int) 0 := ⟨mw_439, mw_441, mp_1, mw_1, mw_442, by decide +kernel⟩
set_option maxHeartbeats 4000000 in
set_option maxRecDepth 100000 in
theorem lp_X8_total {p : Program} {l : Launch} {e : Env} {s : State} {m : MethodId} {args : Array Value} {below : List Frame} {meth : Method} {c : Code} {Q : State → Prop} {A : Nat → Prop} {D : va_G} {cI cZ cP : ClassId} {h p0 p1 ha n : Nat} {row : Nat → Option Nat} {pv : Nat → Nat} {sc : Nat → Int32} {ar : Nat → Nat → Int32} {d : Nat} {ws : va_W} (hd : 4 ≤ d) (X : Cx p m c meth s args "VoucherOffice" cX8_total 5 (some .int) D (vTy cI cZ cP)) (hA : ∀ q, s.heap.size ≤ q → A q) (hO : of_at cP ws h p0 p1 ha row pv sc ar n) (hI : mInv sc ar n) {t : Int32} (kend : ∀ (H : Heap) (locs : List Loc) (L : Array Slot), va_P D vwCl ws H → va_D A ws → va_S A s.heap H locs → lv_has L 5 [(3, .int (nI 40)), (2, .int (mSum ar (fun i => mVal ar i t) (min 40 n))), (0, .ref h), (1, .int t)] → W p l e (rm_d d 0 0) s m args below meth c H locs 0 0 Q (F0 m 51 L [])) : ∀ (j i : Nat), i + j = 40 → ∀ (H : Heap) (locs : List Loc) (L : Array Slot), va_P D vwCl ws H → va_D A ws → va_S A s.heap H locs → lv_has L 5 [(3, .int (nI i)), (2, .int (mSum ar (fun i => mVal ar i t) (min i n))), (0, .ref h), (1, .int t)] → W p l e (rm_d d 0 0) s m args below meth c H locs 0 0 Q (F0 m 18 L []) := by
  obtain ⟨hx, hb, hr, hml, hown, hts, hK, hlk, hxK⟩ := id X
  obtain ⟨hn, h40, hday, hvs, hout⟩ := id hI
  intro j
  induction j with
  | zero =>
    intro i hij H locs L hP hD hS hl
    have hi : i = 40 := by omega
    subst hi
    refine lv_iload_n hx hb dX8_total_18 rfl (lv_at hl 0 rfl) ?_
    refine lv_bipush (v := 40) hx hb dX8_total_19 (by decide) ?_
    refine lv_icmp_ge (tgt := 51) hx hb dX8_total_21 (by decide) (fun c_9 => ?_) (fun c_9 => ?_)
    · exact kend H locs L hP hD hS hl
    · exact absurd (by decide) c_9
  | succ j ih =>
    intro i hij H locs L hP hD hS hl
    have hi : i < 40 := by omega
    refine lv_iload_n hx hb dX8_total_18 rfl (lv_at hl 0 rfl) ?_
    refine lv_bipush (v := 40) hx hb dX8_total_19 (by decide) ?_
    refine lv_icmp_ge (tgt := 51) hx hb dX8_total_21 (by decide) (fun c_9 => ?_) (fun c_9 => ?_)
    · exact absurd c_9 (nI_ge (b := 40) hi (by decide))
    · skip
      refine lv_aload_n hx hb dX8_total_24 rfl (lv_at hl 2 rfl) ?_
      refine lv_iload_n hx hb dX8_total_25 rfl (lv_at hl 0 rfl) ?_
      refine g_priv (ci := 8) (cq := (RX8, TX8, 7)) (As := [.int (nI i)]) (rest := []) pw_X8_43 X (c_X8_find l D cI cZ cP 1 (by decide) hO hn h40 ((nI i))) hP hD hS hA hO.1 rfl rfl ⟨by show _ ≤ d; omega, by show _ ≤ 30 * d; omega⟩ rfl hl.1 rfl (Nat.le_of_ble_eq_true rfl) dX8_total_26 ⟨Nat.le_refl _, Nat.le_refl _⟩ (fun v1 ws1 H locs hq hP hD hS => ?_)
      obtain ⟨ew, hq⟩ := hq
      rw [ew] at hP hD
      rcases hq with ⟨hz_26, rfl⟩ | ⟨j_26, a_26, hj_26, ev_26, h6_26, hr_26, hz_26, rfl⟩
      · -- none
        refine W.eq (g2 := F0 m 29 L [.null]) rfl ?_
        refine lv_astoreN (lv' := [(4, .null), (3, .int (nI i)), (2, .int (mSum ar (fun i => mVal ar i t) (min i n))), (0, .ref h), (1, .int t)]) hx hb dX8_total_29 hl (by decide) rfl (fun L hl => ?_)
        refine lv_aloadN hx hb dX8_total_31 (lv_at hl 0 rfl) ?_
        refine lv_ifnullN (tgt := 45) hx hb dX8_total_33 (by decide) ?_
        refine lv_iinc (v := ((nI i) + 1)) (lv' := [(3, .int ((nI i) + 1)), (4, .null), (2, .int (mSum ar (fun i => mVal ar i t) (min i n))), (0, .ref h), (1, .int t)]) hx hb dX8_total_45 hl (k := 1) rfl rfl (by decide) rfl (fun L hl => ?_)
        refine lv_goto (tgt := 18) hx hb dX8_total_48 (by decide) ?_
        have e1 : ((nI i) + 1) = nI (i + 1) := nI_1 i
        have e2 : (mSum ar (fun i => mVal ar i t) (min i n)) = (mSum ar (fun i => mVal ar i t) (min (i + 1) n)) := (sum_no (the_back hn h40 hz_26)).symm
        have hl := lv_sub hl [0, 2, 3, 4] rfl
        have hl : lv_has L 5 [(3, .int ((nI i) + 1)), (2, .int (mSum ar (fun i => mVal ar i t) (min i n))), (0, .ref h), (1, .int t)] := hl
        rw [e1, e2] at hl
        exact ih (i + 1) (by omega) H locs L hP hD hS hl
      · -- found
        refine W.eq (g2 := F0 m 29 L [.ref a_26]) rfl ?_
        have hc_26 := (hO.get (by omega) hr_26).2
        obtain ⟨k_26, hvI_26⟩ := hvs j_26 hj_26
        have ek_26 : mI (ar 0 j_26) = k_26 := by rw [hvI_26.2.1]; exact nI_clamp (by have := hvI_26.1; omega)
        have em_26 : mI ((nI i)) = j_26 := by rw [ev_26]; exact nI_clamp (by omega)
        rw [ofE, ek_26] at hc_26
        refine lv_astore (lv' := [(4, .ref a_26), (3, .int (nI i)), (2, .int (mSum ar (fun i => mVal ar i t) (min i n))), (0, .ref h), (1, .int t)]) hx hb dX8_total_29 hl (by decide) rfl (fun L hl => ?_)
        refine lv_aload hx hb dX8_total_31 (lv_at hl 0 rfl) ?_
        refine lv_ifnull hx hb dX8_total_33 ?_
        refine lv_iload_n hx hb dX8_total_36 rfl (lv_at hl 2 rfl) ?_
        refine lv_aload hx hb dX8_total_37 (lv_at hl 0 rfl) ?_
        refine lv_iload_n hx hb dX8_total_39 rfl (lv_at hl 4 rfl) ?_
        refine dv_valueOn (rest := [.int (mSum ar (fun i => mVal ar i t) (min i n))]) X mw_181 hP hD hS hA hc_26 ⟨by show _ ≤ d; omega, by show _ ≤ 30 * d; omega⟩ hl.1 (Nat.le_of_ble_eq_true rfl) dX8_total_40 ⟨Nat.le_refl _, Nat.le_refl _⟩ (fun H locs hP hD hS => ?_)
        refine lv_iadd hx hb dX8_total_43 ?_
        refine lv_istore_n (lv' := [(2, .int ((mSum ar (fun i => mVal ar i t) (min i n)) + (vVal k_26 (ar 3 j_26) (ar 2 j_26) (ar 4 j_26) t))), (4, .ref a_26), (3, .int (nI i)), (0, .ref h), (1, .int t)]) hx hb dX8_total_44 rfl hl (by decide) rfl (fun L hl => ?_)
        refine lv_iinc (v := ((nI i) + 1)) (lv' := [(3, .int ((nI i) + 1)), (2, .int ((mSum ar (fun i => mVal ar i t) (min i n)) + (vVal k_26 (ar 3 j_26) (ar 2 j_26) (ar 4 j_26) t))), (4, .ref a_26), (0, .ref h), (1, .int t)]) hx hb dX8_total_45 hl (k := 2) rfl rfl (by decide) rfl (fun L hl => ?_)
        refine lv_goto (tgt := 18) hx hb dX8_total_48 (by decide) ?_
        have e1 : ((nI i) + 1) = nI (i + 1) := nI_1 i
        have eij : i = j_26 := (nI_eq (by omega) (by omega)).mp ev_26
        have e2 : ((mSum ar (fun i => mVal ar i t) (min i n)) + (vVal k_26 (ar 3 j_26) (ar 2 j_26) (ar 4 j_26) t)) = (mSum ar (fun i => mVal ar i t) (min (i + 1) n)) := by
          rw [sum_yes (i := i) (by omega) (by rw [eij]; exact h6_26)]
          rw [eij]
          all_goals exact congrArg (fun z => _ + z) ((val_eq hvI_26.1 hvI_26.2.1 t).symm)
        have hl := lv_sub hl [0, 1, 3, 4] rfl
        have hl : lv_has L 5 [(3, .int ((nI i) + 1)), (2, .int ((mSum ar (fun i => mVal ar i t) (min i n)) + (vVal k_26 (ar 3 j_26) (ar 2 j_26) (ar 4 j_26) t))), (0, .ref h), (1, .int t)] := hl
        rw [e1, e2] at hl
        exact ih (i + 1) (by omega) H locs L hP hD hS hl
set_option maxHeartbeats 4000000 in
set_option maxRecDepth 100000 in
theorem lp_X8_leftOfAll {p : Program} {l : Launch} {e : Env} {s : State} {m : MethodId} {args : Array Value} {below : List Frame} {meth : Method} {c : Code} {Q : State → Prop} {A : Nat → Prop} {D : va_G} {cI cZ cP : ClassId} {h p0 p1 ha n : Nat} {row : Nat → Option Nat} {pv : Nat → Nat} {sc : Nat → Int32} {ar : Nat → Nat → Int32} {d : Nat} {ws : va_W} (hd : 2 ≤ d) (X : Cx p m c meth s args "VoucherOffice" cX8_leftOfAll 4 (some .int) D (vTy cI cZ cP)) (hA : ∀ q, s.heap.size ≤ q → A q) (hO : of_at cP ws h p0 p1 ha row pv sc ar n) (hI : mInv sc ar n) (kend : ∀ (H : Heap) (locs : List Loc) (L : Array Slot), va_P D vwCl ws H → va_D A ws → va_S A s.heap H locs → lv_has L 4 [(2, .int (nI 40)), (1, .int (mSum ar (fun i => ar 2 i) (min 40 n))), (0, .ref h)] → W p l e (rm_d d 0 0) s m args below meth c H locs 0 0 Q (F0 m 33 L [])) : ∀ (j i : Nat), i + j = 40 → ∀ (H : Heap) (locs : List Loc) (L : Array Slot), va_P D vwCl ws H → va_D A ws → va_S A s.heap H locs → lv_has L 4 [(2, .int (nI i)), (1, .int (mSum ar (fun i => ar 2 i) (min i n))), (0, .ref h)] → W p l e (rm_d d 0 0) s m args below meth c H locs 0 0 Q (F0 m 4 L []) := by
  obtain ⟨hx, hb, hr, hml, hown, hts, hK, hlk, hxK⟩ := id X
  obtain ⟨hn, h40, hday, hvs, hout⟩ := id hI
  intro j
  induction j with
  | zero =>
    intro i hij H locs L hP hD hS hl
    have hi : i = 40 := by omega
    subst hi
    refine lv_iload_n hx hb dX8_leftOfAll_4 rfl (lv_at hl 0 rfl) ?_
    refine lv_bipush (v := 40) hx hb dX8_leftOfAll_5 (by decide) ?_
    refine lv_icmp_ge (tgt := 33) hx hb dX8_leftOfAll_7 (by decide) (fun c_9 => ?_) (fun c_9 => ?_)
    · exact kend H locs L hP hD hS hl
    · exact absurd (by decide) c_9
  | succ j ih =>
    intro i hij H locs L hP hD hS hl
    have hi : i < 40 := by omega
    refine lv_iload_n hx hb dX8_leftOfAll_4 rfl (lv_at hl 0 rfl) ?_
    refine lv_bipush (v := 40) hx hb dX8_leftOfAll_5 (by decide) ?_
    refine lv_icmp_ge (tgt := 33) hx hb dX8_leftOfAll_7 (by decide) (fun c_9 => ?_) (fun c_9 => ?_)
    · exact absurd c_9 (nI_ge (b := 40) hi (by decide))
    · skip
      refine lv_aload_n hx hb dX8_leftOfAll_10 rfl (lv_at hl 2 rfl) ?_
      refine lv_iload_n hx hb dX8_leftOfAll_11 rfl (lv_at hl 0 rfl) ?_
      refine g_priv (ci := 8) (cq := (RX8, TX8, 7)) (As := [.int (nI i)]) (rest := []) pw_X8_43 X (c_X8_find l D cI cZ cP 1 (by decide) hO hn h40 ((nI i))) hP hD hS hA hO.1 rfl rfl ⟨by show _ ≤ d; omega, by show _ ≤ 30 * d; omega⟩ rfl hl.1 rfl (Nat.le_of_ble_eq_true rfl) dX8_leftOfAll_12 ⟨Nat.le_refl _, Nat.le_refl _⟩ (fun v1 ws1 H locs hq hP hD hS => ?_)
      obtain ⟨ew, hq⟩ := hq
      rw [ew] at hP hD
      rcases hq with ⟨hz_12, rfl⟩ | ⟨j_12, a_12, hj_12, ev_12, h6_12, hr_12, hz_12, rfl⟩
      · -- none
        refine W.eq (g2 := F0 m 15 L [.null]) rfl ?_
        refine lv_astore_nN (lv' := [(3, .null), (2, .int (nI i)), (1, .int (mSum ar (fun i => ar 2 i) (min i n))), (0, .ref h)]) hx hb dX8_leftOfAll_15 rfl hl (by decide) rfl (fun L hl => ?_)
        refine lv_aload_nN hx hb dX8_leftOfAll_16 rfl (lv_at hl 0 rfl) ?_
        refine lv_ifnullN (tgt := 27) hx hb dX8_leftOfAll_17 (by decide) ?_
        refine lv_iinc (v := ((nI i) + 1)) (lv' := [(2, .int ((nI i) + 1)), (3, .null), (1, .int (mSum ar (fun i => ar 2 i) (min i n))), (0, .ref h)]) hx hb dX8_leftOfAll_27 hl (k := 1) rfl rfl (by decide) rfl (fun L hl => ?_)
        refine lv_goto (tgt := 4) hx hb dX8_leftOfAll_30 (by decide) ?_
        have e1 : ((nI i) + 1) = nI (i + 1) := nI_1 i
        have e2 : (mSum ar (fun i => ar 2 i) (min i n)) = (mSum ar (fun i => ar 2 i) (min (i + 1) n)) := (sum_no (the_back hn h40 hz_12)).symm
        have hl := lv_sub hl [0, 2, 3] rfl
        have hl : lv_has L 4 [(2, .int ((nI i) + 1)), (1, .int (mSum ar (fun i => ar 2 i) (min i n))), (0, .ref h)] := hl
        rw [e1, e2] at hl
        exact ih (i + 1) (by omega) H locs L hP hD hS hl
      · -- found
        refine W.eq (g2 := F0 m 15 L [.ref a_12]) rfl ?_
        have hc_12 := (hO.get (by omega) hr_12).2
        obtain ⟨k_12, hvI_12⟩ := hvs j_12 hj_12
        have ek_12 : mI (ar 0 j_12) = k_12 := by rw [hvI_12.2.1]; exact nI_clamp (by have := hvI_12.1; omega)
        have em_12 : mI ((nI i)) = j_12 := by rw [ev_12]; exact nI_clamp (by omega)
        rw [ofE, ek_12] at hc_12
        refine lv_astore_n (lv' := [(3, .ref a_12), (2, .int (nI i)), (1, .int (mSum ar (fun i => ar 2 i) (min i n))), (0, .ref h)]) hx hb dX8_leftOfAll_15 rfl hl (by decide) rfl (fun L hl => ?_)
        refine lv_aload_n hx hb dX8_leftOfAll_16 rfl (lv_at hl 0 rfl) ?_
        refine lv_ifnull hx hb dX8_leftOfAll_17 ?_
        refine lv_iload_n hx hb dX8_leftOfAll_20 rfl (lv_at hl 2 rfl) ?_
        refine lv_aload_n hx hb dX8_leftOfAll_21 rfl (lv_at hl 0 rfl) ?_
        refine vo_gL X hP hc_12 mw_73 (Or.inl rfl) dX8_leftOfAll_22 ?_
        refine lv_iadd hx hb dX8_leftOfAll_25 ?_
        refine lv_istore_n (lv' := [(1, .int ((mSum ar (fun i => ar 2 i) (min i n)) + (ar 2 j_12))), (3, .ref a_12), (2, .int (nI i)), (0, .ref h)]) hx hb dX8_leftOfAll_26 rfl hl (by decide) rfl (fun L hl => ?_)
        refine lv_iinc (v := ((nI i) + 1)) (lv' := [(2, .int ((nI i) + 1)), (1, .int ((mSum ar (fun i => ar 2 i) (min i n)) + (ar 2 j_12))), (3, .ref a_12), (0, .ref h)]) hx hb dX8_leftOfAll_27 hl (k := 2) rfl rfl (by decide) rfl (fun L hl => ?_)
        refine lv_goto (tgt := 4) hx hb dX8_leftOfAll_30 (by decide) ?_
        have e1 : ((nI i) + 1) = nI (i + 1) := nI_1 i
        have eij : i = j_12 := (nI_eq (by omega) (by omega)).mp ev_12
        have e2 : ((mSum ar (fun i => ar 2 i) (min i n)) + (ar 2 j_12)) = (mSum ar (fun i => ar 2 i) (min (i + 1) n)) := by
          rw [sum_yes (i := i) (by omega) (by rw [eij]; exact h6_12)]
          rw [eij]
          all_goals exact congrArg (fun z => _ + z) (rfl)
        have hl := lv_sub hl [0, 1, 3] rfl
        have hl : lv_has L 4 [(2, .int ((nI i) + 1)), (1, .int ((mSum ar (fun i => ar 2 i) (min i n)) + (ar 2 j_12))), (0, .ref h)] := hl
        rw [e1, e2] at hl
        exact ih (i + 1) (by omega) H locs L hP hD hS hl
set_option maxHeartbeats 4000000 in
set_option maxRecDepth 100000 in
theorem lp_X8_lapse {p : Program} {l : Launch} {e : Env} {s : State} {m : MethodId} {args : Array Value} {below : List Frame} {meth : Method} {c : Code} {Q : State → Prop} {A : Nat → Prop} {D : va_G} {cI cZ cP : ClassId} {h p0 p1 ha n : Nat} {row : Nat → Option Nat} {pv : Nat → Nat} {sc : Nat → Int32} {ar : Nat → Nat → Int32} {d : Nat} {ws0 : va_W} (hd : 2 ≤ d) (X : Cx p m c meth s args "VoucherOffice" cX8_lapse 4 (some .int) D (vTy cI cZ cP)) (hA : ∀ q, s.heap.size ≤ q → A q) (hI : mInv sc ar n) (kend : ∀ (ws : va_W) (H : Heap) (locs : List Loc) (L : Array Slot), va_P D vwCl ws H → va_D A ws → va_S A s.heap H locs → of_at cP ws h p0 p1 ha row pv sc (mLap ar (sc 0) (min 40 n)).2 n → of_fr ws0 ws → lv_has L 4 [(2, .int (nI 40)), (1, .int (mLap ar (sc 0) (min 40 n)).1), (0, .ref h)] → W p l e (rm_d d 0 0) s m args below meth c H locs 0 0 Q (F0 m 37 L [])) : ∀ (j i : Nat), i + j = 40 → ∀ (ws : va_W) (H : Heap) (locs : List Loc) (L : Array Slot), va_P D vwCl ws H → va_D A ws → va_S A s.heap H locs → of_at cP ws h p0 p1 ha row pv sc (mLap ar (sc 0) (min i n)).2 n → of_fr ws0 ws → lv_has L 4 [(2, .int (nI i)), (1, .int (mLap ar (sc 0) (min i n)).1), (0, .ref h)] → W p l e (rm_d d 0 0) s m args below meth c H locs 0 0 Q (F0 m 4 L []) := by
  obtain ⟨hx, hb, hr, hml, hown, hts, hK, hlk, hxK⟩ := id X
  obtain ⟨hn, h40, hday, hvs0, hout⟩ := id hI
  intro j
  induction j with
  | zero =>
    intro i hij ws H locs L hP hD hS hO hfr hl
    have hi : i = 40 := by omega
    subst hi
    refine lv_iload_n hx hb dX8_lapse_4 rfl (lv_at hl 0 rfl) ?_
    refine lv_bipush (v := 40) hx hb dX8_lapse_5 (by decide) ?_
    refine lv_icmp_ge (tgt := 37) hx hb dX8_lapse_7 (by decide) (fun c_9 => ?_) (fun c_9 => ?_)
    · exact kend ws H locs L hP hD hS hO hfr hl
    · exact absurd (by decide) c_9
  | succ j ih =>
    intro i hij ws H locs L hP hD hS hO hfr hl
    have hi : i < 40 := by omega
    obtain ⟨x, B, hB⟩ : ∃ x B, mLap ar (sc 0) (min i n) = (x, B) := ⟨_, _, rfl⟩
    have hvs : ∀ v, v < n → ∃ k, vInv B v k := fun v hv => by
      obtain ⟨k, hk⟩ := hvs0 v hv
      refine ⟨k, ?_⟩
      have := mLap_inv (day := sc 0) (i := min i n) hk
      rw [hB] at this
      exact this
    have hB6 : ∀ v, B 6 v = ar 6 v := fun v => by
      have := (mLap_key ar (sc 0) (min i n)).1 6 (by decide)
      rw [hB] at this
      exact congrFun this v
    rw [hB] at hO hl
    have hl : lv_has L 4 [(2, .int (nI i)), (1, .int x), (0, .ref h)] := hl
    have hO : of_at cP ws h p0 p1 ha row pv sc B n := hO
    refine lv_iload_n hx hb dX8_lapse_4 rfl (lv_at hl 0 rfl) ?_
    refine lv_bipush (v := 40) hx hb dX8_lapse_5 (by decide) ?_
    refine lv_icmp_ge (tgt := 37) hx hb dX8_lapse_7 (by decide) (fun c_9 => ?_) (fun c_9 => ?_)
    · exact absurd c_9 (nI_ge (b := 40) hi (by decide))
    · skip
      refine lv_aload_n hx hb dX8_lapse_10 rfl (lv_at hl 2 rfl) ?_
      refine lv_iload_n hx hb dX8_lapse_11 rfl (lv_at hl 0 rfl) ?_
      refine g_priv (ci := 8) (cq := (RX8, TX8, 7)) (As := [.int (nI i)]) (rest := []) pw_X8_43 X (c_X8_find l D cI cZ cP 1 (by decide) hO hn h40 ((nI i))) hP hD hS hA hO.1 rfl rfl ⟨by show _ ≤ d; omega, by show _ ≤ 30 * d; omega⟩ rfl hl.1 rfl (Nat.le_of_ble_eq_true rfl) dX8_lapse_12 ⟨Nat.le_refl _, Nat.le_refl _⟩ (fun v1 ws1 H locs hq hP hD hS => ?_)
      obtain ⟨ew, hq⟩ := hq
      rw [ew] at hP hD
      rcases hq with ⟨hz_12, rfl⟩ | ⟨j_12, a_12, hj_12, ev_12, h6_12, hr_12, hz_12, rfl⟩
      · -- none
        refine W.eq (g2 := F0 m 15 L [.null]) rfl ?_
        refine lv_astore_nN (lv' := [(3, .null), (2, .int (nI i)), (1, .int x), (0, .ref h)]) hx hb dX8_lapse_15 rfl hl (by decide) rfl (fun L hl => ?_)
        refine lv_aload_nN hx hb dX8_lapse_16 rfl (lv_at hl 0 rfl) ?_
        refine lv_ifnullN (tgt := 31) hx hb dX8_lapse_17 (by decide) ?_
        refine lv_iinc (v := ((nI i) + 1)) (lv' := [(2, .int ((nI i) + 1)), (3, .null), (1, .int x), (0, .ref h)]) hx hb dX8_lapse_31 hl (k := 1) rfl rfl (by decide) rfl (fun L hl => ?_)
        refine lv_goto (tgt := 4) hx hb dX8_lapse_34 (by decide) ?_
        have e1 : ((nI i) + 1) = nI (i + 1) := nI_1 i
        have e2 : mLap ar (sc 0) (min (i + 1) n) = (x, B) := (lap_no (fun z => the_back hn h40 hz_12 ⟨z.1, by rw [hB6]; exact z.2⟩)).trans hB
        refine ih (i + 1) (by omega) ws H locs L hP hD hS (by rw [e2]; exact hO) hfr ?_
        rw [e2, ← e1]
        exact lv_sub hl [0, 2, 3] rfl
      · -- found
        refine W.eq (g2 := F0 m 15 L [.ref a_12]) rfl ?_
        have hc_12 := (hO.get (by omega) hr_12).2
        obtain ⟨k_12, hvI_12⟩ := hvs j_12 hj_12
        have ek_12 : mI (B 0 j_12) = k_12 := by rw [hvI_12.2.1]; exact nI_clamp (by have := hvI_12.1; omega)
        have em_12 : mI ((nI i)) = j_12 := by rw [ev_12]; exact nI_clamp (by omega)
        rw [ofE, ek_12] at hc_12
        refine lv_astore_n (lv' := [(3, .ref a_12), (2, .int (nI i)), (1, .int x), (0, .ref h)]) hx hb dX8_lapse_15 rfl hl (by decide) rfl (fun L hl => ?_)
        refine lv_aload_n hx hb dX8_lapse_16 rfl (lv_at hl 0 rfl) ?_
        refine lv_ifnull hx hb dX8_lapse_17 ?_
        refine lv_iload_n hx hb dX8_lapse_20 rfl (lv_at hl 2 rfl) ?_
        refine lv_aload_n hx hb dX8_lapse_21 rfl (lv_at hl 0 rfl) ?_
        refine lv_aload_n hx hb dX8_lapse_22 rfl (lv_at hl 3 rfl) ?_
        refine of_g0 X hP hO.1 mw_24 dX8_lapse_23 ?_
        refine dv_lapseOn (rest := [.int x]) X mw_346 hP hD hS hA hc_12 ⟨by show _ ≤ d; omega, by show _ ≤ 30 * d; omega⟩ hl.1 (Nat.le_of_ble_eq_true rfl) dX8_lapse_26 ⟨Nat.le_refl _, Nat.le_refl _⟩ (fun H locs hP hD hS => ?_)
        have eij : i = j_12 := (nI_eq (by omega) (by omega)).mp ev_12
        subst eij
        have em1 : min i n = i := by omega
        have em2 : min (i + 1) n = i + 1 := by omega
        rw [em1] at hB
        obtain ⟨y1, y2, y3, y4⟩ := lap_yes hB (by rw [← hB6]; exact h6_12) hvI_12
        rw [y2] at hP hD
        have hfr := of_fr_tr hfr (of_fr_set (y := (a_12, ofE (mLap ar (sc 0) (i + 1)).2 i)) hc_12 (vo_nM _ _ _ _ _ _ _))
        have hO := hO.setV (by omega) hr_12 _ y3 y4 rfl
        refine lv_iadd hx hb dX8_lapse_29 ?_
        refine lv_istore_n (lv' := [(1, .int (x + (vLR k_12 (B 3 i) (B 2 i) (sc 0)))), (3, .ref a_12), (2, .int (nI i)), (0, .ref h)]) hx hb dX8_lapse_30 rfl hl (by decide) rfl (fun L hl => ?_)
        refine lv_iinc (v := ((nI i) + 1)) (lv' := [(2, .int ((nI i) + 1)), (1, .int (x + (vLR k_12 (B 3 i) (B 2 i) (sc 0)))), (3, .ref a_12), (0, .ref h)]) hx hb dX8_lapse_31 hl (k := 2) rfl rfl (by decide) rfl (fun L hl => ?_)
        refine lv_goto (tgt := 4) hx hb dX8_lapse_34 (by decide) ?_
        have e1 : ((nI i) + 1) = nI (i + 1) := nI_1 i
        refine ih (i + 1) (by omega) _ H locs L hP hD hS (by rw [em2]; exact hO) hfr ?_
        rw [em2, y1, ← e1]
        exact lv_sub hl [0, 1, 3] rfl
set_option maxHeartbeats 4000000 in
set_option maxRecDepth 100000 in
theorem c_X8_total (l : Launch) (D : va_G) (cI cZ cP : ClassId) (d : Nat) (hd : 4 ≤ d) {ws : va_W} {h p0 p1 ha n : Nat} {row : Nat → Option Nat} {pv : Nat → Nat} {sc : Nat → Int32} {ar : Nat → Nat → Int32} (hO : of_at cP ws h p0 p1 ha row pv sc ar n) (hI : mInv sc ar n) (t : Int32) : Ct l D (vTy cI cZ cP) yX8_total cX8_total 5 (some .int) d 0 0 [.ref h, .int t] ws (pI ws (mTotal sc ar t)) := by
  obtain ⟨hn, h40, hday, hvs, hout⟩ := id hI
  refine ct_intro (by decide) (Nat.le_of_ble_eq_true rfl) ?_
  intro p e s m below meth c A L X hin hP hD hS hA hl
  have hl : lv_has L 5 [(0, .ref h), (1, .int t)] := hl
  obtain ⟨hx, hb, hr, hml, hown, hts, hK, hlk, hxK⟩ := id X
  have hfr := of_fr_rf ws
  refine lv_iload_n hx hb dX8_total_0 rfl (lv_at hl 1 rfl) ?_
  refine lv_iconst (v := 0) hx hb dX8_total_1 (by decide) ?_
  refine lv_sipush (v := 20000) hx hb dX8_total_2 (by decide) ?_
  refine g_static (As := [.int t, .int 0, .int 20000]) (rest := []) sw_X8_34 X (c_X8_isOutside l D (vTy cI cZ cP) 0 (by decide) ws t 0 20000) hP hD hS hA ⟨by show _ ≤ d; omega, by show _ ≤ 30 * d; omega⟩ rfl hl.1 rfl (Nat.le_of_ble_eq_true rfl) dX8_total_5 ⟨Nat.le_refl _, Nat.le_refl _⟩ (kI fun H locs hP hD hS => ?_)
  refine W.eq (g2 := F0 m 8 L [.int (mOut t 0 20000)]) rfl ?_
  refine lv_if_eq (tgt := 14) hx hb dX8_total_8 (by decide) (fun c_8 => ?_) (fun c_8 => ?_)
  · -- c_8 True
    have c_8 : ¬ mWin t 0 20000 = 0 := out_0 c_8
    refine lv_iconst (v := 0) hx hb dX8_total_14 (by decide) ?_
    refine lv_istore_n (lv' := [(2, .int 0), (0, .ref h), (1, .int t)]) hx hb dX8_total_15 rfl hl (by decide) rfl (fun L hl => ?_)
    refine lv_iconst (v := 0) hx hb dX8_total_16 (by decide) ?_
    refine lv_istore_n (lv' := [(3, .int 0), (2, .int 0), (0, .ref h), (1, .int t)]) hx hb dX8_total_17 rfl hl (by decide) rfl (fun L hl => ?_)
    have e0 : min 40 n = mI (sc 1) := by rw [hn]; show min 40 n = (nI n).toNatClampNeg; rw [nI_clamp (by omega)]; omega
    refine lp_X8_total (ws := ws) (by omega) X hA hO hI (t := t) (fun H locs L hP hD hS hl => ?_) 40 0 (by omega) _ _ _ hP hD hS (by rw [Nat.zero_min]; exact lv_sub hl [0, 1, 2, 3] rfl)
    refine lv_iload_n hx hb dX8_total_51 rfl (lv_at hl 1 rfl) ?_
    exact e_int X hP hD hS dX8_total_52 ⟨by simp only [mTotal, if_neg c_8, e0], rfl⟩
  · -- c_8 False
    have c_8 : mWin t 0 20000 = 0 := out_1 c_8
    refine lv_bipush (v := (-2)) hx hb dX8_total_11 (by decide) ?_
    exact e_int X hP hD hS dX8_total_13 ⟨by simp only [mTotal, if_pos c_8], rfl⟩
set_option maxHeartbeats 4000000 in
set_option maxRecDepth 100000 in
theorem c_X8_leftOfAll (l : Launch) (D : va_G) (cI cZ cP : ClassId) (d : Nat) (hd : 2 ≤ d) {ws : va_W} {h p0 p1 ha n : Nat} {row : Nat → Option Nat} {pv : Nat → Nat} {sc : Nat → Int32} {ar : Nat → Nat → Int32} (hO : of_at cP ws h p0 p1 ha row pv sc ar n) (hI : mInv sc ar n)  : Ct l D (vTy cI cZ cP) yX8_leftOfAll cX8_leftOfAll 4 (some .int) d 0 0 [.ref h] ws (pI ws (mLeft sc ar)) := by
  obtain ⟨hn, h40, hday, hvs, hout⟩ := id hI
  refine ct_intro (by decide) (Nat.le_of_ble_eq_true rfl) ?_
  intro p e s m below meth c A L X hin hP hD hS hA hl
  have hl : lv_has L 4 [(0, .ref h)] := hl
  obtain ⟨hx, hb, hr, hml, hown, hts, hK, hlk, hxK⟩ := id X
  have hfr := of_fr_rf ws
  refine lv_iconst (v := 0) hx hb dX8_leftOfAll_0 (by decide) ?_
  refine lv_istore_n (lv' := [(1, .int 0), (0, .ref h)]) hx hb dX8_leftOfAll_1 rfl hl (by decide) rfl (fun L hl => ?_)
  refine lv_iconst (v := 0) hx hb dX8_leftOfAll_2 (by decide) ?_
  refine lv_istore_n (lv' := [(2, .int 0), (1, .int 0), (0, .ref h)]) hx hb dX8_leftOfAll_3 rfl hl (by decide) rfl (fun L hl => ?_)
  have e0 : min 40 n = mI (sc 1) := by rw [hn]; show min 40 n = (nI n).toNatClampNeg; rw [nI_clamp (by omega)]; omega
  refine lp_X8_leftOfAll (ws := ws) (by omega) X hA hO hI (fun H locs L hP hD hS hl => ?_) 40 0 (by omega) _ _ _ hP hD hS (by rw [Nat.zero_min]; exact lv_sub hl [0, 1, 2] rfl)
  refine lv_iload_n hx hb dX8_leftOfAll_33 rfl (lv_at hl 1 rfl) ?_
  exact e_int X hP hD hS dX8_leftOfAll_34 ⟨by simp only [mLeft, e0], rfl⟩
set_option maxHeartbeats 4000000 in
set_option maxRecDepth 100000 in
theorem c_X8_count (l : Launch) (D : va_G) (cI cZ cP : ClassId) (d : Nat) (hd : 3 ≤ d) {ws : va_W} {h p0 p1 ha n : Nat} {row : Nat → Option Nat} {pv : Nat → Nat} {sc : Nat → Int32} {ar : Nat → Nat → Int32} (hO : of_at cP ws h p0 p1 ha row pv sc ar n) (hI : mInv sc ar n) (w : Int32) : Ct l D (vTy cI cZ cP) yX8_count cX8_count 2 (some .int) d 0 0 [.ref h, .int w] ws (pI ws (mCount sc ar w)) := by
  obtain ⟨hn, h40, hday, hvs, hout⟩ := id hI
  refine ct_intro (by decide) (Nat.le_of_ble_eq_true rfl) ?_
  intro p e s m below meth c A L X hin hP hD hS hA hl
  have hl : lv_has L 2 [(0, .ref h), (1, .int w)] := hl
  obtain ⟨hx, hb, hr, hml, hown, hts, hK, hlk, hxK⟩ := id X
  have hfr := of_fr_rf ws
  refine lv_iload_n hx hb dX8_count_0 rfl (lv_at hl 1 rfl) ?_
  by_cases s_1 : w.toInt < 0 ∨ 6 < w.toInt
  · refine lv_tableOut (tgt := 79) hx hb dX8_count_1 s_1 (by decide) ?_
    refine lv_bipush (v := (-2)) hx hb dX8_count_79 (by decide) ?_
    exact e_int X hP hD hS dX8_count_81 ⟨by simp only [mCount, if_neg (sw_out (y := 0) s_1 (by decide)), if_neg (sw_out (y := 1) s_1 (by decide)), if_neg (sw_out (y := 2) s_1 (by decide)), if_neg (sw_out (y := 3) s_1 (by decide)), if_neg (sw_out (y := 4) s_1 (by decide)), if_neg (sw_out (y := 5) s_1 (by decide)), if_neg (sw_out (y := 6) s_1 (by decide))], rfl⟩
  · have e_1 : w = 0 ∨ w = 1 ∨ w = 2 ∨ w = 3 ∨ w = 4 ∨ w = 5 ∨ w = 6 := sw_7 s_1
    rcases e_1 with f_0 | f_1 | f_2 | f_3 | f_4 | f_5 | f_6
    · refine lv_tableIn (tgt := 44) (off := 43) hx hb dX8_count_1 (by rw [f_0]; decide) (by rw [f_0]; decide) (by rw [f_0]; rfl) (by decide) ?_
      refine lv_aload_n hx hb dX8_count_44 rfl (lv_at hl 0 rfl) ?_
      refine of_g0 X hP hO.1 mw_24 dX8_count_45 ?_
      exact e_int X hP hD hS dX8_count_48 ⟨by subst f_0; simp only [mCount, if_pos], rfl⟩
    · refine lv_tableIn (tgt := 49) (off := 48) hx hb dX8_count_1 (by rw [f_1]; decide) (by rw [f_1]; decide) (by rw [f_1]; rfl) (by decide) ?_
      refine lv_aload_n hx hb dX8_count_49 rfl (lv_at hl 0 rfl) ?_
      refine of_g1 X hP hO.1 mw_23 dX8_count_50 ?_
      exact e_int X hP hD hS dX8_count_53 ⟨by subst f_1; simp only [mCount, if_neg (by decide : ¬ (1 : Int32) = 0), if_pos], rfl⟩
    · refine lv_tableIn (tgt := 54) (off := 53) hx hb dX8_count_1 (by rw [f_2]; decide) (by rw [f_2]; decide) (by rw [f_2]; rfl) (by decide) ?_
      refine lv_aload_n hx hb dX8_count_54 rfl (lv_at hl 0 rfl) ?_
      refine of_g2 X hP hO.1 mw_25 dX8_count_55 ?_
      exact e_int X hP hD hS dX8_count_58 ⟨by subst f_2; simp only [mCount, if_neg (by decide : ¬ (2 : Int32) = 0), if_neg (by decide : ¬ (2 : Int32) = 1), if_pos], rfl⟩
    · refine lv_tableIn (tgt := 59) (off := 58) hx hb dX8_count_1 (by rw [f_3]; decide) (by rw [f_3]; decide) (by rw [f_3]; rfl) (by decide) ?_
      refine lv_aload_n hx hb dX8_count_59 rfl (lv_at hl 0 rfl) ?_
      refine of_g3 X hP hO.1 mw_26 dX8_count_60 ?_
      exact e_int X hP hD hS dX8_count_63 ⟨by subst f_3; simp only [mCount, if_neg (by decide : ¬ (3 : Int32) = 0), if_neg (by decide : ¬ (3 : Int32) = 1), if_neg (by decide : ¬ (3 : Int32) = 2), if_pos], rfl⟩
    · refine lv_tableIn (tgt := 64) (off := 63) hx hb dX8_count_1 (by rw [f_4]; decide) (by rw [f_4]; decide) (by rw [f_4]; rfl) (by decide) ?_
      refine lv_aload_n hx hb dX8_count_64 rfl (lv_at hl 0 rfl) ?_
      refine of_g4 X hP hO.1 mw_27 dX8_count_65 ?_
      exact e_int X hP hD hS dX8_count_68 ⟨by subst f_4; simp only [mCount, if_neg (by decide : ¬ (4 : Int32) = 0), if_neg (by decide : ¬ (4 : Int32) = 1), if_neg (by decide : ¬ (4 : Int32) = 2), if_neg (by decide : ¬ (4 : Int32) = 3), if_pos], rfl⟩
    · refine lv_tableIn (tgt := 69) (off := 68) hx hb dX8_count_1 (by rw [f_5]; decide) (by rw [f_5]; decide) (by rw [f_5]; rfl) (by decide) ?_
      refine lv_aload_n hx hb dX8_count_69 rfl (lv_at hl 0 rfl) ?_
      refine of_g5 X hP hO.1 mw_28 dX8_count_70 ?_
      exact e_int X hP hD hS dX8_count_73 ⟨by subst f_5; simp only [mCount, if_neg (by decide : ¬ (5 : Int32) = 0), if_neg (by decide : ¬ (5 : Int32) = 1), if_neg (by decide : ¬ (5 : Int32) = 2), if_neg (by decide : ¬ (5 : Int32) = 3), if_neg (by decide : ¬ (5 : Int32) = 4), if_pos], rfl⟩
    · refine lv_tableIn (tgt := 74) (off := 73) hx hb dX8_count_1 (by rw [f_6]; decide) (by rw [f_6]; decide) (by rw [f_6]; rfl) (by decide) ?_
      refine lv_aload_n hx hb dX8_count_74 rfl (lv_at hl 0 rfl) ?_
      refine g_priv (ci := 8) (cq := (RX8, TX8, 7)) (As := []) (rest := []) pw_X8_93 X (c_X8_leftOfAll l D cI cZ cP 2 (by decide) hO hI) hP hD hS hA hO.1 rfl rfl ⟨by show _ ≤ d; omega, by show _ ≤ 30 * d; omega⟩ rfl hl.1 rfl (Nat.le_of_ble_eq_true rfl) dX8_count_75 ⟨Nat.le_refl _, Nat.le_refl _⟩ (kI fun H locs hP hD hS => ?_)
      refine W.eq (g2 := F0 m 78 L [.int (mLeft sc ar)]) rfl ?_
      exact e_int X hP hD hS dX8_count_78 ⟨by subst f_6; simp only [mCount, if_neg (by decide : ¬ (6 : Int32) = 0), if_neg (by decide : ¬ (6 : Int32) = 1), if_neg (by decide : ¬ (6 : Int32) = 2), if_neg (by decide : ¬ (6 : Int32) = 3), if_neg (by decide : ¬ (6 : Int32) = 4), if_neg (by decide : ¬ (6 : Int32) = 5), if_pos], rfl⟩
set_option maxHeartbeats 4000000 in
set_option maxRecDepth 100000 in
theorem c_X8_lapse (l : Launch) (D : va_G) (cI cZ cP : ClassId) (d : Nat) (hd : 2 ≤ d) {ws : va_W} {h p0 p1 ha n : Nat} {row : Nat → Option Nat} {pv : Nat → Nat} {sc : Nat → Int32} {ar : Nat → Nat → Int32} (hO : of_at cP ws h p0 p1 ha row pv sc ar n) (hI : mInv sc ar n)  : Ct l D (vTy cI cZ cP) yX8_lapse cX8_lapse 4 (some .int) d 0 0 [.ref h] ws (pO cP h (mLapse sc ar) ws) := by
  obtain ⟨hn, h40, hday, hvs, hout⟩ := id hI
  refine ct_intro (by decide) (Nat.le_of_ble_eq_true rfl) ?_
  intro p e s m below meth c A L X hin hP hD hS hA hl
  have hl : lv_has L 4 [(0, .ref h)] := hl
  obtain ⟨hx, hb, hr, hml, hown, hts, hK, hlk, hxK⟩ := id X
  have hfr := of_fr_rf ws
  refine lv_iconst (v := 0) hx hb dX8_lapse_0 (by decide) ?_
  refine lv_istore_n (lv' := [(1, .int 0), (0, .ref h)]) hx hb dX8_lapse_1 rfl hl (by decide) rfl (fun L hl => ?_)
  refine lv_iconst (v := 0) hx hb dX8_lapse_2 (by decide) ?_
  refine lv_istore_n (lv' := [(2, .int 0), (1, .int 0), (0, .ref h)]) hx hb dX8_lapse_3 rfl hl (by decide) rfl (fun L hl => ?_)
  have e0 : min 40 n = mI (sc 1) := by rw [hn]; show min 40 n = (nI n).toNatClampNeg; rw [nI_clamp (by omega)]; omega
  refine lp_X8_lapse (by omega) X hA hI (fun ws H locs L hP hD hS hO hfr hl => ?_) 40 0 (by omega) _ _ _ _ hP hD hS (by rw [Nat.zero_min]; exact hO) hfr (by rw [Nat.zero_min]; exact lv_sub hl [0, 1, 2] rfl)
  rw [e0] at hO hl
  refine lv_aload_n hx hb dX8_lapse_37 rfl (lv_at hl 2 rfl) ?_
  refine lv_dup hx hb dX8_lapse_38 rfl ?_
  refine of_g5 X hP hO.1 mw_28 dX8_lapse_39 ?_
  refine lv_iload_n hx hb dX8_lapse_42 rfl (lv_at hl 1 rfl) ?_
  refine lv_iadd hx hb dX8_lapse_43 ?_
  refine of_p5 X hP hD hS hO.1 mw_28 dX8_lapse_44 (fun H locs hP hD hS => ?_)
  have hfr := of_fr_tr hfr (of_fr_set (y := (h, of_o (va_up sc 5 ((sc 5) + (mLap ar (sc 0) (mI (sc 1))).1)) ha)) hO.1 oo_nM)
  have hO := hO.put (va_up sc 5 ((sc 5) + (mLap ar (sc 0) (mI (sc 1))).1))
  refine lv_iload_n hx hb dX8_lapse_47 rfl (lv_at hl 1 rfl) ?_
  exact e_int X hP hD hS dX8_lapse_48 (pO_of hO hn hfr rfl)
set_option maxHeartbeats 4000000 in
set_option maxRecDepth 100000 in
theorem c_X8_merge (l : Launch) (D : va_G) (cI cZ cP : ClassId) (d : Nat) (hd : 2 ≤ d) {ws : va_W} {h p0 p1 ha n : Nat} {row : Nat → Option Nat} {pv : Nat → Nat} {sc : Nat → Int32} {ar : Nat → Nat → Int32} (hO : of_at cP ws h p0 p1 ha row pv sc ar n) (hI : mInv sc ar n) (v v2 : Int32) : Ct l D (vTy cI cZ cP) yX8_merge cX8_merge 5 (some .int) d 0 0 [.ref h, .int v, .int v2] ws (pO cP h (mMerge sc ar v v2) ws) := by
  obtain ⟨hn, h40, hday, hvs, hout⟩ := id hI
  refine ct_intro (by decide) (Nat.le_of_ble_eq_true rfl) ?_
  intro p e s m below meth c A L X hin hP hD hS hA hl
  have hl : lv_has L 5 [(0, .ref h), (1, .int v), (2, .int v2)] := hl
  obtain ⟨hx, hb, hr, hml, hown, hts, hK, hlk, hxK⟩ := id X
  have hfr := of_fr_rf ws
  refine lv_aload_n hx hb dX8_merge_0 rfl (lv_at hl 0 rfl) ?_
  refine lv_iload_n hx hb dX8_merge_1 rfl (lv_at hl 1 rfl) ?_
  refine g_priv (ci := 8) (cq := (RX8, TX8, 7)) (As := [.int v]) (rest := []) pw_X8_43 X (c_X8_find l D cI cZ cP 1 (by decide) hO hn h40 v) hP hD hS hA hO.1 rfl rfl ⟨by show _ ≤ d; omega, by show _ ≤ 30 * d; omega⟩ rfl hl.1 rfl (Nat.le_of_ble_eq_true rfl) dX8_merge_2 ⟨Nat.le_refl _, Nat.le_refl _⟩ (fun v1 ws1 H locs hq hP hD hS => ?_)
  obtain ⟨ew, hq⟩ := hq
  rw [ew] at hP hD
  rcases hq with ⟨hz_2, rfl⟩ | ⟨j_2, a_2, hj_2, ev_2, h6_2, hr_2, hz_2, rfl⟩
  · -- none
    refine W.eq (g2 := F0 m 5 L [.null]) rfl ?_
    refine lv_astore_nN (lv' := [(3, .null), (0, .ref h), (1, .int v), (2, .int v2)]) hx hb dX8_merge_5 rfl hl (by decide) rfl (fun L hl => ?_)
    refine lv_aload_n hx hb dX8_merge_6 rfl (lv_at hl 1 rfl) ?_
    refine lv_iload_n hx hb dX8_merge_7 rfl (lv_at hl 3 rfl) ?_
    refine g_priv (ci := 8) (cq := (RX8, TX8, 7)) (As := [.int v2]) (rest := []) pw_X8_43 X (c_X8_find l D cI cZ cP 1 (by decide) hO hn h40 v2) hP hD hS hA hO.1 rfl rfl ⟨by show _ ≤ d; omega, by show _ ≤ 30 * d; omega⟩ rfl hl.1 rfl (Nat.le_of_ble_eq_true rfl) dX8_merge_8 ⟨Nat.le_refl _, Nat.le_refl _⟩ (fun v1 ws1 H locs hq hP hD hS => ?_)
    obtain ⟨ew, hq⟩ := hq
    rw [ew] at hP hD
    rcases hq with ⟨hz_8, rfl⟩ | ⟨j_8, a_8, hj_8, ev_8, h6_8, hr_8, hz_8, rfl⟩
    · -- none
      refine W.eq (g2 := F0 m 11 L [.null]) rfl ?_
      refine lv_astoreN (lv' := [(4, .null), (3, .null), (0, .ref h), (1, .int v), (2, .int v2)]) hx hb dX8_merge_11 hl (by decide) rfl (fun L hl => ?_)
      refine lv_aload_nN hx hb dX8_merge_13 rfl (lv_at hl 1 rfl) ?_
      refine lv_ifnullN (tgt := 22) hx hb dX8_merge_14 (by decide) ?_
      refine lv_iconst (v := (-1)) hx hb dX8_merge_22 (by decide) ?_
      exact e_int X hP hD hS dX8_merge_23 (pO_of hO hn hfr (by simp only [mMerge, if_pos hz_2, if_pos hz_8]))
    · -- found
      refine W.eq (g2 := F0 m 11 L [.ref a_8]) rfl ?_
      have hc_8 := (hO.get (by omega) hr_8).2
      obtain ⟨k_8, hvI_8⟩ := hvs j_8 hj_8
      have ek_8 : mI (ar 0 j_8) = k_8 := by rw [hvI_8.2.1]; exact nI_clamp (by have := hvI_8.1; omega)
      have em_8 : mI v2 = j_8 := by rw [ev_8]; exact nI_clamp (by omega)
      rw [ofE, ek_8] at hc_8
      refine lv_astore (lv' := [(4, .ref a_8), (3, .null), (0, .ref h), (1, .int v), (2, .int v2)]) hx hb dX8_merge_11 hl (by decide) rfl (fun L hl => ?_)
      refine lv_aload_nN hx hb dX8_merge_13 rfl (lv_at hl 1 rfl) ?_
      refine lv_ifnullN (tgt := 22) hx hb dX8_merge_14 (by decide) ?_
      refine lv_iconst (v := (-1)) hx hb dX8_merge_22 (by decide) ?_
      exact e_int X hP hD hS dX8_merge_23 (pO_of hO hn hfr (by simp only [mMerge, if_pos hz_2, if_neg hz_8, em_8]))
  · -- found
    refine W.eq (g2 := F0 m 5 L [.ref a_2]) rfl ?_
    have hc_2 := (hO.get (by omega) hr_2).2
    obtain ⟨k_2, hvI_2⟩ := hvs j_2 hj_2
    have ek_2 : mI (ar 0 j_2) = k_2 := by rw [hvI_2.2.1]; exact nI_clamp (by have := hvI_2.1; omega)
    have em_2 : mI v = j_2 := by rw [ev_2]; exact nI_clamp (by omega)
    rw [ofE, ek_2] at hc_2
    refine lv_astore_n (lv' := [(3, .ref a_2), (0, .ref h), (1, .int v), (2, .int v2)]) hx hb dX8_merge_5 rfl hl (by decide) rfl (fun L hl => ?_)
    refine lv_aload_n hx hb dX8_merge_6 rfl (lv_at hl 1 rfl) ?_
    refine lv_iload_n hx hb dX8_merge_7 rfl (lv_at hl 3 rfl) ?_
    refine g_priv (ci := 8) (cq := (RX8, TX8, 7)) (As := [.int v2]) (rest := []) pw_X8_43 X (c_X8_find l D cI cZ cP 1 (by decide) hO hn h40 v2) hP hD hS hA hO.1 rfl rfl ⟨by show _ ≤ d; omega, by show _ ≤ 30 * d; omega⟩ rfl hl.1 rfl (Nat.le_of_ble_eq_true rfl) dX8_merge_8 ⟨Nat.le_refl _, Nat.le_refl _⟩ (fun v1 ws1 H locs hq hP hD hS => ?_)
    obtain ⟨ew, hq⟩ := hq
    rw [ew] at hP hD
    rcases hq with ⟨hz_8, rfl⟩ | ⟨j_8, a_8, hj_8, ev_8, h6_8, hr_8, hz_8, rfl⟩
    · -- none
      refine W.eq (g2 := F0 m 11 L [.null]) rfl ?_
      refine lv_astoreN (lv' := [(4, .null), (3, .ref a_2), (0, .ref h), (1, .int v), (2, .int v2)]) hx hb dX8_merge_11 hl (by decide) rfl (fun L hl => ?_)
      refine lv_aload_n hx hb dX8_merge_13 rfl (lv_at hl 1 rfl) ?_
      refine lv_ifnull hx hb dX8_merge_14 ?_
      refine lv_aloadN hx hb dX8_merge_17 (lv_at hl 0 rfl) ?_
      refine lv_ifnonnullN hx hb dX8_merge_19 ?_
      refine lv_iconst (v := (-1)) hx hb dX8_merge_22 (by decide) ?_
      exact e_int X hP hD hS dX8_merge_23 (pO_of hO hn hfr (by simp only [mMerge, if_neg hz_2, if_pos hz_8, em_2]))
    · -- found
      refine W.eq (g2 := F0 m 11 L [.ref a_8]) rfl ?_
      have hc_8 := (hO.get (by omega) hr_8).2
      obtain ⟨k_8, hvI_8⟩ := hvs j_8 hj_8
      have ek_8 : mI (ar 0 j_8) = k_8 := by rw [hvI_8.2.1]; exact nI_clamp (by have := hvI_8.1; omega)
      have em_8 : mI v2 = j_8 := by rw [ev_8]; exact nI_clamp (by omega)
      rw [ofE, ek_8] at hc_8
      refine lv_astore (lv' := [(4, .ref a_8), (3, .ref a_2), (0, .ref h), (1, .int v), (2, .int v2)]) hx hb dX8_merge_11 hl (by decide) rfl (fun L hl => ?_)
      refine lv_aload_n hx hb dX8_merge_13 rfl (lv_at hl 1 rfl) ?_
      refine lv_ifnull hx hb dX8_merge_14 ?_
      refine lv_aload hx hb dX8_merge_17 (lv_at hl 0 rfl) ?_
      refine lv_ifnonnull (tgt := 24) hx hb dX8_merge_19 (by decide) ?_
      refine lv_iload_n hx hb dX8_merge_24 rfl (lv_at hl 3 rfl) ?_
      refine lv_iload_n hx hb dX8_merge_25 rfl (lv_at hl 4 rfl) ?_
      refine lv_icmp_ne (tgt := 32) hx hb dX8_merge_26 (by decide) (fun c_26 => ?_) (fun c_26 => ?_)
      · -- c_26 True
        refine lv_aload_n hx hb dX8_merge_32 rfl (lv_at hl 1 rfl) ?_
        refine vo_gK X hP hc_2 mw_61 (Or.inl rfl) dX8_merge_33 ?_
        refine lv_aload hx hb dX8_merge_36 (lv_at hl 0 rfl) ?_
        refine vo_gK X hP hc_8 mw_61 (Or.inl rfl) dX8_merge_38 ?_
        refine lv_icmp_eq (tgt := 47) hx hb dX8_merge_41 (by decide) (fun c_41 => ?_) (fun c_41 => ?_)
        · -- c_41 True
          refine lv_aload_n hx hb dX8_merge_47 rfl (lv_at hl 1 rfl) ?_
          refine vo_gA X hP hc_2 mw_69 (Or.inl rfl) dX8_merge_48 ?_
          refine lv_aload hx hb dX8_merge_51 (lv_at hl 0 rfl) ?_
          refine vo_gA X hP hc_8 mw_69 (Or.inl rfl) dX8_merge_53 ?_
          refine lv_iadd hx hb dX8_merge_56 ?_
          refine lv_ldc (v := 100000) hx hb hown (hts _ mw_51) dX8_merge_57 ?_
          refine lv_icmp_le (tgt := 65) hx hb dX8_merge_59 (by decide) (fun c_59 => ?_) (fun c_59 => ?_)
          · -- c_59 True
            refine lv_aload_n hx hb dX8_merge_65 rfl (lv_at hl 1 rfl) ?_
            refine lv_aload hx hb dX8_merge_66 (lv_at hl 0 rfl) ?_
            have hjj : j_2 ≠ j_8 := fun z => c_26 (by rw [ev_2, ev_8, z])
            have hne : pv j_2 ≠ pv j_8 := pl_na hc_2 hc_8 (fun z => hjj (hO.2.2.2 j_2 j_8 a_2 (by omega) (by omega) hr_2 (by rw [z]; exact hr_8)))
            have ekk : k_2 = k_8 := (nI_eq (by have := hvI_2.1; omega) (by have := hvI_8.1; omega)).mp (by rw [← hvI_2.2.1, ← hvI_8.2.1]; exact c_41)
            subst ekk
            refine dv_takeIn (rest := []) X mw_364 hP hD hS hA hc_2 ⟨by show _ ≤ d; omega, by show _ ≤ 30 * d; omega⟩ hl.1 (Nat.le_of_ble_eq_true rfl) dX8_merge_68 ⟨Nat.le_refl _, Nat.le_refl _⟩ hc_8 hne (fun H locs hP hD hS => ?_)
            rw [mg_eq hjj.symm hvI_2 hvI_8] at hP hD
            obtain ⟨ar1, ear1⟩ : ∃ z, z = mSet (mSet (mSet (mSet ar 1 j_2 (ar 1 j_2 + ar 1 j_8)) 2 j_2 (ar 2 j_2 + ar 2 j_8)) 4 j_2 (ar 4 j_2 + ar 4 j_8)) 5 j_2 (if ar 5 j_8 ≤ ar 5 j_2 then ar 5 j_2 else ar 5 j_8) := ⟨_, rfl⟩
            rw [← ear1] at hP hD
            have h6a : ∀ v, ar1 6 v = ar 6 v := fun v => by rw [ear1, mS_j _ _ _ _ _ _ (by decide : (6 : Nat) ≠ 5), mS_j _ _ _ _ _ _ (by decide : (6 : Nat) ≠ 4), mS_j _ _ _ _ _ _ (by decide : (6 : Nat) ≠ 2), mS_j _ _ _ _ _ _ (by decide : (6 : Nat) ≠ 1)]
            have hEa : ∀ v, v ≠ j_2 → ofE ar1 v = ofE ar v := fun v hv => by rw [ear1, ofE_S _ _ _ _ _ hv, ofE_S _ _ _ _ _ hv, ofE_S _ _ _ _ _ hv, ofE_S _ _ _ _ _ hv]
            have hfr := of_fr_tr hfr (of_fr_set (y := (a_2, ofE ar1 j_2)) hc_2 (vo_nM _ _ _ _ _ _ _))
            have hc9 : (ws.set (pv j_2) (a_2, ofE ar1 j_2))[pv j_2]? = some (a_2, ofE ar1 j_2) := st_same hc_2
            have hO := hO.setV (by omega) hr_2 ar1 h6a hEa rfl
            refine W.eq (g2 := F0 m 71 L []) rfl ?_
            refine lv_aload_n hx hb dX8_merge_71 rfl (lv_at hl 2 rfl) ?_
            refine of_gV X hP hO.1 mw_22 dX8_merge_72 ?_
            refine lv_iload_n hx hb dX8_merge_75 rfl (lv_at hl 4 rfl) ?_
            refine lv_null hx hb dX8_merge_76 ?_
            have hv2 : vp_in v2 40 := by rw [ev_8]; exact vp_in_nI (by omega) (by decide)
            refine va_astqN hx hb hK hP hD hS p1 2 hO.2.1 rfl hv2 dX8_merge_77 (fun H locs hP hD hS => ?_)
            have e99 : v2.toNatClampNeg = j_8 := em_8
            rw [e99] at hP hD
            have hfr := of_fr_tr hfr (of_fr_set (y := (ha, of_r cP (va_up row j_8 none))) hO.2.1 rr_nM)
            have hc9 := st_other (y := (ha, of_r cP (va_up row j_8 none))) (pl_ne hO.2.1 hc9 vo_nr.symm) hc9
            have hO := hO.drop (j := j_8) (mSet ar1 6 j_8 1) (fun v hv => mS_i _ _ _ _ _ _ hv) (by rw [mS_at]; decide) (fun v _ => ofE_6 _ _ _ _)
            rw [ofE] at hc9
            refine lv_aload_n hx hb dX8_merge_78 rfl (lv_at hl 1 rfl) ?_
            refine vo_gA X hP hc9 mw_69 (Or.inl rfl) dX8_merge_79 ?_
            exact e_int X hP hD hS dX8_merge_82 (pO_of hO hn hfr (by simp only [mMerge, if_neg hz_2, if_neg hz_8, em_2, em_8, if_neg c_26, if_pos c_41, if_pos c_59, ear1, mS_at, mS_j _ _ _ _ _ _ (by decide : (1 : Nat) ≠ 5), mS_j _ _ _ _ _ _ (by decide : (1 : Nat) ≠ 4), mS_j _ _ _ _ _ _ (by decide : (1 : Nat) ≠ 2)]))
          · -- c_59 False
            refine lv_bipush (v := (-4)) hx hb dX8_merge_62 (by decide) ?_
            exact e_int X hP hD hS dX8_merge_64 (pO_of hO hn hfr (by simp only [mMerge, if_neg hz_2, if_neg hz_8, em_2, em_8, if_neg c_26, if_pos c_41, if_neg c_59]))
        · -- c_41 False
          refine lv_bipush (v := (-3)) hx hb dX8_merge_44 (by decide) ?_
          exact e_int X hP hD hS dX8_merge_46 (pO_of hO hn hfr (by simp only [mMerge, if_neg hz_2, if_neg hz_8, em_2, em_8, if_neg c_26, if_neg c_41]))
      · -- c_26 False
        refine lv_bipush (v := (-2)) hx hb dX8_merge_29 (by decide) ?_
        exact e_int X hP hD hS dX8_merge_31 (pO_of hO hn hfr (by simp only [mMerge, if_neg hz_2, if_neg hz_8, em_2, em_8, if_pos c_26]))
