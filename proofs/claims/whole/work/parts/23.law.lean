theorem iwL_9 : IW RL 9 yX8_init cX8_init 1 0 := ⟨mw_14, mw_15, mw_1, mw_16, rfl, by decide +kernel⟩
theorem iwL_12 : IW RL 12 yX9_init cX9_init 1 0 := ⟨mw_445, mw_446, mw_2, mw_447, rfl, by decide +kernel⟩
theorem lw_ix {i L : Nat} (hi : i ≤ 1536) (hL : L ≤ 1536) (h : ¬ nI L - 3 < nI i) : i + 3 ≤ L := by
  rw [Int32.lt_iff_toInt_lt, show (3 : Int32) = nI 3 from rfl, pk_sub_toInt (by omega) (by decide), nI_toInt (by omega)] at h
  omega
set_option maxHeartbeats 4000000 in
set_option maxRecDepth 100000 in
/-- the law's loop -/
theorem law_loop {p : Program} {l : Launch} {e : Env} {s : State} {m : MethodId} {below : List Frame} {meth : Method} {c : Code} {D : va_G} {cI cZ cP : ClassId} {b Ls : Nat} {xs : Nat → Int32} (hL : Ls ≤ 1536) (X : Cx p m c meth s #[Value.ref b] RL code 4 ret D (vTy cI cZ cP)) (hX : va_X b Ls xs s s.heap) (hbl : b < s.heap.size) (h0 h1 : Nat) :
    ∀ (j i : Nat), i ≤ Ls → Ls + 1 ≤ i + j → ∀ (ws : va_W) (H : Heap) (locs : List Loc) (L : Array Slot), lwI cI cZ cP D s h0 h1 ws H locs → lv_has L 4 [(3, .int (nI i)), (2, .ref h1), (1, .ref h0), (0, .ref b)] → W p l e room_1 s m #[Value.ref b] below meth c H locs (12 + i) (1000 + 2 * i) (lw_Z below #[Value.ref b] s) (F0 m 18 L []) := by
  obtain ⟨hx, hb, hr, hml, hown, hts, hK, hlk, hxK⟩ := id X
  have hbA : ¬ (fun q : Nat => s.heap.size ≤ q) b := Nat.not_le.mpr hbl
  intro j
  induction j with
  | zero =>
    intro i h1 h2
    exact absurd h2 (by omega)
  | succ j ih =>
    intro i hi hij ws H locs L hW hl
    have hS := hW.2.2.1
    refine lv_iload_n hx hb dL_law_18 rfl (lv_at hl 0 rfl) ?_
    refine lv_aload_n hx hb dL_law_19 rfl (lv_at hl 3 rfl) ?_
    refine va_slen hx hb hX hbl hbA hS dL_law_20 ?_
    refine lv_iconst (v := 3) hx hb dL_law_21 (by decide) ?_
    refine lv_isub hx hb dL_law_22 ?_
    refine lv_icmp_gt (tgt := 475) hx hb dL_law_23 (by decide) (fun c_23 => ?_) (fun c_23 => ?_)
    · refine lv_iconst (v := 1) hx hb dL_law_475 (by decide) ?_
      refine va_forget (fun q hq => hS.2.2 q hq) ?_
      refine W.widen (k := 667234) (n := 7100547) (by omega) (by omega) ?_
      exact lw_ret hx hb hr hlk dL_law_476
    · have hi3 : i + 3 ≤ Ls := lw_ix (by omega) hL c_23
      have hin0 : vp_in (nI i) Ls := vp_in_nI (by omega) (by omega)
      refine lv_aload_n hx hb dL_law_26 rfl (lv_at hl 3 rfl) ?_
      refine lv_iload_n hx hb dL_law_27 rfl (lv_at hl 0 rfl) ?_
      refine va_sld hx hb hX hbl hbA hS hin0 dL_law_28 ?_
      refine lv_bipush (v := 15) hx hb dL_law_29 (by decide) ?_
      refine lv_iand hx hb dL_law_31 ?_
      have kend : ∀ (ws : va_W) (H : Heap) (locs : List Loc), lwI cI cZ cP D s h0 h1 ws H locs → W p l e room_1 s m #[Value.ref b] below meth c H locs (12 + i + 1) (1000 + 2 * i + 5) (lw_Z below #[Value.ref b] s) (F0 m 469 L []) := by
        intro ws H locs hW
        refine lv_iinc (v := nI i + 3) (lv' := [(3, .int (nI i + 3)), (2, .ref h1), (1, .ref h0), (0, .ref b)]) hx hb dL_law_469 hl (k := 0) rfl rfl (by decide) rfl (fun L hl => ?_)
        refine lv_goto (tgt := 18) hx hb dL_law_472 (by decide) ?_
        refine W.widen (k := 12 + (i + 3)) (n := 1000 + 2 * (i + 3)) (by omega) (by omega) ?_
        refine ih (i + 3) (by omega) (by omega) ws H locs L hW ?_
        rw [← nI_add]
        exact hl
      obtain ⟨z, hz, ez⟩ := pk_andE (xs (nI i).toNatClampNeg) (m := 15) 4 (by decide)
      rw [ez]
      rcases (by omega : z = 0 ∨ z = 1 ∨ z = 2 ∨ z = 3 ∨ z = 4 ∨ z = 5 ∨ z = 6 ∨ z = 7 ∨ z = 8 ∨ z = 9 ∨ z = 10 ∨ z = 11 ∨ z = 12 ∨ z = 13 ∨ z = 14 ∨ z = 15) with rfl | rfl | rfl | rfl | rfl | rfl | rfl | rfl | rfl | rfl | rfl | rfl | rfl | rfl | rfl | rfl
      · refine lv_tableIn (tgt := 100) (off := 68) hx hb dL_law_32 (by decide) (by decide) (by rfl) (by decide) ?_
        exact lw_c0 X hX hbl hL hi3 (by omega) (by omega) hl hW kend
      · refine lv_tableIn (tgt := 133) (off := 101) hx hb dL_law_32 (by decide) (by decide) (by rfl) (by decide) ?_
        exact lw_c1 X hX hbl hL hi3 (by omega) (by omega) hl hW kend
      · refine lv_tableIn (tgt := 156) (off := 124) hx hb dL_law_32 (by decide) (by decide) (by rfl) (by decide) ?_
        exact lw_c2 X hX hbl hL hi3 (by omega) (by omega) hl hW kend
      · refine lv_tableIn (tgt := 189) (off := 157) hx hb dL_law_32 (by decide) (by decide) (by rfl) (by decide) ?_
        exact lw_c3 X hX hbl hL hi3 (by omega) (by omega) hl hW kend
      · refine lv_tableIn (tgt := 222) (off := 190) hx hb dL_law_32 (by decide) (by decide) (by rfl) (by decide) ?_
        exact lw_c4 X hX hbl hL hi3 (by omega) (by omega) hl hW kend
      · refine lv_tableIn (tgt := 255) (off := 223) hx hb dL_law_32 (by decide) (by decide) (by rfl) (by decide) ?_
        exact lw_c5 X hX hbl hL hi3 (by omega) (by omega) hl hW kend
      · refine lv_tableIn (tgt := 278) (off := 246) hx hb dL_law_32 (by decide) (by decide) (by rfl) (by decide) ?_
        exact lw_c6 X hX hbl hL hi3 (by omega) (by omega) hl hW kend
      · refine lv_tableIn (tgt := 311) (off := 279) hx hb dL_law_32 (by decide) (by decide) (by rfl) (by decide) ?_
        exact lw_c7 X hX hbl hL hi3 (by omega) (by omega) hl hW kend
      · refine lv_tableIn (tgt := 344) (off := 312) hx hb dL_law_32 (by decide) (by decide) (by rfl) (by decide) ?_
        exact lw_c8 X hX hbl hL hi3 (by omega) (by omega) hl hW kend
      · refine lv_tableIn (tgt := 357) (off := 325) hx hb dL_law_32 (by decide) (by decide) (by rfl) (by decide) ?_
        exact lw_c9 X hX hbl hL hi3 (by omega) (by omega) hl hW kend
      · refine lv_tableIn (tgt := 390) (off := 358) hx hb dL_law_32 (by decide) (by decide) (by rfl) (by decide) ?_
        exact lw_c10 X hX hbl hL hi3 (by omega) (by omega) hl hW kend
      · refine lv_tableIn (tgt := 413) (off := 381) hx hb dL_law_32 (by decide) (by decide) (by rfl) (by decide) ?_
        exact lw_c11 X hX hbl hL hi3 (by omega) (by omega) hl hW kend
      · refine lv_tableIn (tgt := 446) (off := 414) hx hb dL_law_32 (by decide) (by decide) (by rfl) (by decide) ?_
        exact lw_c12 X hX hbl hL hi3 (by omega) (by omega) hl hW kend
      · refine lv_tableOut (tgt := 469) hx hb dL_law_32 (Or.inr (by decide)) (by decide) ?_
        refine W.widen (k := 12 + i + 1) (n := 1000 + 2 * i + 5) (by omega) (by omega) ?_
        exact kend ws H locs hW
      · refine lv_tableOut (tgt := 469) hx hb dL_law_32 (Or.inr (by decide)) (by decide) ?_
        refine W.widen (k := 12 + i + 1) (n := 1000 + 2 * i + 5) (by omega) (by omega) ?_
        exact kend ws H locs hW
      · refine lv_tableOut (tgt := 469) hx hb dL_law_32 (Or.inr (by decide)) (by decide) ?_
        refine W.widen (k := 12 + i + 1) (n := 1000 + 2 * i + 5) (by omega) (by omega) ?_
        exact kend ws H locs hW
set_option maxHeartbeats 4000000 in
set_option maxRecDepth 100000 in
/-- THE LAW, from its entry -/
theorem whole_start {p : Program} {e : Env} {s : State} {m : MethodId} {below : List Frame} {meth : Method} {c : Code} (l : Launch) {b L : Nat} {xs : Nat → Int32} (hL : L ≤ 1536) (C0 : lw_At p s m meth c b L xs) : W p l e room_1 s m #[Value.ref b] below meth c s.heap [] 0 0 (lw_Z below #[Value.ref b] s) (entryFrame m ([Value.ref b] : List Value).toArray 4) := by
  obtain ⟨hx, hb, hr, hml, hown, hts0, hX, hbl, hlocks, hgv⟩ := id C0
  have hts : ∀ w ∈ wd_big, w.before #[Value.ref b] s = true := fun w h => hts0 w (wd_lw h)
  have hA : ∀ q : Nat, s.heap.size ≤ q → (fun q : Nat => s.heap.size ≤ q) q := fun _ h => h
  obtain ⟨c0, iS0, hKn0⟩ := u_known (C := RX0) (T := TX0) (N := 4) (n := 4) hts in_X0 (hts _ mw_131)
  obtain ⟨c1, iS1, hKn1⟩ := u_known (C := RX1) (T := TX1) (N := 5) (n := 5) hts in_X1 (hts _ mw_158)
  obtain ⟨c2, iS2, hKn2⟩ := u_known (C := RX2) (T := TX2) (N := 4) (n := 4) hts in_X2 (hts _ mw_84)
  obtain ⟨c3, iS3, hKn3⟩ := u_known (C := RX3) (T := TX3) (N := 5) (n := 5) hts in_X3 (hts _ mw_142)
  obtain ⟨c4, iS4, hKn4⟩ := u_known (C := RX4) (T := TX4) (N := 4) (n := 4) hts in_X4 (hts _ mw_55)
  obtain ⟨c5, iS5, hKn5⟩ := u_known (C := RX5) (T := TX5) (N := 4) (n := 4) hts in_X5 (hts _ mw_120)
  obtain ⟨c6, iS6, hKn6⟩ := u_known (C := RX6) (T := TX6) (N := 4) (n := 4) hts in_X6 (hts _ mw_95)
  obtain ⟨c7, iS7, hKn7⟩ := u_known (C := RX7) (T := TX7) (N := 5) (n := 5) hts in_X7 (hts _ mw_106)
  obtain ⟨c8, iS8, hKn8⟩ := u_known (C := RX8) (T := TX8) (N := 7) (n := 7) hts in_X8 (hts _ mw_13)
  obtain ⟨c9, iS9, hKn9⟩ := u_known (C := RX9) (T := TX9) (N := 13) (n := 13) hts in_X9 (hts _ mw_444)
  obtain ⟨D, hKc⟩ : ∃ D : va_G, ∀ (k : Nat) (q : vw_C), vwCl[k]? = some q → u_Kn s q.1 q.2.1 q.2.2 (D.1 k) (D.2 k) := by
    refine ⟨(fun k => if k = 0 then c0 else if k = 1 then c1 else if k = 2 then c2 else if k = 3 then c3 else if k = 4 then c4 else if k = 5 then c5 else if k = 6 then c6 else if k = 7 then c7 else if k = 8 then c8 else c9, fun k => if k = 0 then iS0 else if k = 1 then iS1 else if k = 2 then iS2 else if k = 3 then iS3 else if k = 4 then iS4 else if k = 5 then iS5 else if k = 6 then iS6 else if k = 7 then iS7 else if k = 8 then iS8 else iS9), ?_⟩
    intro k q hq
    match k, hq with
    | 0, hq => cases hq; exact hKn0
    | 1, hq => cases hq; exact hKn1
    | 2, hq => cases hq; exact hKn2
    | 3, hq => cases hq; exact hKn3
    | 4, hq => cases hq; exact hKn4
    | 5, hq => cases hq; exact hKn5
    | 6, hq => cases hq; exact hKn6
    | 7, hq => cases hq; exact hKn7
    | 8, hq => cases hq; exact hKn8
    | 9, hq => cases hq; exact hKn9
    | k + 10, hq => simp [vwCl] at hq
  obtain ⟨cI, kI_, coI, fI1, fI2, fI3⟩ := Cond.arrayClass_spec (hts (.arrayClass .int) mw_489)
  obtain ⟨cZ, kZ_, coZ, fZ1, fZ2, fZ3⟩ := Cond.arrayClass_spec (hts (.arrayClass .boolean) mw_490)
  have hin9 : ∀ {w : Cond} {i : Nat}, tables_1[i]? = some w → w.before #[Value.ref b] s = true := fun {w i} h => hts0 w (List.mem_append_right _ (List.mem_of_getElem? h))
  have hao : (Cond.arrayOver (.object "VoucherOffice$Plain")).before #[Value.ref b] s = true := hin9 (i := 21) (by decide +kernel)
  obtain ⟨coP, cP, kP_, fP1, -, fP3, fP4, fP5⟩ := Cond.arrayOver_spec hao
  have hxK : xK s := ⟨va_AO.of hao, va_any rfl (hin9 (w := .castable "VoucherOffice$Gift" "VoucherOffice$Plain") (i := 583) (by decide +kernel)), va_any rfl (hin9 (w := .castable "VoucherOffice$Season" "VoucherOffice$Plain") (i := 586) (by decide +kernel)), va_any rfl (hin9 (w := .castable "VoucherOffice$Staff" "VoucherOffice$Plain") (i := 587) (by decide +kernel)), va_any rfl (hin9 (w := .castable "VoucherOffice$Round" "VoucherOffice$Plain") (i := 585) (by decide +kernel)), va_any rfl (hin9 (w := .castable "VoucherOffice$Club" "VoucherOffice$Plain") (i := 581) (by decide +kernel)), va_any rfl (hin9 (w := .castable "VoucherOffice$House" "VoucherOffice$Plain") (i := 584) (by decide +kernel)), va_any rfl (hin9 (w := .castable "VoucherOffice$Crest" "VoucherOffice$Plain") (i := 582) (by decide +kernel))⟩
  have hK : va_K D vwCl (vTy cI cZ cP) s := by
    refine ⟨hKc, fun k q hq => ?_⟩
    match k, hq with
    | 0, hq => cases hq; exact ⟨fun n z => ⟨fun k h => (by cases h), kI_, fI2, coI, fI3⟩, fI1⟩
    | 1, hq => cases hq; exact ⟨fun n z => ⟨fun k h => (by cases h), kZ_, fZ2, coZ, fZ3⟩, fZ1⟩
    | 2, hq => cases hq; exact ⟨fun n z => ⟨fun k h => (by cases h), kP_, fP3, coP, fP4⟩, kP_, coP, fP3, fP4, fP1, fP5⟩
    | k + 3, hq => simp at hq
  have X : Cx p m c meth s #[Value.ref b] RL code 4 ret D (vTy cI cZ cP) := ⟨hx, hb, hr, hml, hown, hts, hK, hlocks, hxK⟩
  have hS : va_S (fun q : Nat => s.heap.size ≤ q) s.heap s.heap [] := va_S.rf
  have hP : va_P D vwCl [] s.heap := fun k q h => by simp at h
  have hD : va_D (fun q : Nat => s.heap.size ≤ q) [] := ⟨fun i j p q h => by simp at h, fun k q h => by simp at h⟩
  have hl := lv_entry ([.ref b]) (n := 4) (Nat.le_of_ble_eq_true rfl)
  rw [lg_entry_eq]
  generalize (lg_sl ([.ref b]) ++ List.replicate (4 - (lg_sl ([.ref b])).length) Slot.unset).toArray = ls at hl ⊢
  have hl : lv_has ls 4 [(0, .ref b)] := hl
  refine va_new (ci := 8) (fs := [.null, .int 0, .int 0, .int 0, .int 0, .int 0, .int 0]) (C := RX8) (T := TX8) (N := 7) hx hb hts in_X8 tyX8 tyX8_ok hown (hts _ mw_12) (hts _ mw_13) (hts _ mw_1) hK hP hD hS hA rfl (fun j hj => by rcases (show j = 0 ∨ j = 1 ∨ j = 2 ∨ j = 3 ∨ j = 4 ∨ j = 5 ∨ j = 6 by omega) with rfl | rfl | rfl | rfl | rfl | rfl | rfl <;> rfl) (by show _ ≤ 667234; omega) (by show _ ≤ 7100547; omega) dL_law_0 (fun h0 H hP hD hS => ?_)
  refine lv_dup hx hb dL_law_3 rfl ?_
  refine g_ctor (As := []) (rest := [.ref h0]) iwL_9 X (c_X8_init l D cI cZ cP 1 (by decide) (q0 := 0) rfl) hP hD hS hA ⟨by show _ ≤ 10; omega, by show _ ≤ 344; omega⟩ rfl hl.1 rfl (Nat.le_of_ble_eq_true rfl) dL_law_4 ⟨by show _ ≤ 667234; omega, by show _ ≤ 7100547; omega⟩ (fun v9 ws9 H locs hq hP hD hS => ?_)
  obtain ⟨ev9, ⟨p0, p1, ha, row, pv, hO⟩, hfr⟩ := hq
  subst ev9
  refine W.eq (g2 := F0 m 7 ls [.ref h0]) rfl ?_
  refine lv_astore_n (lv' := [(1, .ref h0), (0, .ref b)]) hx hb dL_law_7 rfl hl (by decide) rfl (fun ls hl => ?_)
  refine va_new (ci := 9) (fs := [.int 0, .int 0, .int 0, .int 0, .int 0, .int 0, .null, .null, .null, .null, .null, .null, .null]) (C := RX9) (T := TX9) (N := 13) hx hb hts in_X9 tyX9 tyX9_ok hown (hts _ mw_443) (hts _ mw_444) (hts _ mw_2) hK hP hD hS hA rfl (fun j hj => by rcases (show j = 0 ∨ j = 1 ∨ j = 2 ∨ j = 3 ∨ j = 4 ∨ j = 5 ∨ j = 6 ∨ j = 7 ∨ j = 8 ∨ j = 9 ∨ j = 10 ∨ j = 11 ∨ j = 12 by omega) with rfl | rfl | rfl | rfl | rfl | rfl | rfl | rfl | rfl | rfl | rfl | rfl | rfl <;> rfl) (by show _ ≤ 667234; omega) (by show _ ≤ 7100547; omega) dL_law_8 (fun h1 H hP hD hS => ?_)
  refine lv_dup hx hb dL_law_11 rfl ?_
  refine g_ctor (As := []) (rest := [.ref h1]) iwL_12 X (c_X9_init l D cI cZ cP 1 (by decide) (ap_new _ _)) hP hD hS hA ⟨by show _ ≤ 10; omega, by show _ ≤ 344; omega⟩ rfl hl.1 rfl (Nat.le_of_ble_eq_true rfl) dL_law_12 ⟨by show _ ≤ 667234; omega, by show _ ≤ 7100547; omega⟩ (fun v8 ws8 H locs hq hP hD hS => ?_)
  obtain ⟨ev8, ⟨q, ad, hm⟩, hfr8⟩ := hq
  subst ev8
  have hO := of_at_fr hO (mo_fr_tr (mo_fr_app _ _) hfr8)
  refine W.eq (g2 := F0 m 15 ls [.ref h1]) rfl ?_
  refine lv_astore_n (lv' := [(2, .ref h1), (1, .ref h0), (0, .ref b)]) hx hb dL_law_15 rfl hl (by decide) rfl (fun ls hl => ?_)
  refine lv_iconst (v := 0) hx hb dL_law_16 (by decide) ?_
  refine lv_istore_n (lv' := [(3, .int 0), (2, .ref h1), (1, .ref h0), (0, .ref b)]) hx hb dL_law_17 rfl hl (by decide) rfl (fun ls hl => ?_)
  refine W.widen (k := 12 + 0) (n := 1000 + 2 * 0) (by omega) (by omega) ?_
  exact law_loop hL X hX hbl h0 h1 (L + 1) 0 (Nat.zero_le L) (by omega) _ _ _ _ ⟨hP, hD, hS, p0, p1, ha, row, pv, q, ad, _, _, 0, hO, hm, rfl, by decide, ⟨0, rfl, by decide⟩, fun v hv => absurd hv (by omega), fun v _ => ⟨rfl, rfl, rfl⟩⟩ hl
-- ===== YOUR PART ENDS =====
set_option maxHeartbeats 4000000 in
theorem lw_walk (l : Launch) (b : Addr) (xs : List Int32) : MetFree l x (headSpec (Jvm.Cond.code x code maxLocals ret :: tables_1) room_1) (lw_P b xs) (fun _ _ _ _ _ => True) lw_Q := by
  refine MetFree.of_bodyS (code := code) (maxLocals := maxLocals) (ret := ret) (by decide) ?_ ?_
  · intro args s m h hn
    obtain ⟨meth, c, h1, h2, h3, h4, h5, h6, -, -⟩ := Cond.code_spec hn (atoms_spec (ws := Jvm.Cond.code x code maxLocals ret :: tables_1) h _ List.mem_cons_self)
    exact ⟨meth, c, h1, h2, h3, h4, h5, h6⟩
  · intro p e s m args below meth c s₁ B hml0 hP _
    obtain ⟨rfl, hx, hbd, hgv⟩ := hP
    obtain ⟨scr, harrAt, hlist, hof, hsmall⟩ := hx
    obtain ⟨hcb, hkn, -, -⟩ := State.arrayAt?_spec harrAt
    have hown : s.vm.findClass R_law = some m.cls := findClass_of_methodNamed B.named
    have hts0 : ∀ c ∈ (Jvm.Cond.code x code maxLocals ret :: tables_1), c.before #[Value.ref b] s = true := atoms_spec (ws := Jvm.Cond.code x code maxLocals ret :: tables_1) B.pre
    have hts : ∀ w ∈ lw_tbl, w.before #[Value.ref b] s = true := k2_hts_sels lw_privs (fun w hw => hts0 w (List.mem_cons_of_mem _ hw)) lw_privs_ok
    have hml : c.maxLocals = 4 := B.maxLocals_eq (hts0 _ List.mem_cons_self)
    have X₀ : Stand p l e room_1 s m #[Value.ref b] below meth c s₁ [] 0 0 := Stand.of_body B
    have hh0 : s₁.heap = s.heap := by rw [B.state]; rfl
    have hsz : scr.slots.size = xs.length := by rw [← Array.length_toList, hlist, List.length_map]
    have hval : ∀ j : Nat, j < xs.length → scr.slots[j]? = some (.int (xs.getD j 0)) := fun j hj => by
      rw [← Array.getElem?_toList, hlist]
      simp [hj]
    have hbl : b < s.heap.size := (Array.getElem?_eq_some_iff.mp hcb).1
    have hX : va_X b xs.length (fun j => xs.getD j 0) s s.heap := ⟨scr, hcb, hof, hkn, hsz, hval⟩
    have K : W p l e room_1 s m #[Value.ref b] below meth c s₁.heap [] 0 0 (lw_Z below #[Value.ref b] s) (entryFrame m ([Value.ref b] : List Value).toArray 4) := by
      rw [hh0]
      exact whole_start l hbd ⟨B.exec, B.bytes, B.returns, hml, hown, hts, hX, hbl, B.notSynchronized, hgv⟩
    obtain ⟨t, a1, o, b1, b2, b3⟩ := K s₁ rfl X₀
    exact ⟨t, o, a1, b1, b2, b3⟩
theorem lw_pre_spec {args : Array Value} {s : State} (h : (Jvm.Cond.and given_1 narrow_1).before args s = true) (hr : rest_1_c.before args s = true) : ∃ (b : Addr) (xs : List Int32), lw_P b xs args s := by
  have hs := flat_of_before _ h
  have hq := flat_of_before _ hr
  have hc : (Cond.count 1).before args s = true := hs _ (by decide +kernel)
  have harr : (Cond.arrayOf (.arg 0) .int).before args s = true := hs _ (by decide +kernel)
  have hle : (Cond.le (.length (.arg 0)) (.int 1536)).before args s = true := hs _ (by decide +kernel)
  have hlen : (Cond.isInt (.length (.arg 0))).before args s = true := hq _ (by decide +kernel)
  have hall : (Cond.all (.arg 0) (.isInt (.elem (.arg 0) (.index 0)))).before args s = true := hq _ (by decide +kernel)
  obtain ⟨b, xs, hb, hx⟩ := State.ints_of_pre rfl harr hlen hall
  have hsm : xs.length < 2 ^ 31 := hx.choose_spec.2.2.2
  have hev : (Term.length (.arg 0)).eval args s none [] s = some (.int xs.length.toInt32) := hx.length_eval hb
  have hv := Cond.le_ints hev (show (Term.int 1536).eval args s none [] s = some (.int 1536) from rfl)
  have hd : xs.length.toInt32 ≤ 1536 := by
    simpa [Cond.before, Cond.holds, hv] using hle
  have hN : xs.length ≤ 1536 := (Int32.ofNat_le_ofNat hsm (by decide)).mp (show Int32.ofNat xs.length ≤ Int32.ofNat 1536 from hd)
  exact ⟨b, xs, Cond.one_arg hc (show args[0]? = some (.ref b) from hb), hx, hN, h⟩
theorem lw_comes (l : Launch) : Comes l x (Jvm.Cond.code x code maxLocals ret :: tables_1) room_1 (fun tb e args s => Calls_1 tb e args s ∧ rest_1 tb e args s ∧ Pre_1 tb e args s)
    (fun _ _ args s o t => lw_Q args s o t) := by
  intro p e ha hc hk s m args below hf hfit hheap happ hpre
  obtain ⟨b, xs, hP⟩ := lw_pre_spec hpre.2.2 hpre.2.1
  obtain ⟨k, o, h1, h2, h3, hQ⟩ := lw_walk l b xs p e ha hc hk s m args below hf ((Spec.applies_iff_loose hf).mp happ).1 hP trivial
  exact ⟨k, o, h1, h2, h3, hQ⟩
theorem lw_frame {s t : State} {o : Outcome} {args : Array Value} (h : Framed s o t [] 667234 7100547) :
    Framed s o t (fieldLocs frame_1_writes args s ++ arrayLocs frame_1_arrays args s ++ staticLocs frame_1_statics s) 667234 7100547 := h
theorem lw_limb (L : Cond) (hL : ∀ (args : Array Value) (s t : State), L.after args s (.returned (some (.int 1))) t = true) :
    ArmFor flags0 classFile x code maxLocals ret World_1 tables_1 room_1 Calls_1 rest_1 Pre_1
      (fun tb e a s o t => postC L tb e a s o t ∧ Framed s o t (fieldLocs frame_1_writes a s ++ arrayLocs frame_1_arrays a s ++ staticLocs frame_1_statics s) 667234 7100547) := by
  intro l _ _ _ p e ha hc hk s m args below hf hfit hheap happ hpre
  obtain ⟨k, o, h1, h2, h3, rfl, hF⟩ := lw_comes l p e ha hc hk s m args below hf hfit hheap happ hpre
  exact ⟨k, _, h1, h2, h3, hL args s _, lw_frame hF⟩
theorem i_vc : Claimed_1_1 ∧ Claimed_1_2 := ⟨lw_limb limb_1_1 (fun args s t => by simp [limb_1_1, Cond.after, Cond.holds, Cond.value]), lw_limb limb_1_2 (fun args s t => Cond.after_iff.mpr (by
  first | (rw [show limb_1_2 = Cond.eq .result (.int 1) from rfl, Cond.eq_ints (x := 1) (y := 1) rfl rfl]; simp; done) | (simp [limb_1_2, Cond.value, Term.eval]; done)))⟩
