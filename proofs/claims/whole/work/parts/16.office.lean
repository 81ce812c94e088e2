def of_o (sc : Nat → Int32) (ha : Nat) : va_E := .inr (8, [.ref ha, .int (sc 1), .int (sc 0), .int (sc 2), .int (sc 3), .int (sc 4), .int (sc 5)])
def of_r (cP : ClassId) (row : Nat → Option Nat) : va_E := .inl (cP, 40, .inr (.inr (.inr (.inr row))))
/-- the cell of the voucher v -/
def ofE (ar : Nat → Nat → Int32) (v : Nat) : va_E := vo_E (mI (ar 0 v)) (ar 0 v) (ar 3 v) (ar 1 v) (ar 2 v) (ar 4 v) (ar 5 v - 1)
def of_v (ws : va_W) (row : Nat → Option Nat) (pv : Nat → Nat) (ar : Nat → Nat → Int32) (n v : Nat) : Prop := ((v < n ∧ ar 6 v = 0) ∧ ∃ a, row v = some a ∧ ws[pv v]? = some (a, ofE ar v)) ∨ (¬ (v < n ∧ ar 6 v = 0) ∧ row v = none)
/-- the office stands in the world ws -/
def of_at (cP : ClassId) (ws : va_W) (h p0 p1 ha : Nat) (row : Nat → Option Nat) (pv : Nat → Nat) (sc : Nat → Int32) (ar : Nat → Nat → Int32) (n : Nat) : Prop :=
  ws[p0]? = some (h, of_o sc ha) ∧ ws[p1]? = some (ha, of_r cP row) ∧ (∀ v, v < 40 → of_v ws row pv ar n v) ∧ ∀ v w a, v < 40 → w < 40 → row v = some a → row w = some a → v = w
def of_fr (ws w : va_W) : Prop := ∀ (i : Nat) (a : Nat) (e : va_E), ws[i]? = some (a, e) → isM e → w[i]? = some (a, e)
theorem of_fr_rf (ws : va_W) : of_fr ws ws := fun _ _ _ h _ => h
theorem of_fr_tr {w0 w1 w2 : va_W} (h1 : of_fr w0 w1) (h2 : of_fr w1 w2) : of_fr w0 w2 := fun i a e h hn => h2 i a e (h1 i a e h hn) hn
theorem of_fr_set {ws : va_W} {q : Nat} {a0 : Nat} {e0 : va_E} {y : Nat × va_E} (h : ws[q]? = some (a0, e0)) (hM : ¬ isM e0) : of_fr ws (ws.set q y) := fun i a e hi hn => by
  refine st_other ?_ hi
  intro hq
  subst hq
  cases h.symm.trans hi
  exact hM hn
theorem of_fr_app (ws : va_W) (x : Nat × va_E) : of_fr ws (ws ++ [x]) := fun i a e hi _ => by
  rw [List.getElem?_append_left (List.getElem?_eq_some_iff.mp hi).1]
  exact hi
theorem vo_num (k : Nat) (kd fr am le po ls : Int32) : ∃ (ci : Nat) (fs : List Value), vo_E k kd fr am le po ls = .inr (ci, fs) ∧ ci < 8 := by
  match k with
  | 0 => exact ⟨_, _, rfl, by decide⟩
  | 1 => exact ⟨_, _, rfl, by decide⟩
  | 2 => exact ⟨_, _, rfl, by decide⟩
  | 3 => exact ⟨_, _, rfl, by decide⟩
  | 4 => exact ⟨_, _, rfl, by decide⟩
  | 5 => exact ⟨_, _, rfl, by decide⟩
  | 6 => exact ⟨_, _, rfl, by decide⟩
  | n + 7 => exact ⟨_, _, rfl, by decide⟩
theorem vo_nM (k : Nat) (kd fr am le po ls : Int32) : ¬ isM (vo_E k kd fr am le po ls) := fun h => by
  obtain ⟨ci, fs, e, hc⟩ := vo_num k kd fr am le po ls
  rw [e] at h
  have h : ci = 9 := h
  omega
theorem vo_no {k : Nat} {kd fr am le po ls : Int32} {sc : Nat → Int32} {ha : Nat} : vo_E k kd fr am le po ls ≠ of_o sc ha := fun h => by
  obtain ⟨ci, fs, e, hc⟩ := vo_num k kd fr am le po ls
  rw [e] at h
  have h1 := (Prod.mk.inj (Sum.inr.inj h)).1
  omega
theorem vo_nr {k : Nat} {kd fr am le po ls : Int32} {cP : ClassId} {row : Nat → Option Nat} : vo_E k kd fr am le po ls ≠ of_r cP row := fun h => by
  obtain ⟨ci, fs, e, hc⟩ := vo_num k kd fr am le po ls
  rw [e] at h
  cases h
theorem pl_ne {ws : va_W} {i j a b : Nat} {x y : va_E} (hi : ws[i]? = some (a, x)) (hj : ws[j]? = some (b, y)) (hne : x ≠ y) : i ≠ j := fun h => by
  subst h
  cases hi.symm.trans hj
  exact hne rfl
theorem pl_na {ws : va_W} {i j a b : Nat} {x y : va_E} (hi : ws[i]? = some (a, x)) (hj : ws[j]? = some (b, y)) (hne : a ≠ b) : i ≠ j := fun h => by
  subst h
  cases hi.symm.trans hj
  exact hne rfl
theorem oo_rr {sc : Nat → Int32} {ha : Nat} {cP : ClassId} {row : Nat → Option Nat} : of_o sc ha ≠ of_r cP row := fun h => by cases h
section OA
variable {cP : ClassId} {ws : va_W} {h p0 p1 ha n : Nat} {row : Nat → Option Nat} {pv : Nat → Nat} {sc : Nat → Int32} {ar : Nat → Nat → Int32}
theorem of_at.get (H : of_at cP ws h p0 p1 ha row pv sc ar n) {v : Nat} (hv : v < 40) {a : Nat} (hr : row v = some a) : (v < n ∧ ar 6 v = 0) ∧ ws[pv v]? = some (a, ofE ar v) := by
  rcases H.2.2.1 v hv with ⟨h1, b, h2, h3⟩ | ⟨h1, h2⟩
  · cases hr.symm.trans h2
    exact ⟨h1, h3⟩
  · rw [h2] at hr
    cases hr
/-- a field of the office is written -/
theorem of_at.put (H : of_at cP ws h p0 p1 ha row pv sc ar n) (sc' : Nat → Int32) : of_at cP (ws.set p0 (h, of_o sc' ha)) h p0 p1 ha row pv sc' ar n := by
  obtain ⟨h0, h1, h2, h3⟩ := id H
  refine ⟨st_same h0, st_other (pl_ne h0 h1 oo_rr) h1, fun v hv => ?_, h3⟩
  rcases h2 v hv with ⟨g1, a, g2, g3⟩ | g
  · exact Or.inl ⟨g1, a, g2, st_other (pl_ne h0 g3 vo_no.symm) g3⟩
  · exact Or.inr g
/-- a voucher is written -/
theorem of_at.setV (H : of_at cP ws h p0 p1 ha row pv sc ar n) {j a : Nat} (hj : j < 40) (hr : row j = some a) (ar' : Nat → Nat → Int32) (h6 : ∀ v, ar' 6 v = ar 6 v) (ho : ∀ v, v ≠ j → ofE ar' v = ofE ar v) {e : va_E} (he : e = ofE ar' j) : of_at cP (ws.set (pv j) (a, e)) h p0 p1 ha row pv sc ar' n := by
  subst he
  obtain ⟨h0, h1, h2, h3⟩ := id H
  obtain ⟨g1, g2⟩ := H.get hj hr
  refine ⟨st_other (pl_ne g2 h0 vo_no) h0, st_other (pl_ne g2 h1 vo_nr) h1, fun v hv => ?_, h3⟩
  by_cases hvj : v = j
  · subst hvj
    exact Or.inl ⟨by rw [h6]; exact g1, a, hr, st_same g2⟩
  · rcases h2 v hv with ⟨f1, b, f2, f3⟩ | f
    · refine Or.inl ⟨by rw [h6]; exact f1, b, f2, ?_⟩
      rw [ho v hvj]
      exact st_other (pl_na g2 f3 (fun z => hvj (h3 v j b hv hj f2 (by rw [hr, z])))) f3
    · exact Or.inr (by rw [h6]; exact f)
/-- a voucher is gone -/
theorem of_at.drop (H : of_at cP ws h p0 p1 ha row pv sc ar n) {j : Nat} (ar' : Nat → Nat → Int32) (h6 : ∀ v, v ≠ j → ar' 6 v = ar 6 v) (h6j : ¬ ar' 6 j = 0) (ho : ∀ v, v ≠ j → ofE ar' v = ofE ar v) : of_at cP (ws.set p1 (ha, of_r cP (va_up row j none))) h p0 p1 ha (va_up row j none) pv sc ar' n := by
  obtain ⟨h0, h1, h2, h3⟩ := id H
  refine ⟨st_other (pl_ne h1 h0 oo_rr.symm) h0, st_same h1, fun v hv => ?_, fun v w a hv hw e1 e2 => ?_⟩
  · by_cases hvj : v = j
    · subst hvj
      exact Or.inr ⟨fun z => h6j z.2, by simp [va_up]⟩
    · rcases h2 v hv with ⟨f1, b, f2, f3⟩ | f
      · refine Or.inl ⟨by rw [h6 v hvj]; exact f1, b, by simp only [va_up, if_neg hvj]; exact f2, ?_⟩
        rw [ho v hvj]
        exact st_other (pl_ne h1 f3 vo_nr.symm) f3
      · exact Or.inr ⟨by rw [h6 v hvj]; exact f.1, by simp only [va_up, if_neg hvj]; exact f.2⟩
  · by_cases hvj : v = j
    · subst hvj; simp [va_up] at e1
    · by_cases hwj : w = j
      · subst hwj; simp [va_up] at e2
      · simp only [va_up, if_neg hvj] at e1
        simp only [va_up, if_neg hwj] at e2
        exact h3 v w a hv hw e1 e2
/-- a voucher comes: its cell is the last one, the row holds it at n -/
theorem of_at.add (H : of_at cP ws h p0 p1 ha row pv sc ar n) (hn : n < 40) {a : Nat} {e : va_E} (ar' : Nat → Nat → Int32) (h6 : ∀ v, ar' 6 v = ar 6 v) (h6n : ar' 6 n = 0) (ho : ∀ v, v ≠ n → ofE ar' v = ofE ar v) (he : e = ofE ar' n) (hfresh : ∀ v, v < 40 → row v ≠ some a) : of_at cP ((ws ++ [(a, e)]).set p1 (ha, of_r cP (va_up row n (some a)))) h p0 p1 ha (va_up row n (some a)) (va_up pv n ws.length) sc ar' (n + 1) := by
  subst he
  obtain ⟨h0, h1, h2, h3⟩ := id H
  have up : ∀ {i : Nat} {x : Nat × va_E}, ws[i]? = some x → (ws ++ [(a, ofE ar' n)])[i]? = some x := fun {i x} hi => by
    rw [List.getElem?_append_left (List.getElem?_eq_some_iff.mp hi).1]; exact hi
  have new : (ws ++ [(a, ofE ar' n)])[ws.length]? = some (a, ofE ar' n) := by simp
  refine ⟨st_other (pl_ne h1 h0 oo_rr.symm) (up h0), st_same (up h1), fun v hv => ?_, fun v w b hv hw e1 e2 => ?_⟩
  · by_cases hvn : v = n
    · subst hvn
      refine Or.inl ⟨⟨by omega, h6n⟩, a, by simp [va_up], ?_⟩
      have e9 : va_up pv v ws.length v = ws.length := by simp [va_up]
      rw [e9]
      exact st_other (pl_ne (up h1) new vo_nr.symm) new
    · have e9 : va_up pv n ws.length v = pv v := by simp only [va_up, if_neg hvn]
      rcases h2 v hv with ⟨f1, b, f2, f3⟩ | f
      · refine Or.inl ⟨by rw [h6]; exact ⟨by omega, f1.2⟩, b, by simp only [va_up, if_neg hvn]; exact f2, ?_⟩
        rw [ho v hvn, e9]
        exact st_other (pl_ne h1 f3 vo_nr.symm) (up f3)
      · exact Or.inr ⟨by rw [h6]; exact fun z => f.1 ⟨by omega, z.2⟩, by simp only [va_up, if_neg hvn]; exact f.2⟩
  · by_cases hvn : v = n
    · by_cases hwn : w = n
      · rw [hvn, hwn]
      · subst hvn
        simp only [va_up, if_pos] at e1
        simp only [va_up, if_neg hwn] at e2
        cases e1
        exact absurd e2 (hfresh w hw)
    · by_cases hwn : w = n
      · subst hwn
        simp only [va_up, if_neg hvn] at e1
        simp only [va_up, if_pos] at e2
        cases e2
        exact absurd e1 (hfresh v hv)
      · simp only [va_up, if_neg hvn] at e1
        simp only [va_up, if_neg hwn] at e2
        exact h3 v w b hv hw e1 e2
end OA
section OG
variable {p : Program} {l : Launch} {e : Env} {R : Room} {s : State} {m : MethodId} {args : Array Value} {below : List Frame} {meth : Method} {c : Code} {H : Heap} {locs : List Loc} {cells slots : Nat} {Q : State → Prop}
variable {pc : Nat} {L : Array Slot} {rest : List Value} {A : Nat → Prop} {H0 : Heap} {D : va_G} {cI cZ cP : ClassId} {ws ws0 : va_W} {own : String} {cc : ByteArray} {nL idx h p0 ha : Nat} {rt0 : Option FieldType} {sc : Nat → Int32}
theorem of_gV (X : Cx p m c meth s args own cc nL rt0 D (vTy cI cZ cP)) (hP : va_P D vwCl ws H) (ho : ws[p0]? = some (h, of_o sc ha)) (hlink : Cond.fieldLink own idx "VoucherOffice" "vouchers" "[LVoucherOffice$Plain;" ∈ wd_big) (hdg : decode cc pc = .ok (.getfield idx, 3)) (kk : W p l e R s m args below meth c H locs cells slots Q (F0 m (pc + 3) L (.ref ha :: rest))) : W p l e R s m args below meth c H locs cells slots Q (F0 m pc L (.ref h :: rest)) := by
  obtain ⟨hx, hb, hr, hml, hown, hts, hK, hlk, hxK⟩ := X
  exact va_get (ci := 8) (C := RX8) (T := TX8) (N := 7) hx hb hts in_X8 hown hK hP p0 ho rfl 0 (by decide) (hts _ hlink) (fun _ h9 => h9) rfl hdg kk
theorem of_g1 (X : Cx p m c meth s args own cc nL rt0 D (vTy cI cZ cP)) (hP : va_P D vwCl ws H) (ho : ws[p0]? = some (h, of_o sc ha)) (hlink : Cond.fieldLink own idx "VoucherOffice" "issued" "I" ∈ wd_big) (hdg : decode cc pc = .ok (.getfield idx, 3)) (kk : W p l e R s m args below meth c H locs cells slots Q (F0 m (pc + 3) L (.int (sc 1) :: rest))) : W p l e R s m args below meth c H locs cells slots Q (F0 m pc L (.ref h :: rest)) := by
  obtain ⟨hx, hb, hr, hml, hown, hts, hK, hlk, hxK⟩ := X
  exact va_get (ci := 8) (C := RX8) (T := TX8) (N := 7) hx hb hts in_X8 hown hK hP p0 ho rfl 1 (by decide) (hts _ hlink) (fun _ h9 => h9) rfl hdg kk
theorem of_p1 (X : Cx p m c meth s args own cc nL rt0 D (vTy cI cZ cP)) (hP : va_P D vwCl ws H) (hD : va_D A ws) (hS : va_S A H0 H locs) (ho : ws[p0]? = some (h, of_o sc ha)) (hlink : Cond.fieldLink own idx "VoucherOffice" "issued" "I" ∈ wd_big) (hdg : decode cc pc = .ok (.putfield idx, 3)) {x : Int32} (kk : ∀ (H1 : Heap) (locs1 : List Loc), va_P D vwCl (ws.set p0 (h, of_o (va_up sc 1 x) ha)) H1 → va_D A (ws.set p0 (h, of_o (va_up sc 1 x) ha)) → va_S A H0 H1 locs1 → W p l e R s m args below meth c H1 locs1 cells slots Q (F0 m (pc + 3) L rest)) : W p l e R s m args below meth c H locs cells slots Q (F0 m pc L (.int x :: .ref h :: rest)) := by
  obtain ⟨hx, hb, hr, hml, hown, hts, hK, hlk, hxK⟩ := X
  exact va_put (ci := 8) (v := .int x) (ty := .int) (C := RX8) (T := TX8) (N := 7) hx hb hts in_X8 tyX8 tyX8_ok nmX8 hown hK hP hD hS p0 ho rfl 1 (by decide) (hts _ hlink) (fun _ h9 => h9) rfl (by decide +kernel) rfl rfl (Nat.le_of_ble_eq_true rfl) hdg kk
theorem of_g0 (X : Cx p m c meth s args own cc nL rt0 D (vTy cI cZ cP)) (hP : va_P D vwCl ws H) (ho : ws[p0]? = some (h, of_o sc ha)) (hlink : Cond.fieldLink own idx "VoucherOffice" "today" "I" ∈ wd_big) (hdg : decode cc pc = .ok (.getfield idx, 3)) (kk : W p l e R s m args below meth c H locs cells slots Q (F0 m (pc + 3) L (.int (sc 0) :: rest))) : W p l e R s m args below meth c H locs cells slots Q (F0 m pc L (.ref h :: rest)) := by
  obtain ⟨hx, hb, hr, hml, hown, hts, hK, hlk, hxK⟩ := X
  exact va_get (ci := 8) (C := RX8) (T := TX8) (N := 7) hx hb hts in_X8 hown hK hP p0 ho rfl 2 (by decide) (hts _ hlink) (fun _ h9 => h9) rfl hdg kk
theorem of_p0 (X : Cx p m c meth s args own cc nL rt0 D (vTy cI cZ cP)) (hP : va_P D vwCl ws H) (hD : va_D A ws) (hS : va_S A H0 H locs) (ho : ws[p0]? = some (h, of_o sc ha)) (hlink : Cond.fieldLink own idx "VoucherOffice" "today" "I" ∈ wd_big) (hdg : decode cc pc = .ok (.putfield idx, 3)) {x : Int32} (kk : ∀ (H1 : Heap) (locs1 : List Loc), va_P D vwCl (ws.set p0 (h, of_o (va_up sc 0 x) ha)) H1 → va_D A (ws.set p0 (h, of_o (va_up sc 0 x) ha)) → va_S A H0 H1 locs1 → W p l e R s m args below meth c H1 locs1 cells slots Q (F0 m (pc + 3) L rest)) : W p l e R s m args below meth c H locs cells slots Q (F0 m pc L (.int x :: .ref h :: rest)) := by
  obtain ⟨hx, hb, hr, hml, hown, hts, hK, hlk, hxK⟩ := X
  exact va_put (ci := 8) (v := .int x) (ty := .int) (C := RX8) (T := TX8) (N := 7) hx hb hts in_X8 tyX8 tyX8_ok nmX8 hown hK hP hD hS p0 ho rfl 2 (by decide) (hts _ hlink) (fun _ h9 => h9) rfl (by decide +kernel) rfl rfl (Nat.le_of_ble_eq_true rfl) hdg kk
theorem of_g2 (X : Cx p m c meth s args own cc nL rt0 D (vTy cI cZ cP)) (hP : va_P D vwCl ws H) (ho : ws[p0]? = some (h, of_o sc ha)) (hlink : Cond.fieldLink own idx "VoucherOffice" "issuedAmounts" "I" ∈ wd_big) (hdg : decode cc pc = .ok (.getfield idx, 3)) (kk : W p l e R s m args below meth c H locs cells slots Q (F0 m (pc + 3) L (.int (sc 2) :: rest))) : W p l e R s m args below meth c H locs cells slots Q (F0 m pc L (.ref h :: rest)) := by
  obtain ⟨hx, hb, hr, hml, hown, hts, hK, hlk, hxK⟩ := X
  exact va_get (ci := 8) (C := RX8) (T := TX8) (N := 7) hx hb hts in_X8 hown hK hP p0 ho rfl 3 (by decide) (hts _ hlink) (fun _ h9 => h9) rfl hdg kk
theorem of_p2 (X : Cx p m c meth s args own cc nL rt0 D (vTy cI cZ cP)) (hP : va_P D vwCl ws H) (hD : va_D A ws) (hS : va_S A H0 H locs) (ho : ws[p0]? = some (h, of_o sc ha)) (hlink : Cond.fieldLink own idx "VoucherOffice" "issuedAmounts" "I" ∈ wd_big) (hdg : decode cc pc = .ok (.putfield idx, 3)) {x : Int32} (kk : ∀ (H1 : Heap) (locs1 : List Loc), va_P D vwCl (ws.set p0 (h, of_o (va_up sc 2 x) ha)) H1 → va_D A (ws.set p0 (h, of_o (va_up sc 2 x) ha)) → va_S A H0 H1 locs1 → W p l e R s m args below meth c H1 locs1 cells slots Q (F0 m (pc + 3) L rest)) : W p l e R s m args below meth c H locs cells slots Q (F0 m pc L (.int x :: .ref h :: rest)) := by
  obtain ⟨hx, hb, hr, hml, hown, hts, hK, hlk, hxK⟩ := X
  exact va_put (ci := 8) (v := .int x) (ty := .int) (C := RX8) (T := TX8) (N := 7) hx hb hts in_X8 tyX8 tyX8_ok nmX8 hown hK hP hD hS p0 ho rfl 3 (by decide) (hts _ hlink) (fun _ h9 => h9) rfl (by decide +kernel) rfl rfl (Nat.le_of_ble_eq_true rfl) hdg kk
theorem of_g3 (X : Cx p m c meth s args own cc nL rt0 D (vTy cI cZ cP)) (hP : va_P D vwCl ws H) (ho : ws[p0]? = some (h, of_o sc ha)) (hlink : Cond.fieldLink own idx "VoucherOffice" "spentTogether" "I" ∈ wd_big) (hdg : decode cc pc = .ok (.getfield idx, 3)) (kk : W p l e R s m args below meth c H locs cells slots Q (F0 m (pc + 3) L (.int (sc 3) :: rest))) : W p l e R s m args below meth c H locs cells slots Q (F0 m pc L (.ref h :: rest)) := by
  obtain ⟨hx, hb, hr, hml, hown, hts, hK, hlk, hxK⟩ := X
  exact va_get (ci := 8) (C := RX8) (T := TX8) (N := 7) hx hb hts in_X8 hown hK hP p0 ho rfl 4 (by decide) (hts _ hlink) (fun _ h9 => h9) rfl hdg kk
theorem of_p3 (X : Cx p m c meth s args own cc nL rt0 D (vTy cI cZ cP)) (hP : va_P D vwCl ws H) (hD : va_D A ws) (hS : va_S A H0 H locs) (ho : ws[p0]? = some (h, of_o sc ha)) (hlink : Cond.fieldLink own idx "VoucherOffice" "spentTogether" "I" ∈ wd_big) (hdg : decode cc pc = .ok (.putfield idx, 3)) {x : Int32} (kk : ∀ (H1 : Heap) (locs1 : List Loc), va_P D vwCl (ws.set p0 (h, of_o (va_up sc 3 x) ha)) H1 → va_D A (ws.set p0 (h, of_o (va_up sc 3 x) ha)) → va_S A H0 H1 locs1 → W p l e R s m args below meth c H1 locs1 cells slots Q (F0 m (pc + 3) L rest)) : W p l e R s m args below meth c H locs cells slots Q (F0 m pc L (.int x :: .ref h :: rest)) := by
  obtain ⟨hx, hb, hr, hml, hown, hts, hK, hlk, hxK⟩ := X
  exact va_put (ci := 8) (v := .int x) (ty := .int) (C := RX8) (T := TX8) (N := 7) hx hb hts in_X8 tyX8 tyX8_ok nmX8 hown hK hP hD hS p0 ho rfl 4 (by decide) (hts _ hlink) (fun _ h9 => h9) rfl (by decide +kernel) rfl rfl (Nat.le_of_ble_eq_true rfl) hdg kk
theorem of_g4 (X : Cx p m c meth s args own cc nL rt0 D (vTy cI cZ cP)) (hP : va_P D vwCl ws H) (ho : ws[p0]? = some (h, of_o sc ha)) (hlink : Cond.fieldLink own idx "VoucherOffice" "feesTogether" "I" ∈ wd_big) (hdg : decode cc pc = .ok (.getfield idx, 3)) (kk : W p l e R s m args below meth c H locs cells slots Q (F0 m (pc + 3) L (.int (sc 4) :: rest))) : W p l e R s m args below meth c H locs cells slots Q (F0 m pc L (.ref h :: rest)) := by
  obtain ⟨hx, hb, hr, hml, hown, hts, hK, hlk, hxK⟩ := X
  exact va_get (ci := 8) (C := RX8) (T := TX8) (N := 7) hx hb hts in_X8 hown hK hP p0 ho rfl 5 (by decide) (hts _ hlink) (fun _ h9 => h9) rfl hdg kk
theorem of_p4 (X : Cx p m c meth s args own cc nL rt0 D (vTy cI cZ cP)) (hP : va_P D vwCl ws H) (hD : va_D A ws) (hS : va_S A H0 H locs) (ho : ws[p0]? = some (h, of_o sc ha)) (hlink : Cond.fieldLink own idx "VoucherOffice" "feesTogether" "I" ∈ wd_big) (hdg : decode cc pc = .ok (.putfield idx, 3)) {x : Int32} (kk : ∀ (H1 : Heap) (locs1 : List Loc), va_P D vwCl (ws.set p0 (h, of_o (va_up sc 4 x) ha)) H1 → va_D A (ws.set p0 (h, of_o (va_up sc 4 x) ha)) → va_S A H0 H1 locs1 → W p l e R s m args below meth c H1 locs1 cells slots Q (F0 m (pc + 3) L rest)) : W p l e R s m args below meth c H locs cells slots Q (F0 m pc L (.int x :: .ref h :: rest)) := by
  obtain ⟨hx, hb, hr, hml, hown, hts, hK, hlk, hxK⟩ := X
  exact va_put (ci := 8) (v := .int x) (ty := .int) (C := RX8) (T := TX8) (N := 7) hx hb hts in_X8 tyX8 tyX8_ok nmX8 hown hK hP hD hS p0 ho rfl 5 (by decide) (hts _ hlink) (fun _ h9 => h9) rfl (by decide +kernel) rfl rfl (Nat.le_of_ble_eq_true rfl) hdg kk
theorem of_g5 (X : Cx p m c meth s args own cc nL rt0 D (vTy cI cZ cP)) (hP : va_P D vwCl ws H) (ho : ws[p0]? = some (h, of_o sc ha)) (hlink : Cond.fieldLink own idx "VoucherOffice" "lapsedTogether" "I" ∈ wd_big) (hdg : decode cc pc = .ok (.getfield idx, 3)) (kk : W p l e R s m args below meth c H locs cells slots Q (F0 m (pc + 3) L (.int (sc 5) :: rest))) : W p l e R s m args below meth c H locs cells slots Q (F0 m pc L (.ref h :: rest)) := by
  obtain ⟨hx, hb, hr, hml, hown, hts, hK, hlk, hxK⟩ := X
  exact va_get (ci := 8) (C := RX8) (T := TX8) (N := 7) hx hb hts in_X8 hown hK hP p0 ho rfl 6 (by decide) (hts _ hlink) (fun _ h9 => h9) rfl hdg kk
theorem of_p5 (X : Cx p m c meth s args own cc nL rt0 D (vTy cI cZ cP)) (hP : va_P D vwCl ws H) (hD : va_D A ws) (hS : va_S A H0 H locs) (ho : ws[p0]? = some (h, of_o sc ha)) (hlink : Cond.fieldLink own idx "VoucherOffice" "lapsedTogether" "I" ∈ wd_big) (hdg : decode cc pc = .ok (.putfield idx, 3)) {x : Int32} (kk : ∀ (H1 : Heap) (locs1 : List Loc), va_P D vwCl (ws.set p0 (h, of_o (va_up sc 5 x) ha)) H1 → va_D A (ws.set p0 (h, of_o (va_up sc 5 x) ha)) → va_S A H0 H1 locs1 → W p l e R s m args below meth c H1 locs1 cells slots Q (F0 m (pc + 3) L rest)) : W p l e R s m args below meth c H locs cells slots Q (F0 m pc L (.int x :: .ref h :: rest)) := by
  obtain ⟨hx, hb, hr, hml, hown, hts, hK, hlk, hxK⟩ := X
  exact va_put (ci := 8) (v := .int x) (ty := .int) (C := RX8) (T := TX8) (N := 7) hx hb hts in_X8 tyX8 tyX8_ok nmX8 hown hK hP hD hS p0 ho rfl 6 (by decide) (hts _ hlink) (fun _ h9 => h9) rfl (by decide +kernel) rfl rfl (Nat.le_of_ble_eq_true rfl) hdg kk
end OG
