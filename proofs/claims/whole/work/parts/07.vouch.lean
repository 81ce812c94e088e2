theorem in_X0 : ∀ w ∈ wsX00, w ∈ wd_big := (List.forall_mem_cons.mpr ⟨mw_136, List.forall_mem_cons.mpr ⟨mw_137, List.forall_mem_cons.mpr ⟨mw_138, List.forall_mem_cons.mpr ⟨mw_139, fun _ h => absurd h List.not_mem_nil⟩⟩⟩⟩ : ∀ w ∈ [u_lay RX0 TX0 0, u_lay RX0 TX0 1, u_lay RX0 TX0 2, u_lay RX0 TX0 3], w ∈ wd_big)
theorem in_X1 : ∀ w ∈ wsX10, w ∈ wd_big := (List.forall_mem_cons.mpr ⟨mw_163, List.forall_mem_cons.mpr ⟨mw_164, List.forall_mem_cons.mpr ⟨mw_165, List.forall_mem_cons.mpr ⟨mw_166, List.forall_mem_cons.mpr ⟨mw_167, fun _ h => absurd h List.not_mem_nil⟩⟩⟩⟩⟩ : ∀ w ∈ [u_lay RX1 TX1 0, u_lay RX1 TX1 1, u_lay RX1 TX1 2, u_lay RX1 TX1 3, u_lay RX1 TX1 4], w ∈ wd_big)
theorem in_X2 : ∀ w ∈ wsX20, w ∈ wd_big := (List.forall_mem_cons.mpr ⟨mw_89, List.forall_mem_cons.mpr ⟨mw_90, List.forall_mem_cons.mpr ⟨mw_91, List.forall_mem_cons.mpr ⟨mw_92, fun _ h => absurd h List.not_mem_nil⟩⟩⟩⟩ : ∀ w ∈ [u_lay RX2 TX2 0, u_lay RX2 TX2 1, u_lay RX2 TX2 2, u_lay RX2 TX2 3], w ∈ wd_big)
theorem in_X3 : ∀ w ∈ wsX30, w ∈ wd_big := (List.forall_mem_cons.mpr ⟨mw_152, List.forall_mem_cons.mpr ⟨mw_153, List.forall_mem_cons.mpr ⟨mw_154, List.forall_mem_cons.mpr ⟨mw_155, List.forall_mem_cons.mpr ⟨mw_150, fun _ h => absurd h List.not_mem_nil⟩⟩⟩⟩⟩ : ∀ w ∈ [u_lay RX3 TX3 0, u_lay RX3 TX3 1, u_lay RX3 TX3 2, u_lay RX3 TX3 3, u_lay RX3 TX3 4], w ∈ wd_big)
theorem in_X4 : ∀ w ∈ wsX40, w ∈ wd_big := (List.forall_mem_cons.mpr ⟨mw_74, List.forall_mem_cons.mpr ⟨mw_76, List.forall_mem_cons.mpr ⟨mw_78, List.forall_mem_cons.mpr ⟨mw_80, fun _ h => absurd h List.not_mem_nil⟩⟩⟩⟩ : ∀ w ∈ [u_lay RX4 TX4 0, u_lay RX4 TX4 1, u_lay RX4 TX4 2, u_lay RX4 TX4 3], w ∈ wd_big)
theorem in_X5 : ∀ w ∈ wsX50, w ∈ wd_big := (List.forall_mem_cons.mpr ⟨mw_125, List.forall_mem_cons.mpr ⟨mw_126, List.forall_mem_cons.mpr ⟨mw_127, List.forall_mem_cons.mpr ⟨mw_128, fun _ h => absurd h List.not_mem_nil⟩⟩⟩⟩ : ∀ w ∈ [u_lay RX5 TX5 0, u_lay RX5 TX5 1, u_lay RX5 TX5 2, u_lay RX5 TX5 3], w ∈ wd_big)
theorem in_X6 : ∀ w ∈ wsX60, w ∈ wd_big := (List.forall_mem_cons.mpr ⟨mw_100, List.forall_mem_cons.mpr ⟨mw_101, List.forall_mem_cons.mpr ⟨mw_102, List.forall_mem_cons.mpr ⟨mw_103, fun _ h => absurd h List.not_mem_nil⟩⟩⟩⟩ : ∀ w ∈ [u_lay RX6 TX6 0, u_lay RX6 TX6 1, u_lay RX6 TX6 2, u_lay RX6 TX6 3], w ∈ wd_big)
theorem in_X7 : ∀ w ∈ wsX70, w ∈ wd_big := (List.forall_mem_cons.mpr ⟨mw_114, List.forall_mem_cons.mpr ⟨mw_115, List.forall_mem_cons.mpr ⟨mw_116, List.forall_mem_cons.mpr ⟨mw_117, List.forall_mem_cons.mpr ⟨mw_112, fun _ h => absurd h List.not_mem_nil⟩⟩⟩⟩⟩ : ∀ w ∈ [u_lay RX7 TX7 0, u_lay RX7 TX7 1, u_lay RX7 TX7 2, u_lay RX7 TX7 3, u_lay RX7 TX7 4], w ∈ wd_big)
theorem in_X8 : ∀ w ∈ wsX80, w ∈ wd_big := (List.forall_mem_cons.mpr ⟨mw_29, List.forall_mem_cons.mpr ⟨mw_31, List.forall_mem_cons.mpr ⟨mw_33, List.forall_mem_cons.mpr ⟨mw_35, List.forall_mem_cons.mpr ⟨mw_37, List.forall_mem_cons.mpr ⟨mw_39, List.forall_mem_cons.mpr ⟨mw_41, fun _ h => absurd h List.not_mem_nil⟩⟩⟩⟩⟩⟩⟩ : ∀ w ∈ [u_lay RX8 TX8 0, u_lay RX8 TX8 1, u_lay RX8 TX8 2, u_lay RX8 TX8 3, u_lay RX8 TX8 4, u_lay RX8 TX8 5, u_lay RX8 TX8 6], w ∈ wd_big)
theorem in_X9 : ∀ w ∈ wsX90, w ∈ wd_big := (List.forall_mem_cons.mpr ⟨mw_462, List.forall_mem_cons.mpr ⟨mw_464, List.forall_mem_cons.mpr ⟨mw_466, List.forall_mem_cons.mpr ⟨mw_468, List.forall_mem_cons.mpr ⟨mw_470, List.forall_mem_cons.mpr ⟨mw_472, List.forall_mem_cons.mpr ⟨mw_474, List.forall_mem_cons.mpr ⟨mw_476, List.forall_mem_cons.mpr ⟨mw_478, List.forall_mem_cons.mpr ⟨mw_480, List.forall_mem_cons.mpr ⟨mw_482, List.forall_mem_cons.mpr ⟨mw_484, List.forall_mem_cons.mpr ⟨mw_486, fun _ h => absurd h List.not_mem_nil⟩⟩⟩⟩⟩⟩⟩⟩⟩⟩⟩⟩⟩ : ∀ w ∈ [u_lay RX9 TX9 0, u_lay RX9 TX9 1, u_lay RX9 TX9 2, u_lay RX9 TX9 3, u_lay RX9 TX9 4, u_lay RX9 TX9 5, u_lay RX9 TX9 6, u_lay RX9 TX9 7, u_lay RX9 TX9 8, u_lay RX9 TX9 9, u_lay RX9 TX9 10, u_lay RX9 TX9 11, u_lay RX9 TX9 12], w ∈ wd_big)
/-- the cell of a voucher of the kind k (7 from 7 on) -/
def vo_E (k : Nat) (kd fr am le po ls : Int32) : va_E := match k with
  | 0 => .inr (4, [.int kd, .int fr, .int am, .int le])
  | 1 => .inr (2, [.int kd, .int fr, .int am, .int le])
  | 2 => .inr (6, [.int kd, .int fr, .int am, .int le])
  | 3 => .inr (7, [.int kd, .int fr, .int am, .int le, .int ls])
  | 4 => .inr (5, [.int kd, .int fr, .int am, .int le])
  | 5 => .inr (0, [.int kd, .int fr, .int am, .int le])
  | 6 => .inr (3, [.int kd, .int fr, .int am, .int le, .int po])
  | _ => .inr (1, [.int po, .int kd, .int fr, .int am, .int le])
/-- a field under the name by which javac spells it -/
def FS (ref decl name desc : String) : Prop := ref = decl ∨ Cond.sameField ref decl name desc ∈ wd_big
theorem fs_use {ref decl name desc : String} (h : FS ref decl name desc) {args : Array Value} {s : State} (hts : ∀ w ∈ wd_big, w.before args s = true) : ∀ x, s.fieldFound? decl name desc = some x → s.fieldFound? ref name desc = some x := by
  rcases h with rfl | h
  · exact fun _ h9 => h9
  · exact u_same (hts _ h)
theorem st_same {ws : va_W} {q : Nat} {x y : Nat × va_E} (h : ws[q]? = some x) : (ws.set q y)[q]? = some y := by
  have h1 := (List.getElem?_eq_some_iff.mp h).1
  simp [List.getElem?_set, h1]
theorem st_other {ws : va_W} {q q1 : Nat} {x y : Nat × va_E} (hne : q ≠ q1) (h : ws[q1]? = some x) : (ws.set q y)[q1]? = some x := by
  simp [List.getElem?_set, hne, h]
theorem st_self {ws : va_W} {q : Nat} {x : Nat × va_E} (h : ws[q]? = some x) : ws.set q x = ws := by
  apply List.ext_getElem?
  intro i
  by_cases hi : q = i
  · subst hi
    rw [st_same h, h]
  · simp [List.getElem?_set, hi]
abbrev vTy (cI cZ cP : ClassId) : List (ClassId × FieldType) := [(cI, .int), (cZ, .boolean), (cP, .object "VoucherOffice$Plain")]
section VG
variable {p : Program} {l : Launch} {e : Env} {R : Room} {s : State} {m : MethodId} {args : Array Value} {below : List Frame} {meth : Method} {c : Code} {H : Heap} {locs : List Loc} {cells slots : Nat} {Q : State → Prop}
variable {pc : Nat} {ls' : Array Slot} {rest : List Value} {A : Nat → Prop} {H0 : Heap} {D : va_G} {tys : List (ClassId × FieldType)} {ws : va_W} {own ref : String} {cc : ByteArray} {nL idx q0 a k : Nat} {rt0 : Option FieldType} {kd fr am le po ls : Int32}
theorem vo_gK (X : Cx p m c meth s args own cc nL rt0 D tys) (hP : va_P D vwCl ws H) (he : ws[q0]? = some (a, vo_E k kd fr am le po ls)) (hlink : Cond.fieldLink own idx ref "kind" "I" ∈ wd_big) (hf : FS ref "VoucherOffice$Plain" "kind" "I") (hdg : decode cc pc = .ok (.getfield idx, 3)) (kk : W p l e R s m args below meth c H locs cells slots Q (F0 m (pc + 3) ls' (.int kd :: rest))) : W p l e R s m args below meth c H locs cells slots Q (F0 m pc ls' (.ref a :: rest)) := by
  obtain ⟨hx, hb, hr, hml, hown, hts, hK, hlk, hxK⟩ := X
  match k, he with
  | 0, he => exact va_get (ci := 4) (C := RX4) (T := TX4) (N := 4) hx hb hts in_X4 hown hK hP q0 he rfl 0 (by decide) (hts _ hlink) (fs_use hf hts) rfl hdg kk
  | 1, he => exact va_get (ci := 2) (C := RX2) (T := TX2) (N := 4) hx hb hts in_X2 hown hK hP q0 he rfl 0 (by decide) (hts _ hlink) (fs_use hf hts) rfl hdg kk
  | 2, he => exact va_get (ci := 6) (C := RX6) (T := TX6) (N := 4) hx hb hts in_X6 hown hK hP q0 he rfl 0 (by decide) (hts _ hlink) (fs_use hf hts) rfl hdg kk
  | 3, he => exact va_get (ci := 7) (C := RX7) (T := TX7) (N := 5) hx hb hts in_X7 hown hK hP q0 he rfl 0 (by decide) (hts _ hlink) (fs_use hf hts) rfl hdg kk
  | 4, he => exact va_get (ci := 5) (C := RX5) (T := TX5) (N := 4) hx hb hts in_X5 hown hK hP q0 he rfl 0 (by decide) (hts _ hlink) (fs_use hf hts) rfl hdg kk
  | 5, he => exact va_get (ci := 0) (C := RX0) (T := TX0) (N := 4) hx hb hts in_X0 hown hK hP q0 he rfl 0 (by decide) (hts _ hlink) (fs_use hf hts) rfl hdg kk
  | 6, he => exact va_get (ci := 3) (C := RX3) (T := TX3) (N := 5) hx hb hts in_X3 hown hK hP q0 he rfl 0 (by decide) (hts _ hlink) (fs_use hf hts) rfl hdg kk
  | n + 7, he => exact va_get (ci := 1) (C := RX1) (T := TX1) (N := 5) hx hb hts in_X1 hown hK hP q0 he rfl 1 (by decide) (hts _ hlink) (fs_use hf hts) rfl hdg kk
theorem vo_pK (X : Cx p m c meth s args own cc nL rt0 D tys) (hP : va_P D vwCl ws H) (hD : va_D A ws) (hS : va_S A H0 H locs) (hin : meth.name = "<init>") (hdecl : "VoucherOffice$Plain" = own) (he : ws[q0]? = some (a, vo_E k kd fr am le po ls)) (hlink : Cond.fieldLink own idx ref "kind" "I" ∈ wd_big) (hf : FS ref "VoucherOffice$Plain" "kind" "I") (hdg : decode cc pc = .ok (.putfield idx, 3)) {v : Int32} (kk : ∀ (H1 : Heap) (locs1 : List Loc), va_P D vwCl (ws.set q0 (a, vo_E k v fr am le po ls)) H1 → va_D A (ws.set q0 (a, vo_E k v fr am le po ls)) → va_S A H0 H1 locs1 → W p l e R s m args below meth c H1 locs1 cells slots Q (F0 m (pc + 3) ls' rest)) : W p l e R s m args below meth c H locs cells slots Q (F0 m pc ls' (.int v :: .ref a :: rest)) := by
  obtain ⟨hx, hb, hr, hml, hown, hts, hK, hlk, hxK⟩ := X
  match k, he, kk with
  | 0, he, kk => exact va_putF (ci := 4) (v := .int v) (ty := .int) (C := RX4) (T := TX4) (N := 4) hx hb hts in_X4 tyX4 tyX4_ok nmX4 hown hK hP hD hS q0 he rfl 0 (by decide) (hts _ hlink) (fs_use hf hts) rfl hin hdecl (by decide +kernel) rfl rfl (Nat.le_of_ble_eq_true rfl) hdg kk
  | 1, he, kk => exact va_putF (ci := 2) (v := .int v) (ty := .int) (C := RX2) (T := TX2) (N := 4) hx hb hts in_X2 tyX2 tyX2_ok nmX2 hown hK hP hD hS q0 he rfl 0 (by decide) (hts _ hlink) (fs_use hf hts) rfl hin hdecl (by decide +kernel) rfl rfl (Nat.le_of_ble_eq_true rfl) hdg kk
  | 2, he, kk => exact va_putF (ci := 6) (v := .int v) (ty := .int) (C := RX6) (T := TX6) (N := 4) hx hb hts in_X6 tyX6 tyX6_ok nmX6 hown hK hP hD hS q0 he rfl 0 (by decide) (hts _ hlink) (fs_use hf hts) rfl hin hdecl (by decide +kernel) rfl rfl (Nat.le_of_ble_eq_true rfl) hdg kk
  | 3, he, kk => exact va_putF (ci := 7) (v := .int v) (ty := .int) (C := RX7) (T := TX7) (N := 5) hx hb hts in_X7 tyX7 tyX7_ok nmX7 hown hK hP hD hS q0 he rfl 0 (by decide) (hts _ hlink) (fs_use hf hts) rfl hin hdecl (by decide +kernel) rfl rfl (Nat.le_of_ble_eq_true rfl) hdg kk
  | 4, he, kk => exact va_putF (ci := 5) (v := .int v) (ty := .int) (C := RX5) (T := TX5) (N := 4) hx hb hts in_X5 tyX5 tyX5_ok nmX5 hown hK hP hD hS q0 he rfl 0 (by decide) (hts _ hlink) (fs_use hf hts) rfl hin hdecl (by decide +kernel) rfl rfl (Nat.le_of_ble_eq_true rfl) hdg kk
  | 5, he, kk => exact va_putF (ci := 0) (v := .int v) (ty := .int) (C := RX0) (T := TX0) (N := 4) hx hb hts in_X0 tyX0 tyX0_ok nmX0 hown hK hP hD hS q0 he rfl 0 (by decide) (hts _ hlink) (fs_use hf hts) rfl hin hdecl (by decide +kernel) rfl rfl (Nat.le_of_ble_eq_true rfl) hdg kk
  | 6, he, kk => exact va_putF (ci := 3) (v := .int v) (ty := .int) (C := RX3) (T := TX3) (N := 5) hx hb hts in_X3 tyX3 tyX3_ok nmX3 hown hK hP hD hS q0 he rfl 0 (by decide) (hts _ hlink) (fs_use hf hts) rfl hin hdecl (by decide +kernel) rfl rfl (Nat.le_of_ble_eq_true rfl) hdg kk
  | n + 7, he, kk => exact va_putF (ci := 1) (v := .int v) (ty := .int) (C := RX1) (T := TX1) (N := 5) hx hb hts in_X1 tyX1 tyX1_ok nmX1 hown hK hP hD hS q0 he rfl 1 (by decide) (hts _ hlink) (fs_use hf hts) rfl hin hdecl (by decide +kernel) rfl rfl (Nat.le_of_ble_eq_true rfl) hdg kk
theorem vo_gF (X : Cx p m c meth s args own cc nL rt0 D tys) (hP : va_P D vwCl ws H) (he : ws[q0]? = some (a, vo_E k kd fr am le po ls)) (hlink : Cond.fieldLink own idx ref "from" "I" ∈ wd_big) (hf : FS ref "VoucherOffice$Plain" "from" "I") (hdg : decode cc pc = .ok (.getfield idx, 3)) (kk : W p l e R s m args below meth c H locs cells slots Q (F0 m (pc + 3) ls' (.int fr :: rest))) : W p l e R s m args below meth c H locs cells slots Q (F0 m pc ls' (.ref a :: rest)) := by
  obtain ⟨hx, hb, hr, hml, hown, hts, hK, hlk, hxK⟩ := X
  match k, he with
  | 0, he => exact va_get (ci := 4) (C := RX4) (T := TX4) (N := 4) hx hb hts in_X4 hown hK hP q0 he rfl 1 (by decide) (hts _ hlink) (fs_use hf hts) rfl hdg kk
  | 1, he => exact va_get (ci := 2) (C := RX2) (T := TX2) (N := 4) hx hb hts in_X2 hown hK hP q0 he rfl 1 (by decide) (hts _ hlink) (fs_use hf hts) rfl hdg kk
  | 2, he => exact va_get (ci := 6) (C := RX6) (T := TX6) (N := 4) hx hb hts in_X6 hown hK hP q0 he rfl 1 (by decide) (hts _ hlink) (fs_use hf hts) rfl hdg kk
  | 3, he => exact va_get (ci := 7) (C := RX7) (T := TX7) (N := 5) hx hb hts in_X7 hown hK hP q0 he rfl 1 (by decide) (hts _ hlink) (fs_use hf hts) rfl hdg kk
  | 4, he => exact va_get (ci := 5) (C := RX5) (T := TX5) (N := 4) hx hb hts in_X5 hown hK hP q0 he rfl 1 (by decide) (hts _ hlink) (fs_use hf hts) rfl hdg kk
  | 5, he => exact va_get (ci := 0) (C := RX0) (T := TX0) (N := 4) hx hb hts in_X0 hown hK hP q0 he rfl 1 (by decide) (hts _ hlink) (fs_use hf hts) rfl hdg kk
  | 6, he => exact va_get (ci := 3) (C := RX3) (T := TX3) (N := 5) hx hb hts in_X3 hown hK hP q0 he rfl 1 (by decide) (hts _ hlink) (fs_use hf hts) rfl hdg kk
  | n + 7, he => exact va_get (ci := 1) (C := RX1) (T := TX1) (N := 5) hx hb hts in_X1 hown hK hP q0 he rfl 2 (by decide) (hts _ hlink) (fs_use hf hts) rfl hdg kk
theorem vo_pF (X : Cx p m c meth s args own cc nL rt0 D tys) (hP : va_P D vwCl ws H) (hD : va_D A ws) (hS : va_S A H0 H locs) (hin : meth.name = "<init>") (hdecl : "VoucherOffice$Plain" = own) (he : ws[q0]? = some (a, vo_E k kd fr am le po ls)) (hlink : Cond.fieldLink own idx ref "from" "I" ∈ wd_big) (hf : FS ref "VoucherOffice$Plain" "from" "I") (hdg : decode cc pc = .ok (.putfield idx, 3)) {v : Int32} (kk : ∀ (H1 : Heap) (locs1 : List Loc), va_P D vwCl (ws.set q0 (a, vo_E k kd v am le po ls)) H1 → va_D A (ws.set q0 (a, vo_E k kd v am le po ls)) → va_S A H0 H1 locs1 → W p l e R s m args below meth c H1 locs1 cells slots Q (F0 m (pc + 3) ls' rest)) : W p l e R s m args below meth c H locs cells slots Q (F0 m pc ls' (.int v :: .ref a :: rest)) := by
  obtain ⟨hx, hb, hr, hml, hown, hts, hK, hlk, hxK⟩ := X
  match k, he, kk with
  | 0, he, kk => exact va_putF (ci := 4) (v := .int v) (ty := .int) (C := RX4) (T := TX4) (N := 4) hx hb hts in_X4 tyX4 tyX4_ok nmX4 hown hK hP hD hS q0 he rfl 1 (by decide) (hts _ hlink) (fs_use hf hts) rfl hin hdecl (by decide +kernel) rfl rfl (Nat.le_of_ble_eq_true rfl) hdg kk
  | 1, he, kk => exact va_putF (ci := 2) (v := .int v) (ty := .int) (C := RX2) (T := TX2) (N := 4) hx hb hts in_X2 tyX2 tyX2_ok nmX2 hown hK hP hD hS q0 he rfl 1 (by decide) (hts _ hlink) (fs_use hf hts) rfl hin hdecl (by decide +kernel) rfl rfl (Nat.le_of_ble_eq_true rfl) hdg kk
  | 2, he, kk => exact va_putF (ci := 6) (v := .int v) (ty := .int) (C := RX6) (T := TX6) (N := 4) hx hb hts in_X6 tyX6 tyX6_ok nmX6 hown hK hP hD hS q0 he rfl 1 (by decide) (hts _ hlink) (fs_use hf hts) rfl hin hdecl (by decide +kernel) rfl rfl (Nat.le_of_ble_eq_true rfl) hdg kk
  | 3, he, kk => exact va_putF (ci := 7) (v := .int v) (ty := .int) (C := RX7) (T := TX7) (N := 5) hx hb hts in_X7 tyX7 tyX7_ok nmX7 hown hK hP hD hS q0 he rfl 1 (by decide) (hts _ hlink) (fs_use hf hts) rfl hin hdecl (by decide +kernel) rfl rfl (Nat.le_of_ble_eq_true rfl) hdg kk
  | 4, he, kk => exact va_putF (ci := 5) (v := .int v) (ty := .int) (C := RX5) (T := TX5) (N := 4) hx hb hts in_X5 tyX5 tyX5_ok nmX5 hown hK hP hD hS q0 he rfl 1 (by decide) (hts _ hlink) (fs_use hf hts) rfl hin hdecl (by decide +kernel) rfl rfl (Nat.le_of_ble_eq_true rfl) hdg kk
  | 5, he, kk => exact va_putF (ci := 0) (v := .int v) (ty := .int) (C := RX0) (T := TX0) (N := 4) hx hb hts in_X0 tyX0 tyX0_ok nmX0 hown hK hP hD hS q0 he rfl 1 (by decide) (hts _ hlink) (fs_use hf hts) rfl hin hdecl (by decide +kernel) rfl rfl (Nat.le_of_ble_eq_true rfl) hdg kk
  | 6, he, kk => exact va_putF (ci := 3) (v := .int v) (ty := .int) (C := RX3) (T := TX3) (N := 5) hx hb hts in_X3 tyX3 tyX3_ok nmX3 hown hK hP hD hS q0 he rfl 1 (by decide) (hts _ hlink) (fs_use hf hts) rfl hin hdecl (by decide +kernel) rfl rfl (Nat.le_of_ble_eq_true rfl) hdg kk
  | n + 7, he, kk => exact va_putF (ci := 1) (v := .int v) (ty := .int) (C := RX1) (T := TX1) (N := 5) hx hb hts in_X1 tyX1 tyX1_ok nmX1 hown hK hP hD hS q0 he rfl 2 (by decide) (hts _ hlink) (fs_use hf hts) rfl hin hdecl (by decide +kernel) rfl rfl (Nat.le_of_ble_eq_true rfl) hdg kk
theorem vo_gA (X : Cx p m c meth s args own cc nL rt0 D tys) (hP : va_P D vwCl ws H) (he : ws[q0]? = some (a, vo_E k kd fr am le po ls)) (hlink : Cond.fieldLink own idx ref "amount" "I" ∈ wd_big) (hf : FS ref "VoucherOffice$Plain" "amount" "I") (hdg : decode cc pc = .ok (.getfield idx, 3)) (kk : W p l e R s m args below meth c H locs cells slots Q (F0 m (pc + 3) ls' (.int am :: rest))) : W p l e R s m args below meth c H locs cells slots Q (F0 m pc ls' (.ref a :: rest)) := by
  obtain ⟨hx, hb, hr, hml, hown, hts, hK, hlk, hxK⟩ := X
  match k, he with
  | 0, he => exact va_get (ci := 4) (C := RX4) (T := TX4) (N := 4) hx hb hts in_X4 hown hK hP q0 he rfl 2 (by decide) (hts _ hlink) (fs_use hf hts) rfl hdg kk
  | 1, he => exact va_get (ci := 2) (C := RX2) (T := TX2) (N := 4) hx hb hts in_X2 hown hK hP q0 he rfl 2 (by decide) (hts _ hlink) (fs_use hf hts) rfl hdg kk
  | 2, he => exact va_get (ci := 6) (C := RX6) (T := TX6) (N := 4) hx hb hts in_X6 hown hK hP q0 he rfl 2 (by decide) (hts _ hlink) (fs_use hf hts) rfl hdg kk
  | 3, he => exact va_get (ci := 7) (C := RX7) (T := TX7) (N := 5) hx hb hts in_X7 hown hK hP q0 he rfl 2 (by decide) (hts _ hlink) (fs_use hf hts) rfl hdg kk
  | 4, he => exact va_get (ci := 5) (C := RX5) (T := TX5) (N := 4) hx hb hts in_X5 hown hK hP q0 he rfl 2 (by decide) (hts _ hlink) (fs_use hf hts) rfl hdg kk
  | 5, he => exact va_get (ci := 0) (C := RX0) (T := TX0) (N := 4) hx hb hts in_X0 hown hK hP q0 he rfl 2 (by decide) (hts _ hlink) (fs_use hf hts) rfl hdg kk
  | 6, he => exact va_get (ci := 3) (C := RX3) (T := TX3) (N := 5) hx hb hts in_X3 hown hK hP q0 he rfl 2 (by decide) (hts _ hlink) (fs_use hf hts) rfl hdg kk
  | n + 7, he => exact va_get (ci := 1) (C := RX1) (T := TX1) (N := 5) hx hb hts in_X1 hown hK hP q0 he rfl 3 (by decide) (hts _ hlink) (fs_use hf hts) rfl hdg kk
theorem vo_pA (X : Cx p m c meth s args own cc nL rt0 D tys) (hP : va_P D vwCl ws H) (hD : va_D A ws) (hS : va_S A H0 H locs) (he : ws[q0]? = some (a, vo_E k kd fr am le po ls)) (hlink : Cond.fieldLink own idx ref "amount" "I" ∈ wd_big) (hf : FS ref "VoucherOffice$Plain" "amount" "I") (hdg : decode cc pc = .ok (.putfield idx, 3)) {v : Int32} (kk : ∀ (H1 : Heap) (locs1 : List Loc), va_P D vwCl (ws.set q0 (a, vo_E k kd fr v le po ls)) H1 → va_D A (ws.set q0 (a, vo_E k kd fr v le po ls)) → va_S A H0 H1 locs1 → W p l e R s m args below meth c H1 locs1 cells slots Q (F0 m (pc + 3) ls' rest)) : W p l e R s m args below meth c H locs cells slots Q (F0 m pc ls' (.int v :: .ref a :: rest)) := by
  obtain ⟨hx, hb, hr, hml, hown, hts, hK, hlk, hxK⟩ := X
  match k, he, kk with
  | 0, he, kk => exact va_put (ci := 4) (v := .int v) (ty := .int) (C := RX4) (T := TX4) (N := 4) hx hb hts in_X4 tyX4 tyX4_ok nmX4 hown hK hP hD hS q0 he rfl 2 (by decide) (hts _ hlink) (fs_use hf hts) rfl (by decide +kernel) rfl rfl (Nat.le_of_ble_eq_true rfl) hdg kk
  | 1, he, kk => exact va_put (ci := 2) (v := .int v) (ty := .int) (C := RX2) (T := TX2) (N := 4) hx hb hts in_X2 tyX2 tyX2_ok nmX2 hown hK hP hD hS q0 he rfl 2 (by decide) (hts _ hlink) (fs_use hf hts) rfl (by decide +kernel) rfl rfl (Nat.le_of_ble_eq_true rfl) hdg kk
  | 2, he, kk => exact va_put (ci := 6) (v := .int v) (ty := .int) (C := RX6) (T := TX6) (N := 4) hx hb hts in_X6 tyX6 tyX6_ok nmX6 hown hK hP hD hS q0 he rfl 2 (by decide) (hts _ hlink) (fs_use hf hts) rfl (by decide +kernel) rfl rfl (Nat.le_of_ble_eq_true rfl) hdg kk
  | 3, he, kk => exact va_put (ci := 7) (v := .int v) (ty := .int) (C := RX7) (T := TX7) (N := 5) hx hb hts in_X7 tyX7 tyX7_ok nmX7 hown hK hP hD hS q0 he rfl 2 (by decide) (hts _ hlink) (fs_use hf hts) rfl (by decide +kernel) rfl rfl (Nat.le_of_ble_eq_true rfl) hdg kk
  | 4, he, kk => exact va_put (ci := 5) (v := .int v) (ty := .int) (C := RX5) (T := TX5) (N := 4) hx hb hts in_X5 tyX5 tyX5_ok nmX5 hown hK hP hD hS q0 he rfl 2 (by decide) (hts _ hlink) (fs_use hf hts) rfl (by decide +kernel) rfl rfl (Nat.le_of_ble_eq_true rfl) hdg kk
  | 5, he, kk => exact va_put (ci := 0) (v := .int v) (ty := .int) (C := RX0) (T := TX0) (N := 4) hx hb hts in_X0 tyX0 tyX0_ok nmX0 hown hK hP hD hS q0 he rfl 2 (by decide) (hts _ hlink) (fs_use hf hts) rfl (by decide +kernel) rfl rfl (Nat.le_of_ble_eq_true rfl) hdg kk
  | 6, he, kk => exact va_put (ci := 3) (v := .int v) (ty := .int) (C := RX3) (T := TX3) (N := 5) hx hb hts in_X3 tyX3 tyX3_ok nmX3 hown hK hP hD hS q0 he rfl 2 (by decide) (hts _ hlink) (fs_use hf hts) rfl (by decide +kernel) rfl rfl (Nat.le_of_ble_eq_true rfl) hdg kk
  | n + 7, he, kk => exact va_put (ci := 1) (v := .int v) (ty := .int) (C := RX1) (T := TX1) (N := 5) hx hb hts in_X1 tyX1 tyX1_ok nmX1 hown hK hP hD hS q0 he rfl 3 (by decide) (hts _ hlink) (fs_use hf hts) rfl (by decide +kernel) rfl rfl (Nat.le_of_ble_eq_true rfl) hdg kk
theorem vo_gL (X : Cx p m c meth s args own cc nL rt0 D tys) (hP : va_P D vwCl ws H) (he : ws[q0]? = some (a, vo_E k kd fr am le po ls)) (hlink : Cond.fieldLink own idx ref "left" "I" ∈ wd_big) (hf : FS ref "VoucherOffice$Plain" "left" "I") (hdg : decode cc pc = .ok (.getfield idx, 3)) (kk : W p l e R s m args below meth c H locs cells slots Q (F0 m (pc + 3) ls' (.int le :: rest))) : W p l e R s m args below meth c H locs cells slots Q (F0 m pc ls' (.ref a :: rest)) := by
  obtain ⟨hx, hb, hr, hml, hown, hts, hK, hlk, hxK⟩ := X
  match k, he with
  | 0, he => exact va_get (ci := 4) (C := RX4) (T := TX4) (N := 4) hx hb hts in_X4 hown hK hP q0 he rfl 3 (by decide) (hts _ hlink) (fs_use hf hts) rfl hdg kk
  | 1, he => exact va_get (ci := 2) (C := RX2) (T := TX2) (N := 4) hx hb hts in_X2 hown hK hP q0 he rfl 3 (by decide) (hts _ hlink) (fs_use hf hts) rfl hdg kk
  | 2, he => exact va_get (ci := 6) (C := RX6) (T := TX6) (N := 4) hx hb hts in_X6 hown hK hP q0 he rfl 3 (by decide) (hts _ hlink) (fs_use hf hts) rfl hdg kk
  | 3, he => exact va_get (ci := 7) (C := RX7) (T := TX7) (N := 5) hx hb hts in_X7 hown hK hP q0 he rfl 3 (by decide) (hts _ hlink) (fs_use hf hts) rfl hdg kk
  | 4, he => exact va_get (ci := 5) (C := RX5) (T := TX5) (N := 4) hx hb hts in_X5 hown hK hP q0 he rfl 3 (by decide) (hts _ hlink) (fs_use hf hts) rfl hdg kk
  | 5, he => exact va_get (ci := 0) (C := RX0) (T := TX0) (N := 4) hx hb hts in_X0 hown hK hP q0 he rfl 3 (by decide) (hts _ hlink) (fs_use hf hts) rfl hdg kk
  | 6, he => exact va_get (ci := 3) (C := RX3) (T := TX3) (N := 5) hx hb hts in_X3 hown hK hP q0 he rfl 3 (by decide) (hts _ hlink) (fs_use hf hts) rfl hdg kk
  | n + 7, he => exact va_get (ci := 1) (C := RX1) (T := TX1) (N := 5) hx hb hts in_X1 hown hK hP q0 he rfl 4 (by decide) (hts _ hlink) (fs_use hf hts) rfl hdg kk
theorem vo_pL (X : Cx p m c meth s args own cc nL rt0 D tys) (hP : va_P D vwCl ws H) (hD : va_D A ws) (hS : va_S A H0 H locs) (he : ws[q0]? = some (a, vo_E k kd fr am le po ls)) (hlink : Cond.fieldLink own idx ref "left" "I" ∈ wd_big) (hf : FS ref "VoucherOffice$Plain" "left" "I") (hdg : decode cc pc = .ok (.putfield idx, 3)) {v : Int32} (kk : ∀ (H1 : Heap) (locs1 : List Loc), va_P D vwCl (ws.set q0 (a, vo_E k kd fr am v po ls)) H1 → va_D A (ws.set q0 (a, vo_E k kd fr am v po ls)) → va_S A H0 H1 locs1 → W p l e R s m args below meth c H1 locs1 cells slots Q (F0 m (pc + 3) ls' rest)) : W p l e R s m args below meth c H locs cells slots Q (F0 m pc ls' (.int v :: .ref a :: rest)) := by
  obtain ⟨hx, hb, hr, hml, hown, hts, hK, hlk, hxK⟩ := X
  match k, he, kk with
  | 0, he, kk => exact va_put (ci := 4) (v := .int v) (ty := .int) (C := RX4) (T := TX4) (N := 4) hx hb hts in_X4 tyX4 tyX4_ok nmX4 hown hK hP hD hS q0 he rfl 3 (by decide) (hts _ hlink) (fs_use hf hts) rfl (by decide +kernel) rfl rfl (Nat.le_of_ble_eq_true rfl) hdg kk
  | 1, he, kk => exact va_put (ci := 2) (v := .int v) (ty := .int) (C := RX2) (T := TX2) (N := 4) hx hb hts in_X2 tyX2 tyX2_ok nmX2 hown hK hP hD hS q0 he rfl 3 (by decide) (hts _ hlink) (fs_use hf hts) rfl (by decide +kernel) rfl rfl (Nat.le_of_ble_eq_true rfl) hdg kk
  | 2, he, kk => exact va_put (ci := 6) (v := .int v) (ty := .int) (C := RX6) (T := TX6) (N := 4) hx hb hts in_X6 tyX6 tyX6_ok nmX6 hown hK hP hD hS q0 he rfl 3 (by decide) (hts _ hlink) (fs_use hf hts) rfl (by decide +kernel) rfl rfl (Nat.le_of_ble_eq_true rfl) hdg kk
  | 3, he, kk => exact va_put (ci := 7) (v := .int v) (ty := .int) (C := RX7) (T := TX7) (N := 5) hx hb hts in_X7 tyX7 tyX7_ok nmX7 hown hK hP hD hS q0 he rfl 3 (by decide) (hts _ hlink) (fs_use hf hts) rfl (by decide +kernel) rfl rfl (Nat.le_of_ble_eq_true rfl) hdg kk
  | 4, he, kk => exact va_put (ci := 5) (v := .int v) (ty := .int) (C := RX5) (T := TX5) (N := 4) hx hb hts in_X5 tyX5 tyX5_ok nmX5 hown hK hP hD hS q0 he rfl 3 (by decide) (hts _ hlink) (fs_use hf hts) rfl (by decide +kernel) rfl rfl (Nat.le_of_ble_eq_true rfl) hdg kk
  | 5, he, kk => exact va_put (ci := 0) (v := .int v) (ty := .int) (C := RX0) (T := TX0) (N := 4) hx hb hts in_X0 tyX0 tyX0_ok nmX0 hown hK hP hD hS q0 he rfl 3 (by decide) (hts _ hlink) (fs_use hf hts) rfl (by decide +kernel) rfl rfl (Nat.le_of_ble_eq_true rfl) hdg kk
  | 6, he, kk => exact va_put (ci := 3) (v := .int v) (ty := .int) (C := RX3) (T := TX3) (N := 5) hx hb hts in_X3 tyX3 tyX3_ok nmX3 hown hK hP hD hS q0 he rfl 3 (by decide) (hts _ hlink) (fs_use hf hts) rfl (by decide +kernel) rfl rfl (Nat.le_of_ble_eq_true rfl) hdg kk
  | n + 7, he, kk => exact va_put (ci := 1) (v := .int v) (ty := .int) (C := RX1) (T := TX1) (N := 5) hx hb hts in_X1 tyX1 tyX1_ok nmX1 hown hK hP hD hS q0 he rfl 4 (by decide) (hts _ hlink) (fs_use hf hts) rfl (by decide +kernel) rfl rfl (Nat.le_of_ble_eq_true rfl) hdg kk
theorem vo_gP (X : Cx p m c meth s args own cc nL rt0 D tys) (hP : va_P D vwCl ws H) (hk : 6 ≤ k) (he : ws[q0]? = some (a, vo_E k kd fr am le po ls)) (hlink : Cond.fieldLink own idx ref "points" "I" ∈ wd_big) (hf : FS ref "VoucherOffice$House" "points" "I") (hdg : decode cc pc = .ok (.getfield idx, 3)) (kk : W p l e R s m args below meth c H locs cells slots Q (F0 m (pc + 3) ls' (.int po :: rest))) : W p l e R s m args below meth c H locs cells slots Q (F0 m pc ls' (.ref a :: rest)) := by
  obtain ⟨hx, hb, hr, hml, hown, hts, hK, hlk, hxK⟩ := X
  match k, he, hk with
  | 0, _, hk => exact absurd hk (by decide)
  | 1, _, hk => exact absurd hk (by decide)
  | 2, _, hk => exact absurd hk (by decide)
  | 3, _, hk => exact absurd hk (by decide)
  | 4, _, hk => exact absurd hk (by decide)
  | 5, _, hk => exact absurd hk (by decide)
  | 6, he, _ => exact va_get (ci := 3) (C := RX3) (T := TX3) (N := 5) hx hb hts in_X3 hown hK hP q0 he rfl 4 (by decide) (hts _ hlink) (fs_use hf hts) rfl hdg kk
  | n + 7, he, _ => exact va_get (ci := 1) (C := RX1) (T := TX1) (N := 5) hx hb hts in_X1 hown hK hP q0 he rfl 0 (by decide) (hts _ hlink) (fs_use hf hts) rfl hdg kk
theorem vo_pP (X : Cx p m c meth s args own cc nL rt0 D tys) (hP : va_P D vwCl ws H) (hD : va_D A ws) (hS : va_S A H0 H locs) (hk : 6 ≤ k) (he : ws[q0]? = some (a, vo_E k kd fr am le po ls)) (hlink : Cond.fieldLink own idx ref "points" "I" ∈ wd_big) (hf : FS ref "VoucherOffice$House" "points" "I") (hdg : decode cc pc = .ok (.putfield idx, 3)) {v : Int32} (kk : ∀ (H1 : Heap) (locs1 : List Loc), va_P D vwCl (ws.set q0 (a, vo_E k kd fr am le v ls)) H1 → va_D A (ws.set q0 (a, vo_E k kd fr am le v ls)) → va_S A H0 H1 locs1 → W p l e R s m args below meth c H1 locs1 cells slots Q (F0 m (pc + 3) ls' rest)) : W p l e R s m args below meth c H locs cells slots Q (F0 m pc ls' (.int v :: .ref a :: rest)) := by
  obtain ⟨hx, hb, hr, hml, hown, hts, hK, hlk, hxK⟩ := X
  match k, he, hk, kk with
  | 0, _, hk, _ => exact absurd hk (by decide)
  | 1, _, hk, _ => exact absurd hk (by decide)
  | 2, _, hk, _ => exact absurd hk (by decide)
  | 3, _, hk, _ => exact absurd hk (by decide)
  | 4, _, hk, _ => exact absurd hk (by decide)
  | 5, _, hk, _ => exact absurd hk (by decide)
  | 6, he, _, kk => exact va_put (ci := 3) (v := .int v) (ty := .int) (C := RX3) (T := TX3) (N := 5) hx hb hts in_X3 tyX3 tyX3_ok nmX3 hown hK hP hD hS q0 he rfl 4 (by decide) (hts _ hlink) (fs_use hf hts) rfl (by decide +kernel) rfl rfl (Nat.le_of_ble_eq_true rfl) hdg kk
  | n + 7, he, _, kk => exact va_put (ci := 1) (v := .int v) (ty := .int) (C := RX1) (T := TX1) (N := 5) hx hb hts in_X1 tyX1 tyX1_ok nmX1 hown hK hP hD hS q0 he rfl 0 (by decide) (hts _ hlink) (fs_use hf hts) rfl (by decide +kernel) rfl rfl (Nat.le_of_ble_eq_true rfl) hdg kk
theorem vo_gS (X : Cx p m c meth s args own cc nL rt0 D tys) (hP : va_P D vwCl ws H) (hk : k = 3) (he : ws[q0]? = some (a, vo_E k kd fr am le po ls)) (hlink : Cond.fieldLink own idx ref "lastSpent" "I" ∈ wd_big) (hf : FS ref "VoucherOffice$Staff" "lastSpent" "I") (hdg : decode cc pc = .ok (.getfield idx, 3)) (kk : W p l e R s m args below meth c H locs cells slots Q (F0 m (pc + 3) ls' (.int ls :: rest))) : W p l e R s m args below meth c H locs cells slots Q (F0 m pc ls' (.ref a :: rest)) := by
  obtain ⟨hx, hb, hr, hml, hown, hts, hK, hlk, hxK⟩ := X
  subst hk
  exact va_get (ci := 7) (C := RX7) (T := TX7) (N := 5) hx hb hts in_X7 hown hK hP q0 he rfl 4 (by decide) (hts _ hlink) (fs_use hf hts) rfl hdg kk
theorem vo_pS (X : Cx p m c meth s args own cc nL rt0 D tys) (hP : va_P D vwCl ws H) (hD : va_D A ws) (hS : va_S A H0 H locs) (hk : k = 3) (he : ws[q0]? = some (a, vo_E k kd fr am le po ls)) (hlink : Cond.fieldLink own idx ref "lastSpent" "I" ∈ wd_big) (hf : FS ref "VoucherOffice$Staff" "lastSpent" "I") (hdg : decode cc pc = .ok (.putfield idx, 3)) {v : Int32} (kk : ∀ (H1 : Heap) (locs1 : List Loc), va_P D vwCl (ws.set q0 (a, vo_E k kd fr am le po v)) H1 → va_D A (ws.set q0 (a, vo_E k kd fr am le po v)) → va_S A H0 H1 locs1 → W p l e R s m args below meth c H1 locs1 cells slots Q (F0 m (pc + 3) ls' rest)) : W p l e R s m args below meth c H locs cells slots Q (F0 m pc ls' (.int v :: .ref a :: rest)) := by
  obtain ⟨hx, hb, hr, hml, hown, hts, hK, hlk, hxK⟩ := X
  subst hk
  exact va_put (ci := 7) (v := .int v) (ty := .int) (C := RX7) (T := TX7) (N := 5) hx hb hts in_X7 tyX7 tyX7_ok nmX7 hown hK hP hD hS q0 he rfl 4 (by decide) (hts _ hlink) (fs_use hf hts) rfl (by decide +kernel) rfl rfl (Nat.le_of_ble_eq_true rfl) hdg kk
end VG
