abbrev rm_d (d mc ms : Nat) : Room := { frames := d, cells := mc, slots := ms, locals := 30 * d }
def q_g (post : Option Value → va_W → Prop) (B : va_W → State → Prop) (A : Nat → Prop) : Array Value → State → Outcome → State → Prop := fun _ st oc t => (∃ (v : Option Value) (u : va_W), oc = .returned v ∧ post v u ∧ B u t) ∧ va_F A st t
/-- what else the tables say of vouchers in a row -/
def xK (U : State) : Prop := va_AO "VoucherOffice$Plain" U ∧ (va_Nw (.castable "VoucherOffice$Gift" "VoucherOffice$Plain") U ∧ va_Nw (.castable "VoucherOffice$Season" "VoucherOffice$Plain") U ∧ va_Nw (.castable "VoucherOffice$Staff" "VoucherOffice$Plain") U ∧ va_Nw (.castable "VoucherOffice$Round" "VoucherOffice$Plain") U ∧ va_Nw (.castable "VoucherOffice$Club" "VoucherOffice$Plain") U ∧ va_Nw (.castable "VoucherOffice$House" "VoucherOffice$Plain") U ∧ va_Nw (.castable "VoucherOffice$Crest" "VoucherOffice$Plain") U)
theorem xk_cast {C E : String} {u U : State} (hvm : u.vm.Alike U.vm) (h : va_Nw (.castable C E) u) : va_Nw (.castable C E) U := by
  have e := Cond.onTables_vm (A := #[]) (A' := #[]) (U := u) (U' := U) U.vm (.castable C E) rfl
  have hU : U.setVm U.vm = U := rfl
  rw [hU] at e
  show (Cond.castable C E).before #[] U = true
  rw [← e, Cond.castable_setVm hvm]
  exact h
theorem xK.moved {u U : State} (hvm : u.vm.Alike U.vm) (h : xK u) : xK U := by
  obtain ⟨h0, h1, h2, h3, h4, h5, h6, h7⟩ := h
  exact ⟨h0.moved hvm, xk_cast hvm h1, xk_cast hvm h2, xk_cast hvm h3, xk_cast hvm h4, xk_cast hvm h5, xk_cast hvm h6, xk_cast hvm h7⟩
abbrev kK (D : va_G) (tys : List (ClassId × FieldType)) (U : State) : Prop := va_K D vwCl tys U ∧ xK U
theorem kK_moved {D : va_G} {tys : List (ClassId × FieldType)} {u U : State} (hvm : u.vm.Alike U.vm) (h : kK D tys u) : kK D tys U := ⟨va_K.moved hvm h.1, h.2.moved hvm⟩
abbrev wd_w (D : va_G) (tys : List (ClassId × FieldType)) (A : Nat → Prop) (ws : va_W) (t : State) : Prop := va_P D vwCl ws t.heap ∧ kK D tys t ∧ va_D A ws
/-- a method's contract: from the world ws, with the arguments av, it comes back with v in the world ws', and 'post v ws'' -/
def Ct (l : Launch) (D : va_G) (tys : List (ClassId × FieldType)) (y : MethodName) (cc : ByteArray) (nL : Nat) (ret : Option FieldType) (d mc ms : Nat) (av : List Value) (ws : va_W) (post : Option Value → va_W → Prop) : Prop :=
  ∀ sz : Nat, Met l y (.code y cc nL ret :: wd_big) (rm_d d mc ms) (va_Pc av (fun U => U.heap.size = sz ∧ wd_w D tys (fun _ => True) ws U)) (q_g post (wd_w D tys (va_A ws sz)) (va_A ws sz)) mc ms (va_A ws sz)
/-- what stands fast within a method -/
def Cx (p : Program) (m : MethodId) (c : Code) (meth : Method) (s : State) (args : Array Value) (own : String) (cc : ByteArray) (nL : Nat) (ret : Option FieldType) (D : va_G) (tys : List (ClassId × FieldType)) : Prop :=
  p.tables.exec = Jvm.exec ∧ c.code = cc ∧ meth.sig.returnType = ret ∧ c.maxLocals = nL ∧ s.vm.findClass own = some m.cls ∧ (∀ w ∈ wd_big, w.before args s = true) ∧ va_K D vwCl tys s ∧ meth.locks = false ∧ xK s
theorem ct_intro {l : Launch} {D : va_G} {tys : List (ClassId × FieldType)} {y : MethodName} {cc : ByteArray} {nL : Nat} {ret : Option FieldType} {d mc ms : Nat} {av : List Value} {ws : va_W} {post : Option Value → va_W → Prop}
    (hy : plainName y.cls = true) (hav : (lg_sl av).length ≤ nL)
    (body : ∀ (p : Program) (e : Env) (s : State) (m : MethodId) (below : List Frame) (meth : Method) (c : Code) (A : Nat → Prop) (ls : Array Slot),
      Cx p m c meth s av.toArray y.cls cc nL ret D tys → meth.name = y.name → va_P D vwCl ws s.heap → va_D A ws → va_S A s.heap s.heap [] → (∀ q, s.heap.size ≤ q → A q) → lv_has ls nL (lv_args 0 av) →
      W p l e (rm_d d mc ms) s m av.toArray below meth c s.heap [] 0 0 (MQ below (q_g post (wd_w D tys A) A) av.toArray s mc ms A) (F0 m 0 ls [])) : Ct l D tys y cc nL ret d mc ms av ws post := by
  intro sz
  refine Met.ofW (cc := cc) (maxL := nL) (ret := ret) hy rfl ?_
  intro p e s m args below meth c s₁ B hml hv
  obtain ⟨rfl, hsz, hP, hK, hD0⟩ := hv
  have hx := B.exec
  have hb := B.bytes
  have hr := B.returns
  have hts := atoms_spec (ws := .code y cc nL ret :: wd_big) B.pre
  have hown : s.vm.findClass y.cls = some m.cls := findClass_of_methodNamed B.named
  have hlocks := B.notSynchronized
  have hin : meth.name = y.name := (name_of_methodNamed B.named B.method).1
  subst hsz
  have hD := hD0.self (sz := s.heap.size)
  have hl := lv_entry av (n := nL) hav
  rw [lg_entry_eq]
  exact body p e s m below meth c _ _ ⟨hx, hb, hr, hml, hown, fun w h => hts w (List.mem_cons_of_mem _ h), hK.1, hlocks, hK.2⟩ hin hP hD va_S.rf (fun q h => Or.inr h) hl
/-- X is a subclass of O, by the tables, for every fuel from f on -/
def SubF (f : Nat) (X O : String) : Prop := ∀ (args : Array Value) (s : State), (∀ w ∈ wd_big, w.before args s = true) → ∀ a b : ClassId, s.vm.findClass X = some a → s.vm.findClass O = some b → ∀ n, s.vm.isSubclassAux (n + f) a b = true
theorem sub_rf (X : String) : SubF 1 X X := fun args s hts a b ha hb n => by
  cases ha.symm.trans hb
  simp [Vm.isSubclassAux]
theorem sub_up {f : Nat} {X Y O : String} (hw : Cond.superclass X Y ∈ wd_big) (h : SubF f Y O) : SubF (f + 1) X O := fun args s hts a b ha hb n => by
  obtain ⟨ps, dk, kp, hps, hdk, hkp, hsuper, -⟩ := Cond.superclass_spec ha (hts _ hw)
  have h1 := h args s hts ps b hps hb n
  rw [show n + (f + 1) = (n + f) + 1 from rfl]
  simp [Vm.isSubclassAux, hdk, hsuper, h1]
theorem sub_ne {s : State} {X Y : String} {a b : ClassId} (ha : s.vm.findClass X = some a) (hb : s.vm.findClass Y = some b) (hne : X ≠ Y) : a ≠ b := fun h => by
  subst h
  obtain ⟨k, h1, h2⟩ := Vm.findClass_spec ha
  obtain ⟨k', h3, h4⟩ := Vm.findClass_spec hb
  cases h1.symm.trans h3
  exact hne (h2.symm.trans h4)
theorem sub_size {args : Array Value} {s : State} (hts : ∀ w ∈ wd_big, w.before args s = true) {m : ClassId} (hm : s.vm.findClass "VoucherOffice$House" = some m) : 3 ≤ s.vm.classes.size := by
  obtain ⟨p1, k0, k1, f1, g0, g1, -⟩ := Cond.superclass_spec hm (hts (.superclass "VoucherOffice$House" "VoucherOffice$Club") mw_156)
  obtain ⟨p2, -, k2, f2, -, g2, -⟩ := Cond.superclass_spec f1 (hts (.superclass "VoucherOffice$Club" "VoucherOffice$Round") mw_140)
  have n1 : ¬ @Eq Nat m p1 := sub_ne hm f1 (by decide)
  have n2 : ¬ @Eq Nat m p2 := sub_ne hm f2 (by decide)
  have n3 : ¬ @Eq Nat p1 p2 := sub_ne f1 f2 (by decide)
  have l0 := (Array.getElem?_eq_some_iff.mp g0).1
  have l1 := (Array.getElem?_eq_some_iff.mp g1).1
  have l2 := (Array.getElem?_eq_some_iff.mp g2).1
  omega
section EN
variable {p : Program} {l : Launch} {e : Env} {R : Room} {s : State} {m : MethodId} {args : Array Value} {below : List Frame} {meth : Method} {c : Code} {H : Heap} {locs : List Loc} {mc ms : Nat} {own : String} {cc : ByteArray} {nL : Nat} {D : va_G} {tys : List (ClassId × FieldType)} {A : Nat → Prop} {ws1 : va_W} {post : Option Value → va_W → Prop} {pc : Nat} {ls : Array Slot}
theorem e_int (X : Cx p m c meth s args own cc nL (some .int) D tys) (hP : va_P D vwCl ws1 H) (hD : va_D A ws1) (hS : va_S A s.heap H locs) (hdg : decode cc pc = .ok (.ireturn, 1)) {v : Int32} (hpost : post (some (.int v)) ws1) : W p l e R s m args below meth c H locs mc ms (MQ below (q_g post (wd_w D tys A) A) args s mc ms A) (F0 m pc ls [.int v]) := by
  obtain ⟨hx, hb, hr, hml, hown, hts, hK, hlk, hxK⟩ := X
  exact W.iret hx hb hr (fun t ht hW => ⟨⟨_, ws1, rfl, hpost, by rw [ht]; exact hP, kK_moved hW.alike ⟨hK, hxK⟩, hD⟩, hS.F ht⟩) hS.2.2 hdg hlk
theorem e_bool (X : Cx p m c meth s args own cc nL (some .boolean) D tys) (hP : va_P D vwCl ws1 H) (hD : va_D A ws1) (hS : va_S A s.heap H locs) (hdg : decode cc pc = .ok (.ireturn, 1)) {v : Int32} (hv : v = 0 ∨ v = 1) (hpost : post (some (.int v)) ws1) : W p l e R s m args below meth c H locs mc ms (MQ below (q_g post (wd_w D tys A) A) args s mc ms A) (F0 m pc ls [.int v]) := by
  obtain ⟨hx, hb, hr, hml, hown, hts, hK, hlk, hxK⟩ := X
  exact W.zret hx hb hr (by rcases hv with rfl | rfl <;> decide) (fun t ht hW => ⟨⟨_, ws1, rfl, hpost, by rw [ht]; exact hP, kK_moved hW.alike ⟨hK, hxK⟩, hD⟩, hS.F ht⟩) hS.2.2 hdg hlk
theorem e_void (X : Cx p m c meth s args own cc nL none D tys) (hP : va_P D vwCl ws1 H) (hD : va_D A ws1) (hS : va_S A s.heap H locs) (hdg : decode cc pc = .ok (.return_, 1)) (hpost : post none ws1) : W p l e R s m args below meth c H locs mc ms (MQ below (q_g post (wd_w D tys A) A) args s mc ms A) (F0 m pc ls []) := by
  obtain ⟨hx, hb, hr, hml, hown, hts, hK, hlk, hxK⟩ := X
  exact W.vret hx hb hr (fun t ht hW => ⟨⟨_, ws1, rfl, hpost, by rw [ht]; exact hP, kK_moved hW.alike ⟨hK, hxK⟩, hD⟩, hS.F ht⟩) hS.2.2 hdg hlk
theorem e_ref {C : String} (X : Cx p m c meth s args own cc nL (some (.object C)) D tys) (hP : va_P D vwCl ws1 H) (hD : va_D A ws1) (hS : va_S A s.heap H locs) (hdg : decode cc pc = .ok (.areturn, 1)) {v : Value} (hv : v = .null ∨ ∃ a, v = .ref a) (hpost : post (some v) ws1) : W p l e R s m args below meth c H locs mc ms (MQ below (q_g post (wd_w D tys A) A) args s mc ms A) (F0 m pc ls [v]) := by
  obtain ⟨hx, hb, hr, hml, hown, hts, hK, hlk, hxK⟩ := X
  exact W.aret hx hb hr (Or.inl ⟨_, rfl⟩) hv (fun t ht hW => ⟨⟨_, ws1, rfl, hpost, by rw [ht]; exact hP, kK_moved hW.alike ⟨hK, hxK⟩, hD⟩, hS.F ht⟩) hS.2.2 hdg hlk
end EN
section GC
variable {p : Program} {l : Launch} {e : Env} {R : Room} {s : State} {m : MethodId} {args : Array Value} {below : List Frame} {meth : Method} {c : Code} {H : Heap} {locs : List Loc} {cells slots : Nat} {Q : State → Prop}
variable {pc : Nat} {ls : Array Slot} {rest st0 : List Value} {a : Array Value} {A0 : Nat → Prop} {H0 : Heap} {mc ms : Nat} {D : va_G} {tys : List (ClassId × FieldType)} {ws : va_W} {post : Option Value → va_W → Prop}
theorem g_call (hr : va_Run p l e R s m args below meth c H locs cells slots mc ms (F0 m pc ls st0) rest (q_g post (wd_w D tys (va_A ws H.size)) (va_A ws H.size) a) (va_A ws H.size)) (hD : va_D A0 ws) (hS : va_S A0 H0 H locs) (hA : ∀ q, H0.size ≤ q → A0 q)
    (kk : ∀ (v : Option Value) (ws1 : va_W) (H1 : Heap) (locs1 : List Loc), post v ws1 → va_P D vwCl ws1 H1 → va_D A0 ws1 → va_S A0 H0 H1 locs1 → W p l e R s m args below meth c H1 locs1 (cells + mc) (slots + ms) Q (F0 m (pc + 3) ls (v.toList ++ rest))) : W p l e R s m args below meth c H locs cells slots Q (F0 m pc ls st0) := by
  have hF : ∀ q, va_A ws H.size q → A0 q := by
    intro q hq
    rcases hq with ⟨k, e, h⟩ | h
    · exact hD.2 k _ h
    · exact hA q (Nat.le_trans hS.1 h)
  intro T hT X
  obtain ⟨v, st₀, t, T', L, h0, X', hL, e1, e2, ⟨⟨v', u, hv, hp, hP1, hK1, hD1⟩, hz, hk⟩, st⟩ := hr T hT X
  cases hv
  rw [h0] at hz hk
  obtain ⟨t2, a1, b1⟩ := kk v u T'.heap (locs ++ L) hp (by rw [e1]; exact hP1) (hD1.weaken (fun _ q _ h => hF q.1 h))
    ⟨Nat.le_trans hS.1 (by rw [e1]; exact hz), fun q h1 h2 => by rw [e1, hk q (Nat.lt_of_lt_of_le h1 hS.1) (fun z => h2 (hF q z))]; exact hS.2.1 q h1 h2, fun q hq => by
      rcases List.mem_append.mp hq with h | h
      · exact hS.2.2 q h
      · exact hF _ (hL q h)⟩ T' rfl X'
  exact ⟨t2, st t2 a1, b1⟩
theorem g_pre {av : List Value} (hP : va_P D vwCl ws H) (hD : va_D A0 ws) (hK : kK D tys s) : PreS s H (va_Pc av (fun U => U.heap.size = H.size ∧ wd_w D tys (fun _ => True) ws U)) av :=
  ⟨fun a U g mk q => by obtain ⟨q0, q1, qP, qK, qD⟩ := q; exact ⟨q0, q1, qP, kK_moved (u := U) (U := U.calling g mk a) (Vm.Alike.refl U.vm) qK, qD⟩, fun U hU hW => ⟨rfl, by rw [hU], by rw [hU]; exact hP, kK_moved hW.alike hK, hD.weaken (fun _ _ _ _ => trivial)⟩⟩
theorem g_in {w : Cond} (h : w ∈ wd_big) : GoodIn wd_big (w :: wd_big) := fun x hx => by
  rcases List.mem_cons.mp hx with rfl | h1
  · exact ⟨h, wd_good h⟩
  · exact ⟨h1, wd_good h1⟩
theorem g_app {L : List Cond} {w : Cond} (hL : ∀ x ∈ L, x ∈ wd_big) (h : w ∈ wd_big) : GoodIn wd_big (L ++ w :: wd_big) := fun x hx => by
  rcases List.mem_append.mp hx with h1 | h1
  · exact ⟨hL x h1, wd_good (hL x h1)⟩
  · exact g_in h x h1
variable {own : String} {cc bytes : ByteArray} {nL maxL d idx n : Nat} {ret rt0 : Option FieldType} {y : MethodName} {As : List Value}
/-- a static call's words -/
def SW (own : String) (idx : Nat) (y : MethodName) (bytes : ByteArray) (maxL : Nat) (ret : Option FieldType) (n : Nat) : Prop :=
  Cond.methodLink own idx y ∈ wd_big ∧ Cond.static y ∈ wd_big ∧ Cond.initialized y.cls ∈ wd_big ∧ Cond.code y bytes maxL ret ∈ wd_big ∧ (y.cls ≠ "java/lang/invoke/MethodHandle" ∧ y.cls ≠ "java/lang/invoke/VarHandle" ∧ (parseMethodDescriptor y.desc).map (fun d => d.parameters.length) = some n)
theorem g_static (sw : SW own idx y bytes maxL ret n) (X : Cx p m c meth s args own cc nL rt0 D tys) (hC : Ct l D tys y bytes maxL ret d mc ms As ws post)
    (hP : va_P D vwCl ws H) (hD : va_D A0 ws) (hS : va_S A0 H0 H locs) (hA : ∀ q, H0.size ≤ q → A0 q) (hR : d + 1 ≤ R.frames ∧ 8 + (maxL + 11) + 30 * d ≤ R.locals)
    (hn : As.length = n) (hsize : ls.size = nL) (hst : st0 = As.reverse ++ rest) (hW : (rest.map fun v => v.category).sum ≤ 8) (hdg : decode cc pc = .ok (.invokestatic idx, 3)) (hf : cells + mc ≤ R.cells ∧ slots + ms ≤ R.slots)
    (kk : ∀ (v : Option Value) (ws1 : va_W) (H1 : Heap) (locs1 : List Loc), post v ws1 → va_P D vwCl ws1 H1 → va_D A0 ws1 → va_S A0 H0 H1 locs1 → W p l e R s m args below meth c H1 locs1 (cells + mc) (slots + ms) Q (F0 m (pc + 3) ls (v.toList ++ rest))) : W p l e R s m args below meth c H locs cells slots Q (F0 m pc ls st0) := by
  obtain ⟨hx, hb, hr, hml, hown, hts, hK, hlk, hxK⟩ := X
  obtain ⟨w1, w2, w3, w4, hd⟩ := sw
  exact g_call (va_runS (As := As) (rest := rest) (Ts := wd_big) ⟨hx, hb, hml, hown, hts⟩ (hC H.size) ⟨callB_of n hts (g_in w4) rfl rfl rfl (hts _ w3) (hts _ w1) hd hR, hts _ w2⟩ (g_pre hP hD ⟨hK, hxK⟩) rfl hn hsize hst (lv_room hW) hdg hf) hD hS hA kk
/-- a constructor's words -/
def IW (own : String) (idx : Nat) (y : MethodName) (bytes : ByteArray) (maxL n : Nat) : Prop :=
  Cond.methodLink own idx y ∈ wd_big ∧ Cond.instanceMethod y ∈ wd_big ∧ Cond.initialized y.cls ∈ wd_big ∧ Cond.code y bytes maxL none ∈ wd_big ∧ y.name = "<init>" ∧ (y.cls ≠ "java/lang/invoke/MethodHandle" ∧ y.cls ≠ "java/lang/invoke/VarHandle" ∧ (parseMethodDescriptor y.desc).map (fun d => d.parameters.length) = some n)
theorem g_ctor {b : Addr} (sw : IW own idx y bytes maxL n) (X : Cx p m c meth s args own cc nL rt0 D tys) (hC : Ct l D tys y bytes maxL none d mc ms (.ref b :: As) ws post)
    (hP : va_P D vwCl ws H) (hD : va_D A0 ws) (hS : va_S A0 H0 H locs) (hA : ∀ q, H0.size ≤ q → A0 q) (hR : d + 1 ≤ R.frames ∧ 8 + (maxL + 11) + 30 * d ≤ R.locals)
    (hn : As.length = n) (hsize : ls.size = nL) (hst : st0 = As.reverse ++ .ref b :: rest) (hW : (rest.map fun v => v.category).sum ≤ 8) (hdg : decode cc pc = .ok (.invokespecial idx, 3)) (hf : cells + mc ≤ R.cells ∧ slots + ms ≤ R.slots)
    (kk : ∀ (v : Option Value) (ws1 : va_W) (H1 : Heap) (locs1 : List Loc), post v ws1 → va_P D vwCl ws1 H1 → va_D A0 ws1 → va_S A0 H0 H1 locs1 → W p l e R s m args below meth c H1 locs1 (cells + mc) (slots + ms) Q (F0 m (pc + 3) ls (v.toList ++ rest))) : W p l e R s m args below meth c H locs cells slots Q (F0 m pc ls st0) := by
  obtain ⟨hx, hb, hr, hml, hown, hts, hK, hlk, hxK⟩ := X
  obtain ⟨w1, w2, w3, w4, hy1, hd⟩ := sw
  exact g_call (va_runI (As := As) (rest := rest) (Ts := wd_big) ⟨hx, hb, hml, hown, hts⟩ (hC H.size) (cwI n hts (g_in w4) rfl rfl rfl (hts _ w3) (hts _ w1) (hts _ w2) hy1 hd hR) (g_pre hP hD ⟨hK, hxK⟩) rfl hn hsize hst (lv_room hW) hdg hf) hD hS hA kk
/-- a private method's words, on this -/
def PW (own : String) (idx : Nat) (C : String) (y : MethodName) (bytes : ByteArray) (maxL : Nat) (ret : Option FieldType) (n : Nat) : Prop :=
  Cond.methodLink own idx y ∈ wd_big ∧ Cond.instanceMethod y ∈ wd_big ∧ Cond.selects C y y ∈ wd_big ∧ Cond.initialized C ∈ wd_big ∧ Cond.code y bytes maxL ret ∈ wd_big ∧ (y.cls = C ∧ y.cls ≠ "java/lang/invoke/MethodHandle" ∧ y.cls ≠ "java/lang/invoke/VarHandle" ∧ (parseMethodDescriptor y.desc).map (fun d => d.parameters.length) = some n)
theorem g_priv {b : Addr} {C : String} {q0 ci : Nat} {fs : List Value} {cq : vw_C} (sw : PW own idx C y bytes maxL ret n) (X : Cx p m c meth s args own cc nL rt0 D tys) (hC : Ct l D tys y bytes maxL ret d mc ms (.ref b :: As) ws post)
    (hP : va_P D vwCl ws H) (hD : va_D A0 ws) (hS : va_S A0 H0 H locs) (hA : ∀ q, H0.size ≤ q → A0 q) (hrec : ws[q0]? = some (b, .inr (ci, fs))) (hci : vwCl[ci]? = some cq) (hcq : cq.1 = C) (hR : d + 1 ≤ R.frames ∧ 8 + (maxL + 11) + 30 * d ≤ R.locals)
    (hn : As.length = n) (hsize : ls.size = nL) (hst : st0 = As.reverse ++ .ref b :: rest) (hW : (rest.map fun v => v.category).sum ≤ 8) (hdg : decode cc pc = .ok (.invokevirtual idx, 3)) (hf : cells + mc ≤ R.cells ∧ slots + ms ≤ R.slots)
    (kk : ∀ (v : Option Value) (ws1 : va_W) (H1 : Heap) (locs1 : List Loc), post v ws1 → va_P D vwCl ws1 H1 → va_D A0 ws1 → va_S A0 H0 H1 locs1 → W p l e R s m args below meth c H1 locs1 (cells + mc) (slots + ms) Q (F0 m (pc + 3) ls (v.toList ++ rest))) : W p l e R s m args below meth c H locs cells slots Q (F0 m pc ls st0) := by
  obtain ⟨hx, hb, hr, hml, hown, hts, hK, hlk, hxK⟩ := X
  obtain ⟨w1, w2, w3, w4, w5, hd⟩ := sw
  subst hcq
  have hpre := g_pre (av := .ref b :: As) hP hD ⟨hK, hxK⟩
  exact g_call (va_runV (As := As) (rest := rest) (Ts := wd_big) ⟨hx, hb, hml, hown, hts⟩ (hC H.size) (cwV n hts (g_app (L := [_, _, _, _]) (List.forall_mem_cons.mpr ⟨w1, List.forall_mem_cons.mpr ⟨w2, List.forall_mem_cons.mpr ⟨w3, List.forall_mem_cons.mpr ⟨w4, fun _ h => absurd h List.not_mem_nil⟩⟩⟩⟩) w5) rfl rfl rfl hd hR) ⟨hpre.1, va_recv hK hP hci hrec, hpre.2⟩ rfl hn hsize hst (lv_room hW) hdg hf) hD hS hA kk
/-- a virtual call's words: named x (declared by owner), on an object of the class C it is y -/
def VW (own : String) (idx : Nat) (x : MethodName) (owner C : String) (y : MethodName) (bytes : ByteArray) (maxL : Nat) (ret : Option FieldType) (n : Nat) : Prop :=
  Cond.methodLink own idx x ∈ wd_big ∧ Cond.sameMethod x.cls owner x.name x.desc ∈ wd_big ∧ Cond.instanceMethod ⟨owner, x.name, x.desc⟩ ∈ wd_big ∧ Cond.selects C x y ∈ wd_big ∧ Cond.instanceMethod y ∈ wd_big ∧ Cond.initialized y.cls ∈ wd_big ∧ Cond.code y bytes maxL ret ∈ wd_big ∧ (∃ b0 m0 r0, Cond.code ⟨owner, x.name, x.desc⟩ b0 m0 r0 ∈ wd_big) ∧
  (owner ≠ "java/lang/invoke/MethodHandle" ∧ owner ≠ "java/lang/invoke/VarHandle" ∧ (parseMethodDescriptor x.desc).map (fun d => d.parameters.length) = some n)
theorem g_virt {b : Addr} {x : MethodName} {owner C : String} {q0 ci : Nat} {fs : List Value} {cq : vw_C} (sw : VW own idx x owner C y bytes maxL ret n) (X : Cx p m c meth s args own cc nL rt0 D tys) (hC : Ct l D tys y bytes maxL ret d mc ms (.ref b :: As) ws post)
    (hP : va_P D vwCl ws H) (hD : va_D A0 ws) (hS : va_S A0 H0 H locs) (hA : ∀ q, H0.size ≤ q → A0 q) (hrec : ws[q0]? = some (b, .inr (ci, fs))) (hci : vwCl[ci]? = some cq) (hcq : cq.1 = C) (hR : d + 1 ≤ R.frames ∧ 8 + (maxL + 11) + 30 * d ≤ R.locals)
    (hn : As.length = n) (hsize : ls.size = nL) (hst : st0 = As.reverse ++ .ref b :: rest) (hW : (rest.map fun v => v.category).sum ≤ 8) (hdg : decode cc pc = .ok (.invokevirtual idx, 3)) (hf : cells + mc ≤ R.cells ∧ slots + ms ≤ R.slots)
    (kk : ∀ (v : Option Value) (ws1 : va_W) (H1 : Heap) (locs1 : List Loc), post v ws1 → va_P D vwCl ws1 H1 → va_D A0 ws1 → va_S A0 H0 H1 locs1 → W p l e R s m args below meth c H1 locs1 (cells + mc) (slots + ms) Q (F0 m (pc + 3) ls (v.toList ++ rest))) : W p l e R s m args below meth c H locs cells slots Q (F0 m pc ls st0) := by
  obtain ⟨hx, hb, hr, hml, hown, hts, hK, hlk, hxK⟩ := X
  obtain ⟨w1, w2, w3, w4, w5, w6, w7, ⟨b0, m0, r0, w8⟩, hd⟩ := sw
  subst hcq
  have hpre := g_pre (av := .ref b :: As) hP hD ⟨hK, hxK⟩
  exact g_call (va_runU (As := As) (rest := rest) (Ts := wd_big) ⟨hx, hb, hml, hown, hts⟩ (hC H.size) (va_cwO n hts (g_app (L := [_, _, _, _, _, _]) (List.forall_mem_cons.mpr ⟨w1, List.forall_mem_cons.mpr ⟨w2, List.forall_mem_cons.mpr ⟨w3, List.forall_mem_cons.mpr ⟨w4, List.forall_mem_cons.mpr ⟨w5, List.forall_mem_cons.mpr ⟨w6, fun _ h => absurd h List.not_mem_nil⟩⟩⟩⟩⟩⟩) w7) rfl rfl rfl w8 hd hR) ⟨hpre.1, va_recv hK hP hci hrec, hpre.2⟩ rfl hn hsize hst (lv_room hW) hdg hf) hD hS hA kk
/-- super.m(..), where x is the name, declared by owner, y the method -/
def UW (own : String) (idx : Nat) (x : MethodName) (owner : String) (y : MethodName) (bytes : ByteArray) (maxL : Nat) (ret : Option FieldType) (n : Nat) : Prop :=
  Cond.methodLink own idx x ∈ wd_big ∧ Cond.sameMethod x.cls owner x.name x.desc ∈ wd_big ∧ Cond.superclass own x.cls ∈ wd_big ∧ Cond.instanceMethod y ∈ wd_big ∧ Cond.initialized y.cls ∈ wd_big ∧ Cond.code y bytes maxL ret ∈ wd_big ∧ y = ⟨owner, x.name, x.desc⟩ ∧ (∃ f, f ≤ 4 ∧ SubF f x.cls owner) ∧ x.name ≠ "<init>" ∧ (parseMethodDescriptor x.desc).map (fun d => d.parameters.length) = some n
theorem g_super {b : Addr} {x : MethodName} {owner : String} {q0 ci : Nat} {fs : List Value} {cq : vw_C} (sw : UW own idx x owner y bytes maxL ret n) (X : Cx p m c meth s args own cc nL rt0 D tys) (hC : Ct l D tys y bytes maxL ret d mc ms (.ref b :: As) ws post)
    (hP : va_P D vwCl ws H) (hD : va_D A0 ws) (hS : va_S A0 H0 H locs) (hA : ∀ q, H0.size ≤ q → A0 q) (hrec : ws[q0]? = some (b, .inr (ci, fs))) (hci : vwCl[ci]? = some cq) (hR : d + 1 ≤ R.frames ∧ 8 + (maxL + 11) + 30 * d ≤ R.locals)
    (hn : As.length = n) (hsize : ls.size = nL) (hst : st0 = As.reverse ++ .ref b :: rest) (hW : (rest.map fun v => v.category).sum ≤ 8) (hdg : decode cc pc = .ok (.invokespecial idx, 3)) (hf : cells + mc ≤ R.cells ∧ slots + ms ≤ R.slots)
    (kk : ∀ (v : Option Value) (ws1 : va_W) (H1 : Heap) (locs1 : List Loc), post v ws1 → va_P D vwCl ws1 H1 → va_D A0 ws1 → va_S A0 H0 H1 locs1 → W p l e R s m args below meth c H1 locs1 (cells + mc) (slots + ms) Q (F0 m (pc + 3) ls (v.toList ++ rest))) : W p l e R s m args below meth c H locs cells slots Q (F0 m pc ls st0) := by
  obtain ⟨hx, hb, hr, hml, hown, hts, hK, hlk, hxK⟩ := X
  obtain ⟨w1, w2, w3, w4, w5, w6, hy, ⟨f, hf4, hsubF⟩, hno, hpd⟩ := sw
  have hpre := g_pre (av := .ref b :: As) hP hD ⟨hK, hxK⟩
  have hcb : Cond.code y bytes maxL ret ∈ Cond.code y bytes maxL ret :: wd_big := List.mem_cons_self
  have hB : Back l R p e below s args y 3 8 (PreOf R mc ms (va_Pc (.ref b :: As) (fun U => U.heap.size = H.size ∧ wd_w D tys (fun _ => True) ws U))) (PostOf (q_g post (wd_w D tys (va_A ws H.size)) (va_A ws H.size)) mc ms (va_A ws H.size)) := back_of (bytes := bytes) (maxL := maxL) (ret := ret) (hC H.size) hpre.1 rfl rfl hR.1 hR.2 (pay_in hts (g_in w6)) hcb (fun a' U hW => word_at hW (Or.inl (by first | rfl | simp [Cond.onTables, Cond.keeps, Cond.steady])) (hts _ w5))
  obtain ⟨cellB, hcB, hoB, hclB⟩ := va_recv hK hP hci hrec
  obtain ⟨kB, hkB, -⟩ := Vm.findClass_spec hclB
  obtain ⟨mk, methM, hnamed, hmethM, hstM, habM⟩ := Cond.instanceMethod_spec (hts _ w4)
  obtain ⟨methM', cM, hmethM', -, -, -, -, -, -, hsigM⟩ := Cond.code_spec hnamed (hts _ w6)
  cases hmethM.symm.trans hmethM'
  obtain ⟨ps, dk, kp, hps, hdk, hkp, hsuper, -, -, hnid⟩ := Cond.superclass_spec hown (hts _ w3)
  have hn2 : s.methodNamed? ⟨owner, x.name, x.desc⟩ = some mk := by rw [← hy]; exact hnamed
  have hmc : s.vm.findClass owner = some mk.cls := by have := findClass_of_methodNamed hn2; exact this
  obtain ⟨cH, hH, -⟩ : ∃ cH : ClassId, s.vm.findClass "VoucherOffice$House" = some cH ∧ True := by
    have h3 := (hK.1 3 _ rfl).2
    exact ⟨_, h3.1, trivial⟩
  have h3 := sub_size hts hH
  have hsub : s.vm.isSubclass ps mk.cls = true := by
    have h5 := hsubF args s hts ps mk.cls hps hmc (s.vm.classes.size + 1 - f)
    rw [Nat.sub_add_cancel (by omega)] at h5
    exact h5
  have hlen : ∀ sig, parseMethodDescriptor y.desc = some sig → As.length = sig.parameters.length := by
    intro sig hs
    rw [hy] at hs
    rw [show parseMethodDescriptor x.desc = some sig from hs] at hpd
    exact hn.trans (Option.some.inj hpd).symm
  refine g_call (tys := tys) (a := (Value.ref b :: As).toArray) ?_ hD hS hA kk
  intro T hT X
  obtain ⟨vm₁, X₁, hstep₁⟩ := X.invokespecialUp hx hown (hts _ w1) (hts _ w2) hn2 hmethM hstM habM hno hdk hnid hps hsuper hsub (a := b) (cell := cellB) (by rw [hT]; exact hcB)
    (fun z h => by rw [h] at hoB; cases hoB) hkB (g := F0 m pc ls st0) rfl (argsL := As) (rest := rest) (hlen _ hsigM) hst (by rw [hb]; exact hdg)
  obtain ⟨v, ⟨U', l2, c2, s2⟩, X', ⟨g', mk', t, L, e1, e2, hq, h1, hL, h2, h3'⟩, hsteps⟩ := hB m meth c ⟨T.setVm vm₁, locs, cells, slots⟩ { (F0 m pc ls st0) with stack := rest } (.invokespecial idx) mk (Value.ref b :: As).toArray X₁ rfl (hsize.trans hml.symm) (by rw [hb]; exact hdg) (lv_room hW) (X₁.named hnamed) ⟨hf.1, hf.2, hpre.2 (T.setVm vm₁) hT X₁.warmed⟩
  dsimp only [Pt.U, Pt.locs, Pt.cells, Pt.slots] at X' e1 e2 h1 h2 h3' hsteps
  subst h1; subst h2; subst h3'
  exact ⟨v, (T.setVm vm₁).calling g' mk' (Value.ref b :: As).toArray, t, U', L, hT, X', hL, e1, e2, hq, fun target h => hstep₁ _ (by rw [doInvoke_state]; exact hsteps.trans h)⟩
end GC
