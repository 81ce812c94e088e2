abbrev rm_d (d mc ms : Nat) : Room := { frames := d, cells := mc, slots := ms, locals := 30 * d }
def q_g (post : Option Value → va_W → Prop) (B : va_W → State → Prop) (A : Nat → Prop) : Array Value → State → Outcome → State → Prop := fun _ st oc t => (∃ (v : Option Value) (u : va_W), oc = .returned v ∧ post v u ∧ B u t) ∧ va_F A st t
abbrev wd_w (D : va_G) (tys : List (ClassId × FieldType)) (A : Nat → Prop) (ws : va_W) (t : State) : Prop := va_P D vwCl ws t.heap ∧ va_K D vwCl tys t ∧ va_D A ws
/-- a method's contract: from the world ws, with the arguments av, it comes back with v in the world ws', and 'post v ws'' -/
def Ct (l : Launch) (D : va_G) (tys : List (ClassId × FieldType)) (y : MethodName) (cc : ByteArray) (nL : Nat) (ret : Option FieldType) (d mc ms : Nat) (av : List Value) (ws : va_W) (post : Option Value → va_W → Prop) : Prop :=
  ∀ sz : Nat, Met l y (.code y cc nL ret :: wd_big) (rm_d d mc ms) (va_Pc av (fun U => U.heap.size = sz ∧ wd_w D tys (fun _ => True) ws U)) (q_g post (wd_w D tys (va_A ws sz)) (va_A ws sz)) mc ms (va_A ws sz)
/-- what stands fast within a method -/
def Cx (p : Program) (m : MethodId) (c : Code) (meth : Method) (s : State) (args : Array Value) (own : String) (cc : ByteArray) (nL : Nat) (ret : Option FieldType) (D : va_G) (tys : List (ClassId × FieldType)) : Prop :=
  p.tables.exec = Jvm.exec ∧ c.code = cc ∧ meth.sig.returnType = ret ∧ c.maxLocals = nL ∧ s.vm.findClass own = some m.cls ∧ (∀ w ∈ wd_big, w.before args s = true) ∧ va_K D vwCl tys s ∧ meth.locks = false
theorem ct_intro {l : Launch} {D : va_G} {tys : List (ClassId × FieldType)} {y : MethodName} {cc : ByteArray} {nL : Nat} {ret : Option FieldType} {d mc ms : Nat} {av : List Value} {ws : va_W} {post : Option Value → va_W → Prop}
    (hy : plainName y.cls = true) (hav : (lg_sl av).length ≤ nL)
    (body : ∀ (p : Program) (e : Env) (s : State) (m : MethodId) (below : List Frame) (meth : Method) (c : Code) (A : Nat → Prop) (ls : Array Slot),
      Cx p m c meth s av.toArray y.cls cc nL ret D tys → meth.name = y.name → va_P D vwCl ws s.heap → va_D A ws → va_S A s.heap s.heap [] → (∀ q, s.heap.size ≤ q → A q) → lv_has ls nL (lv_args 0 av) →
      W p l e (rm_d d mc ms) s m av.toArray below meth c s.heap [] 0 0 (MQ below (q_g post (wd_w D tys A) A) av.toArray s mc ms A) (F0 m 0 ls [])) : Ct l D tys y cc nL ret d mc ms av ws post := by
  intro sz
  refine Met.ofW (cc := cc) (maxL := nL) (ret := ret) hy rfl ?_
  intro p e s m args below meth c s₁ B hml hv
  obtain ⟨rfl, hsz, hP, hK, hD0⟩ := hv
  have hx := B.exec
  have hb := B.bytes
  have hr := B.returns
  have hts := atoms_spec (ws := .code y cc nL ret :: wd_big) B.pre
  have hown : s.vm.findClass y.cls = some m.cls := findClass_of_methodNamed B.named
  have hlocks := B.notSynchronized
  have hin : meth.name = y.name := (name_of_methodNamed B.named B.method).1
  subst hsz
  have hD := hD0.self (sz := s.heap.size)
  have hl := lv_entry av (n := nL) hav
  rw [lg_entry_eq]
  exact body p e s m below meth c _ _ ⟨hx, hb, hr, hml, hown, fun w h => hts w (List.mem_cons_of_mem _ h), hK, hlocks⟩ hin hP hD va_S.rf (fun q h => Or.inr h) hl
section EN
variable {p : Program} {l : Launch} {e : Env} {R : Room} {s : State} {m : MethodId} {args : Array Value} {below : List Frame} {meth : Method} {c : Code} {H : Heap} {locs : List Loc} {mc ms : Nat} {own : String} {cc : ByteArray} {nL : Nat} {D : va_G} {tys : List (ClassId × FieldType)} {A : Nat → Prop} {ws1 : va_W} {post : Option Value → va_W → Prop} {pc : Nat} {ls : Array Slot}
theorem e_int (X : Cx p m c meth s args own cc nL (some .int) D tys) (hP : va_P D vwCl ws1 H) (hD : va_D A ws1) (hS : va_S A s.heap H locs) (hdg : decode cc pc = .ok (.ireturn, 1)) {v : Int32} (hpost : post (some (.int v)) ws1) : W p l e R s m args below meth c H locs mc ms (MQ below (q_g post (wd_w D tys A) A) args s mc ms A) (F0 m pc ls [.int v]) := by
  obtain ⟨hx, hb, hr, hml, hown, hts, hK, hlk⟩ := X
  exact W.iret hx hb hr (fun t ht hW => ⟨⟨_, ws1, rfl, hpost, by rw [ht]; exact hP, va_K.moved hW.alike hK, hD⟩, hS.F ht⟩) hS.2.2 hdg hlk
theorem e_bool (X : Cx p m c meth s args own cc nL (some .boolean) D tys) (hP : va_P D vwCl ws1 H) (hD : va_D A ws1) (hS : va_S A s.heap H locs) (hdg : decode cc pc = .ok (.ireturn, 1)) {v : Int32} (hv : v = 0 ∨ v = 1) (hpost : post (some (.int v)) ws1) : W p l e R s m args below meth c H locs mc ms (MQ below (q_g post (wd_w D tys A) A) args s mc ms A) (F0 m pc ls [.int v]) := by
  obtain ⟨hx, hb, hr, hml, hown, hts, hK, hlk⟩ := X
  exact W.zret hx hb hr (by rcases hv with rfl | rfl <;> decide) (fun t ht hW => ⟨⟨_, ws1, rfl, hpost, by rw [ht]; exact hP, va_K.moved hW.alike hK, hD⟩, hS.F ht⟩) hS.2.2 hdg hlk
theorem e_void (X : Cx p m c meth s args own cc nL none D tys) (hP : va_P D vwCl ws1 H) (hD : va_D A ws1) (hS : va_S A s.heap H locs) (hdg : decode cc pc = .ok (.return_, 1)) (hpost : post none ws1) : W p l e R s m args below meth c H locs mc ms (MQ below (q_g post (wd_w D tys A) A) args s mc ms A) (F0 m pc ls []) := by
  obtain ⟨hx, hb, hr, hml, hown, hts, hK, hlk⟩ := X
  exact W.vret hx hb hr (fun t ht hW => ⟨⟨_, ws1, rfl, hpost, by rw [ht]; exact hP, va_K.moved hW.alike hK, hD⟩, hS.F ht⟩) hS.2.2 hdg hlk
theorem e_ref {C : String} (X : Cx p m c meth s args own cc nL (some (.object C)) D tys) (hP : va_P D vwCl ws1 H) (hD : va_D A ws1) (hS : va_S A s.heap H locs) (hdg : decode cc pc = .ok (.areturn, 1)) {v : Value} (hv : v = .null ∨ ∃ a, v = .ref a) (hpost : post (some v) ws1) : W p l e R s m args below meth c H locs mc ms (MQ below (q_g post (wd_w D tys A) A) args s mc ms A) (F0 m pc ls [v]) := by
  obtain ⟨hx, hb, hr, hml, hown, hts, hK, hlk⟩ := X
  exact W.aret hx hb hr (Or.inl ⟨_, rfl⟩) hv (fun t ht hW => ⟨⟨_, ws1, rfl, hpost, by rw [ht]; exact hP, va_K.moved hW.alike hK, hD⟩, hS.F ht⟩) hS.2.2 hdg hlk
end EN
section GC
variable {p : Program} {l : Launch} {e : Env} {R : Room} {s : State} {m : MethodId} {args : Array Value} {below : List Frame} {meth : Method} {c : Code} {H : Heap} {locs : List Loc} {cells slots : Nat} {Q : State → Prop}
variable {pc : Nat} {ls : Array Slot} {rest st0 : List Value} {a : Array Value} {A0 : Nat → Prop} {H0 : Heap} {mc ms : Nat} {D : va_G} {tys : List (ClassId × FieldType)} {ws : va_W} {post : Option Value → va_W → Prop}
theorem g_call (hr : va_Run p l e R s m args below meth c H locs cells slots mc ms (F0 m pc ls st0) rest (q_g post (wd_w D tys (va_A ws H.size)) (va_A ws H.size) a) (va_A ws H.size)) (hD : va_D A0 ws) (hS : va_S A0 H0 H locs) (hA : ∀ q, H0.size ≤ q → A0 q)
    (kk : ∀ (v : Option Value) (ws1 : va_W) (H1 : Heap) (locs1 : List Loc), post v ws1 → va_P D vwCl ws1 H1 → va_D A0 ws1 → va_S A0 H0 H1 locs1 → W p l e R s m args below meth c H1 locs1 (cells + mc) (slots + ms) Q (F0 m (pc + 3) ls (v.toList ++ rest))) : W p l e R s m args below meth c H locs cells slots Q (F0 m pc ls st0) := by
  have hF : ∀ q, va_A ws H.size q → A0 q := by
    intro q hq
    rcases hq with ⟨k, e, h⟩ | h
    · exact hD.2 k _ h
    · exact hA q (Nat.le_trans hS.1 h)
  intro T hT X
  obtain ⟨v, st₀, t, T', L, h0, X', hL, e1, e2, ⟨⟨v', u, hv, hp, hP1, hK1, hD1⟩, hz, hk⟩, st⟩ := hr T hT X
  cases hv
  rw [h0] at hz hk
  obtain ⟨t2, a1, b1⟩ := kk v u T'.heap (locs ++ L) hp (by rw [e1]; exact hP1) (hD1.weaken (fun _ q _ h => hF q.1 h))
    ⟨Nat.le_trans hS.1 (by rw [e1]; exact hz), fun q h1 h2 => by rw [e1, hk q (Nat.lt_of_lt_of_le h1 hS.1) (fun z => h2 (hF q z))]; exact hS.2.1 q h1 h2, fun q hq => by
      rcases List.mem_append.mp hq with h | h
      · exact hS.2.2 q h
      · exact hF _ (hL q h)⟩ T' rfl X'
  exact ⟨t2, st t2 a1, b1⟩
theorem g_pre {av : List Value} (hP : va_P D vwCl ws H) (hD : va_D A0 ws) (hK : va_K D vwCl tys s) : PreS s H (va_Pc av (fun U => U.heap.size = H.size ∧ wd_w D tys (fun _ => True) ws U)) av :=
  ⟨fun a U g mk q => by obtain ⟨q0, q1, qP, qK, qD⟩ := q; exact ⟨q0, q1, qP, va_K.moved (u := U) (U := U.calling g mk a) (Vm.Alike.refl U.vm) qK, qD⟩, fun U hU hW => ⟨rfl, by rw [hU], by rw [hU]; exact hP, va_K.moved hW.alike hK, hD.weaken (fun _ _ _ _ => trivial)⟩⟩
theorem g_in {w : Cond} (h : w ∈ wd_big) : GoodIn wd_big (w :: wd_big) := fun x hx => by
  rcases List.mem_cons.mp hx with rfl | h1
  · exact ⟨h, wd_good h⟩
  · exact ⟨h1, wd_good h1⟩
theorem g_app {L : List Cond} {w : Cond} (hL : ∀ x ∈ L, x ∈ wd_big) (h : w ∈ wd_big) : GoodIn wd_big (L ++ w :: wd_big) := fun x hx => by
  rcases List.mem_append.mp hx with h1 | h1
  · exact ⟨hL x h1, wd_good (hL x h1)⟩
  · exact g_in h x h1
variable {own : String} {cc bytes : ByteArray} {nL maxL d idx n : Nat} {ret rt0 : Option FieldType} {y : MethodName} {As : List Value}
/-- a static call's words -/
def SW (own : String) (idx : Nat) (y : MethodName) (bytes : ByteArray) (maxL : Nat) (ret : Option FieldType) (n : Nat) : Prop :=
  Cond.methodLink own idx y ∈ wd_big ∧ Cond.static y ∈ wd_big ∧ Cond.initialized y.cls ∈ wd_big ∧ Cond.code y bytes maxL ret ∈ wd_big ∧ (y.cls ≠ "java/lang/invoke/MethodHandle" ∧ y.cls ≠ "java/lang/invoke/VarHandle" ∧ (parseMethodDescriptor y.desc).map (fun d => d.parameters.length) = some n)
theorem g_static (sw : SW own idx y bytes maxL ret n) (X : Cx p m c meth s args own cc nL rt0 D tys) (hC : Ct l D tys y bytes maxL ret d mc ms As ws post)
    (hP : va_P D vwCl ws H) (hD : va_D A0 ws) (hS : va_S A0 H0 H locs) (hA : ∀ q, H0.size ≤ q → A0 q) (hR : d + 1 ≤ R.frames ∧ 8 + (maxL + 11) + 30 * d ≤ R.locals)
    (hn : As.length = n) (hsize : ls.size = nL) (hst : st0 = As.reverse ++ rest) (hW : (rest.map fun v => v.category).sum ≤ 8) (hdg : decode cc pc = .ok (.invokestatic idx, 3)) (hf : cells + mc ≤ R.cells ∧ slots + ms ≤ R.slots)
    (kk : ∀ (v : Option Value) (ws1 : va_W) (H1 : Heap) (locs1 : List Loc), post v ws1 → va_P D vwCl ws1 H1 → va_D A0 ws1 → va_S A0 H0 H1 locs1 → W p l e R s m args below meth c H1 locs1 (cells + mc) (slots + ms) Q (F0 m (pc + 3) ls (v.toList ++ rest))) : W p l e R s m args below meth c H locs cells slots Q (F0 m pc ls st0) := by
  obtain ⟨hx, hb, hr, hml, hown, hts, hK, hlk⟩ := X
  obtain ⟨w1, w2, w3, w4, hd⟩ := sw
  exact g_call (va_runS (As := As) (rest := rest) (Ts := wd_big) ⟨hx, hb, hml, hown, hts⟩ (hC H.size) ⟨callB_of n hts (g_in w4) rfl rfl rfl (hts _ w3) (hts _ w1) hd hR, hts _ w2⟩ (g_pre hP hD hK) rfl hn hsize hst (lv_room hW) hdg hf) hD hS hA kk
/-- a constructor's words -/
def IW (own : String) (idx : Nat) (y : MethodName) (bytes : ByteArray) (maxL n : Nat) : Prop :=
  Cond.methodLink own idx y ∈ wd_big ∧ Cond.instanceMethod y ∈ wd_big ∧ Cond.initialized y.cls ∈ wd_big ∧ Cond.code y bytes maxL none ∈ wd_big ∧ y.name = "<init>" ∧ (y.cls ≠ "java/lang/invoke/MethodHandle" ∧ y.cls ≠ "java/lang/invoke/VarHandle" ∧ (parseMethodDescriptor y.desc).map (fun d => d.parameters.length) = some n)
theorem g_ctor {b : Addr} (sw : IW own idx y bytes maxL n) (X : Cx p m c meth s args own cc nL rt0 D tys) (hC : Ct l D tys y bytes maxL none d mc ms (.ref b :: As) ws post)
    (hP : va_P D vwCl ws H) (hD : va_D A0 ws) (hS : va_S A0 H0 H locs) (hA : ∀ q, H0.size ≤ q → A0 q) (hR : d + 1 ≤ R.frames ∧ 8 + (maxL + 11) + 30 * d ≤ R.locals)
    (hn : As.length = n) (hsize : ls.size = nL) (hst : st0 = As.reverse ++ .ref b :: rest) (hW : (rest.map fun v => v.category).sum ≤ 8) (hdg : decode cc pc = .ok (.invokespecial idx, 3)) (hf : cells + mc ≤ R.cells ∧ slots + ms ≤ R.slots)
    (kk : ∀ (v : Option Value) (ws1 : va_W) (H1 : Heap) (locs1 : List Loc), post v ws1 → va_P D vwCl ws1 H1 → va_D A0 ws1 → va_S A0 H0 H1 locs1 → W p l e R s m args below meth c H1 locs1 (cells + mc) (slots + ms) Q (F0 m (pc + 3) ls (v.toList ++ rest))) : W p l e R s m args below meth c H locs cells slots Q (F0 m pc ls st0) := by
  obtain ⟨hx, hb, hr, hml, hown, hts, hK, hlk⟩ := X
  obtain ⟨w1, w2, w3, w4, hy1, hd⟩ := sw
  exact g_call (va_runI (As := As) (rest := rest) (Ts := wd_big) ⟨hx, hb, hml, hown, hts⟩ (hC H.size) (cwI n hts (g_in w4) rfl rfl rfl (hts _ w3) (hts _ w1) (hts _ w2) hy1 hd hR) (g_pre hP hD hK) rfl hn hsize hst (lv_room hW) hdg hf) hD hS hA kk
/-- a private method's words, on this -/
def PW (own : String) (idx : Nat) (C : String) (y : MethodName) (bytes : ByteArray) (maxL : Nat) (ret : Option FieldType) (n : Nat) : Prop :=
  Cond.methodLink own idx y ∈ wd_big ∧ Cond.instanceMethod y ∈ wd_big ∧ Cond.selects C y y ∈ wd_big ∧ Cond.initialized C ∈ wd_big ∧ Cond.code y bytes maxL ret ∈ wd_big ∧ (y.cls = C ∧ y.cls ≠ "java/lang/invoke/MethodHandle" ∧ y.cls ≠ "java/lang/invoke/VarHandle" ∧ (parseMethodDescriptor y.desc).map (fun d => d.parameters.length) = some n)
theorem g_priv {b : Addr} {C : String} {q0 ci : Nat} {fs : List Value} {cq : vw_C} (sw : PW own idx C y bytes maxL ret n) (X : Cx p m c meth s args own cc nL rt0 D tys) (hC : Ct l D tys y bytes maxL ret d mc ms (.ref b :: As) ws post)
    (hP : va_P D vwCl ws H) (hD : va_D A0 ws) (hS : va_S A0 H0 H locs) (hA : ∀ q, H0.size ≤ q → A0 q) (hrec : ws[q0]? = some (b, .inr (ci, fs))) (hci : vwCl[ci]? = some cq) (hcq : cq.1 = C) (hR : d + 1 ≤ R.frames ∧ 8 + (maxL + 11) + 30 * d ≤ R.locals)
    (hn : As.length = n) (hsize : ls.size = nL) (hst : st0 = As.reverse ++ .ref b :: rest) (hW : (rest.map fun v => v.category).sum ≤ 8) (hdg : decode cc pc = .ok (.invokevirtual idx, 3)) (hf : cells + mc ≤ R.cells ∧ slots + ms ≤ R.slots)
    (kk : ∀ (v : Option Value) (ws1 : va_W) (H1 : Heap) (locs1 : List Loc), post v ws1 → va_P D vwCl ws1 H1 → va_D A0 ws1 → va_S A0 H0 H1 locs1 → W p l e R s m args below meth c H1 locs1 (cells + mc) (slots + ms) Q (F0 m (pc + 3) ls (v.toList ++ rest))) : W p l e R s m args below meth c H locs cells slots Q (F0 m pc ls st0) := by
  obtain ⟨hx, hb, hr, hml, hown, hts, hK, hlk⟩ := X
  obtain ⟨w1, w2, w3, w4, w5, hd⟩ := sw
  subst hcq
  have hpre := g_pre (av := .ref b :: As) hP hD hK
  exact g_call (va_runV (As := As) (rest := rest) (Ts := wd_big) ⟨hx, hb, hml, hown, hts⟩ (hC H.size) (cwV n hts (g_app (L := [_, _, _, _]) (List.forall_mem_cons.mpr ⟨w1, List.forall_mem_cons.mpr ⟨w2, List.forall_mem_cons.mpr ⟨w3, List.forall_mem_cons.mpr ⟨w4, fun _ h => absurd h List.not_mem_nil⟩⟩⟩⟩) w5) rfl rfl rfl hd hR) ⟨hpre.1, va_recv hK hP hci hrec, hpre.2⟩ rfl hn hsize hst (lv_room hW) hdg hf) hD hS hA kk
/-- a virtual call's words: named x (declared by owner), on an object of the class C it is y -/
def VW (own : String) (idx : Nat) (x : MethodName) (owner C : String) (y : MethodName) (bytes : ByteArray) (maxL : Nat) (ret : Option FieldType) (n : Nat) : Prop :=
  Cond.methodLink own idx x ∈ wd_big ∧ Cond.sameMethod x.cls owner x.name x.desc ∈ wd_big ∧ Cond.instanceMethod ⟨owner, x.name, x.desc⟩ ∈ wd_big ∧ Cond.selects C x y ∈ wd_big ∧ Cond.instanceMethod y ∈ wd_big ∧ Cond.initialized y.cls ∈ wd_big ∧ Cond.code y bytes maxL ret ∈ wd_big ∧ (∃ b0 m0 r0, Cond.code ⟨owner, x.name, x.desc⟩ b0 m0 r0 ∈ wd_big) ∧
  (owner ≠ "java/lang/invoke/MethodHandle" ∧ owner ≠ "java/lang/invoke/VarHandle" ∧ (parseMethodDescriptor x.desc).map (fun d => d.parameters.length) = some n)
theorem g_virt {b : Addr} {x : MethodName} {owner C : String} {q0 ci : Nat} {fs : List Value} {cq : vw_C} (sw : VW own idx x owner C y bytes maxL ret n) (X : Cx p m c meth s args own cc nL rt0 D tys) (hC : Ct l D tys y bytes maxL ret d mc ms (.ref b :: As) ws post)
    (hP : va_P D vwCl ws H) (hD : va_D A0 ws) (hS : va_S A0 H0 H locs) (hA : ∀ q, H0.size ≤ q → A0 q) (hrec : ws[q0]? = some (b, .inr (ci, fs))) (hci : vwCl[ci]? = some cq) (hcq : cq.1 = C) (hR : d + 1 ≤ R.frames ∧ 8 + (maxL + 11) + 30 * d ≤ R.locals)
    (hn : As.length = n) (hsize : ls.size = nL) (hst : st0 = As.reverse ++ .ref b :: rest) (hW : (rest.map fun v => v.category).sum ≤ 8) (hdg : decode cc pc = .ok (.invokevirtual idx, 3)) (hf : cells + mc ≤ R.cells ∧ slots + ms ≤ R.slots)
    (kk : ∀ (v : Option Value) (ws1 : va_W) (H1 : Heap) (locs1 : List Loc), post v ws1 → va_P D vwCl ws1 H1 → va_D A0 ws1 → va_S A0 H0 H1 locs1 → W p l e R s m args below meth c H1 locs1 (cells + mc) (slots + ms) Q (F0 m (pc + 3) ls (v.toList ++ rest))) : W p l e R s m args below meth c H locs cells slots Q (F0 m pc ls st0) := by
  obtain ⟨hx, hb, hr, hml, hown, hts, hK, hlk⟩ := X
  obtain ⟨w1, w2, w3, w4, w5, w6, w7, ⟨b0, m0, r0, w8⟩, hd⟩ := sw
  subst hcq
  have hpre := g_pre (av := .ref b :: As) hP hD hK
  exact g_call (va_runU (As := As) (rest := rest) (Ts := wd_big) ⟨hx, hb, hml, hown, hts⟩ (hC H.size) (va_cwO n hts (g_app (L := [_, _, _, _, _, _]) (List.forall_mem_cons.mpr ⟨w1, List.forall_mem_cons.mpr ⟨w2, List.forall_mem_cons.mpr ⟨w3, List.forall_mem_cons.mpr ⟨w4, List.forall_mem_cons.mpr ⟨w5, List.forall_mem_cons.mpr ⟨w6, fun _ h => absurd h List.not_mem_nil⟩⟩⟩⟩⟩⟩) w7) rfl rfl rfl w8 hd hR) ⟨hpre.1, va_recv hK hP hci hrec, hpre.2⟩ rfl hn hsize hst (lv_room hW) hdg hf) hD hS hA kk
end GC
