/-! THE CLAIM OUT OF ONE WALK OF THE LAW'S BODY. Your part is whole_start (and what it stands on); all else here is the same for every law, but numbers. -/
def R_law : String := "VoucherOfficeLaw"
def lw_P (b : Addr) (xs : List Int32) (args : Array Value) (s : State) : Prop := args = #[.ref b] ∧ s.IntsAt b xs ∧ xs.length ≤ 1536 ∧ (Jvm.Cond.and given_1 narrow_1).before args s = true
def lw_Q (_ : Array Value) (s : State) (o : Outcome) (t : State) : Prop := o = .returned (some (.int 1)) ∧ Framed s o t [] 667234 7100547
def lw_Z (below : List Frame) (a : Array Value) (s : State) : State → Prop := fun t => ∃ o, t.status = .running ∧ Ended t below o ∧ lw_Q a s o t
/-- the law's own end, with 1 on the stack, nothing written that was there before, its room as the claim has it -/
theorem lw_ret {p : Program} {l : Launch} {e : Env} {s : State} {m : MethodId} {below : List Frame} {meth : Method} {c : Code} {b : Nat} (hx : p.tables.exec = Jvm.exec) (hb : c.code = code) (hr : meth.sig.returnType = ret) (hlocks : meth.locks = false) {pc : Nat} {H : Heap} {ls : Array Slot} (hdg : decode code pc = .ok (.ireturn, 1)) : W p l e room_1 s m #[Value.ref b] below meth c H [] 667234 7100547 (lw_Z below #[Value.ref b] s) (F0 m pc ls [.int 1]) := by
  intro T hT X
  obtain ⟨fs, hret, hrun, hended, hW, hframe⟩ := X.leave (v := some (.int 1)) (hlocks := hlocks) (fun h => by rw [hr] at h; cases h)
  have hmeth' : T.vm.method? m = some meth := X.method'
  refine ⟨T.setFrames fs, ?_, .returned (some (.int 1)), hrun, hended, rfl, ⟨_, rfl⟩, hW, hframe⟩
  jvm_step X.here [X.here.top, hx, hb, hdg, hmeth', hr, ret, narrow_b1]
  (try refine ⟨rfl, ?_⟩); (try refine ⟨rfl, ?_⟩)
  first | (intro acts; rw [hret _ acts rfl rfl rfl]) | rw [hret _ _ rfl rfl rfl]
  exact Steps.refl _
/-- what holds at the law's entry: the machine, the code, the tables' words (any of lw_tbl by 'hts w (by decide +kernel)'), the script of L ints xs at the cell b, what the Statement gives of the start (any of its parts by flat_of_before) -/
def lw_At (p : Program) (s : State) (m : MethodId) (meth : Method) (c : Code) (b L : Nat) (xs : Nat → Int32) : Prop :=
  p.tables.exec = Jvm.exec ∧ c.code = code ∧ meth.sig.returnType = ret ∧ c.maxLocals = 4 ∧ s.vm.findClass R_law = some m.cls ∧ (∀ w ∈ lw_tbl, w.before #[Value.ref b] s = true) ∧ va_X b L xs s s.heap ∧ b < s.heap.size ∧ meth.locks = false ∧ (Jvm.Cond.and given_1 narrow_1).before #[Value.ref b] s = true
theorem pwL_13 : PW RL 13 "VoucherOffice" yX8_issue cX8_issue 4 (some .int) 2 := ⟨mw_44, mw_45, mw_46, mw_1, mw_47, by decide +kernel⟩
theorem pwL_17 : PW RL 17 "VoucherOfficeModel" yX9_issue cX9_issue 4 (some .int) 2 := ⟨mw_491, mw_492, mw_493, mw_2, mw_494, by decide +kernel⟩
theorem pwL_18 : PW RL 18 "VoucherOffice" yX8_pass cX8_pass 2 (some .int) 1 := ⟨mw_169, mw_170, mw_171, mw_1, mw_172, by decide +kernel⟩
theorem pwL_22 : PW RL 22 "VoucherOfficeModel" yX9_pass cX9_pass 2 (some .int) 1 := ⟨mw_499, mw_500, mw_501, mw_2, mw_502, by decide +kernel⟩
theorem pwL_23 : PW RL 23 "VoucherOffice" yX8_value cX8_value 4 (some .int) 2 := ⟨mw_173, mw_174, mw_175, mw_1, mw_176, by decide +kernel⟩
theorem pwL_26 : PW RL 26 "VoucherOfficeModel" yX9_value cX9_value 3 (some .int) 2 := ⟨mw_503, mw_504, mw_505, mw_2, mw_506, by decide +kernel⟩
theorem pwL_27 : PW RL 27 "VoucherOffice" yX8_fee cX8_fee 4 (some .int) 2 := ⟨mw_220, mw_221, mw_222, mw_1, mw_223, by decide +kernel⟩
theorem pwL_30 : PW RL 30 "VoucherOfficeModel" yX9_fee cX9_fee 3 (some .int) 2 := ⟨mw_527, mw_528, mw_529, mw_2, mw_530, by decide +kernel⟩
theorem pwL_31 : PW RL 31 "VoucherOffice" yX8_spend cX8_spend 6 (some .int) 2 := ⟨mw_248, mw_249, mw_250, mw_1, mw_251, by decide +kernel⟩
theorem pwL_34 : PW RL 34 "VoucherOfficeModel" yX9_spend cX9_spend 4 (some .int) 2 := ⟨mw_535, mw_536, mw_537, mw_2, mw_538, by decide +kernel⟩
theorem pwL_35 : PW RL 35 "VoucherOffice" yX8_seal cX8_seal 3 (some .int) 1 := ⟨mw_275, mw_276, mw_277, mw_1, mw_278, by decide +kernel⟩
theorem pwL_38 : PW RL 38 "VoucherOfficeModel" yX9_seal cX9_seal 2 (some .int) 1 := ⟨mw_539, mw_540, mw_541, mw_2, mw_542, by decide +kernel⟩
theorem pwL_39 : PW RL 39 "VoucherOffice" yX8_mark cX8_mark 4 (some .int) 2 := ⟨mw_300, mw_301, mw_302, mw_1, mw_303, by decide +kernel⟩
theorem pwL_42 : PW RL 42 "VoucherOfficeModel" yX9_mark cX9_mark 3 (some .int) 2 := ⟨mw_547, mw_548, mw_549, mw_2, mw_550, by decide +kernel⟩
theorem pwL_43 : PW RL 43 "VoucherOffice" yX8_daysLeft cX8_daysLeft 4 (some .int) 2 := ⟨mw_323, mw_324, mw_325, mw_1, mw_326, by decide +kernel⟩
theorem pwL_46 : PW RL 46 "VoucherOfficeModel" yX9_daysLeft cX9_daysLeft 4 (some .int) 2 := ⟨mw_551, mw_552, mw_553, mw_2, mw_554, by decide +kernel⟩
theorem pwL_47 : PW RL 47 "VoucherOffice" yX8_lapse cX8_lapse 4 (some .int) 0 := ⟨mw_342, mw_343, mw_344, mw_1, mw_345, by decide +kernel⟩
theorem pwL_51 : PW RL 51 "VoucherOfficeModel" yX9_lapse cX9_lapse 3 (some .int) 0 := ⟨mw_555, mw_556, mw_557, mw_2, mw_558, by decide +kernel⟩
theorem pwL_52 : PW RL 52 "VoucherOffice" yX8_merge cX8_merge 5 (some .int) 2 := ⟨mw_360, mw_361, mw_362, mw_1, mw_363, by decide +kernel⟩
theorem pwL_55 : PW RL 55 "VoucherOfficeModel" yX9_merge cX9_merge 3 (some .int) 2 := ⟨mw_559, mw_560, mw_561, mw_2, mw_562, by decide +kernel⟩
theorem pwL_56 : PW RL 56 "VoucherOffice" yX8_total cX8_total 5 (some .int) 1 := ⟨mw_414, mw_415, mw_416, mw_1, mw_417, by decide +kernel⟩
theorem pwL_59 : PW RL 59 "VoucherOfficeModel" yX9_total cX9_total 4 (some .int) 1 := ⟨mw_563, mw_564, mw_565, mw_2, mw_566, by decide +kernel⟩
theorem pwL_60 : PW RL 60 "VoucherOffice" yX8_paper cX8_paper 4 (some .int) 2 := ⟨mw_418, mw_419, mw_420, mw_1, mw_421, by decide +kernel⟩
theorem pwL_63 : PW RL 63 "VoucherOfficeModel" yX9_paper cX9_paper 3 (some .int) 2 := ⟨mw_567, mw_568, mw_569, mw_2, mw_570, by decide +kernel⟩
theorem pwL_64 : PW RL 64 "VoucherOffice" yX8_count cX8_count 2 (some .int) 1 := ⟨mw_435, mw_436, mw_437, mw_1, mw_438, by decide +kernel⟩
theorem pwL_67 : PW RL 67 "VoucherOfficeModel" yX9_count cX9_count 2 (some .int) 1 := ⟨mw_571, mw_572, mw_573, mw_2, mw_574, by decide +kernel⟩
theorem mo_at_fr {cI cZ : ClassId} {ws w : va_W} {h : Nat} {q ad : Nat → Nat} {sc : Nat → Int32} {ar : Nat → Nat → Int32} (hm : mo_at cI cZ ws h q ad sc ar) (hf : of_fr ws w) : mo_at cI cZ w h q ad sc ar := by
  obtain ⟨h0, h1, h2, h3, h4, h5, h6, h7, hq⟩ := hm
  exact ⟨hf _ _ _ h0 rfl, hf _ _ _ h1 trivial, hf _ _ _ h2 trivial, hf _ _ _ h3 trivial, hf _ _ _ h4 trivial, hf _ _ _ h5 trivial, hf _ _ _ h6 trivial, hf _ _ _ h7 trivial, hq⟩
theorem of_at_fr {cP : ClassId} {ws w : va_W} {h p0 p1 ha n : Nat} {row : Nat → Option Nat} {pv : Nat → Nat} {sc : Nat → Int32} {ar : Nat → Nat → Int32} (hO : of_at cP ws h p0 p1 ha row pv sc ar n) (hf : mo_fr ws w) : of_at cP w h p0 p1 ha row pv sc ar n := by
  obtain ⟨h0, h1, h2, h3⟩ := hO
  refine ⟨hf _ _ _ h0 oo_nM, hf _ _ _ h1 rr_nM, fun v hv => ?_, h3⟩
  rcases h2 v hv with ⟨g1, a, g2, g3⟩ | g
  · exact Or.inl ⟨g1, a, g2, hf _ _ _ g3 (vo_nM _ _ _ _ _ _ _)⟩
  · exact Or.inr g
/-- both sides stand in the world, at one state -/
def lwI (cI cZ cP : ClassId) (D : va_G) (s : State) (h0 h1 : Nat) (ws : va_W) (H : Heap) (locs : List Loc) : Prop :=
  va_P D vwCl ws H ∧ va_D (fun q => s.heap.size ≤ q) ws ∧ va_S (fun q => s.heap.size ≤ q) s.heap H locs ∧ ∃ (p0 p1 ha : Nat) (row : Nat → Option Nat) (pv q ad : Nat → Nat) (sc : Nat → Int32) (ar : Nat → Nat → Int32) (n : Nat), of_at cP ws h0 p0 p1 ha row pv sc ar n ∧ mo_at cI cZ ws h1 q ad sc ar ∧ mInv sc ar n
theorem n_one {x : Int32} {a b : Nat} (ha : x = nI a) (hb : x = nI b) (h1 : a ≤ 40) (h2 : b ≤ 40) : a = b := (nI_eq (by omega) (by omega)).mp (ha.symm.trans hb)
section LC
variable {p : Program} {l : Launch} {e : Env} {s : State} {m : MethodId} {below : List Frame} {meth : Method} {c : Code} {b Ls : Nat} {xs : Nat → Int32} {D : va_G} {cI cZ cP : ClassId} {h0 h1 i cells slots : Nat} {Q : State → Prop} {ws : va_W} {H : Heap} {locs : List Loc} {L : Array Slot} {rt : Option FieldType}
set_option maxHeartbeats 4000000 in
set_option maxRecDepth 100000 in
theorem lw_c0 (X : Cx p m c meth s #[Value.ref b] RL code 4 rt D (vTy cI cZ cP)) (hX : va_X b Ls xs s s.heap) (hbl : b < s.heap.size) (hL : Ls ≤ 1536) (hi : i + 3 ≤ Ls) (hc1 : cells + 1 ≤ 667234) (hs1 : slots + 5 ≤ 7100547) (hl : lv_has L 4 [(3, .int (nI i)), (2, .ref h1), (1, .ref h0), (0, .ref b)]) (hW : lwI cI cZ cP D s h0 h1 ws H locs) (kk : ∀ (ws : va_W) (H : Heap) (locs : List Loc), lwI cI cZ cP D s h0 h1 ws H locs → W p l e room_1 s m #[Value.ref b] below meth c H locs (cells + 1) (slots + 5) Q (F0 m 469 L [])) : W p l e room_1 s m #[Value.ref b] below meth c H locs cells slots Q (F0 m 100 L []) := by
  obtain ⟨hx, hb, hr, hml, hown, hts, hK, hlk, hxK⟩ := id X
  obtain ⟨hP, hD, hS, p0, p1, ha, row, pv, q, ad, sc, ar, n, hO, hm, hI⟩ := hW
  have hA : ∀ q : Nat, s.heap.size ≤ q → (fun q : Nat => s.heap.size ≤ q) q := fun _ h => h
  have hbA : ¬ (fun q : Nat => s.heap.size ≤ q) b := Nat.not_le.mpr hbl
  have hin1 : vp_in (nI i + 1) Ls := by rw [nI_1]; exact vp_in_nI (by omega) (by omega)
  have hin2 : vp_in (nI i + 2) Ls := by rw [show (2 : Int32) = nI 2 from rfl, nI_add]; exact vp_in_nI (by omega) (by omega)
  refine lv_aload_n hx hb dL_law_100 rfl (lv_at hl 2 rfl) ?_
  refine lv_aload_n hx hb dL_law_101 rfl (lv_at hl 3 rfl) ?_
  refine lv_iload_n hx hb dL_law_102 rfl (lv_at hl 0 rfl) ?_
  refine lv_iconst (v := 1) hx hb dL_law_103 (by decide) ?_
  refine lv_iadd hx hb dL_law_104 ?_
  refine va_sld hx hb hX hbl hbA hS hin1 dL_law_105 ?_
  refine lv_aload_n hx hb dL_law_106 rfl (lv_at hl 3 rfl) ?_
  refine lv_iload_n hx hb dL_law_107 rfl (lv_at hl 0 rfl) ?_
  refine lv_iconst (v := 2) hx hb dL_law_108 (by decide) ?_
  refine lv_iadd hx hb dL_law_109 ?_
  refine va_sld hx hb hX hbl hbA hS hin2 dL_law_110 ?_
  refine g_priv (ci := 8) (cq := (RX8, TX8, 7)) (As := [.int (xs (((nI i) + 1)).toNatClampNeg), .int (xs (((nI i) + 2)).toNatClampNeg)]) (rest := []) pwL_13 X (c_X8_issue l D cI cZ cP 7 (by decide) hO hI (xs (((nI i) + 1)).toNatClampNeg) (xs (((nI i) + 2)).toNatClampNeg)) hP hD hS hA hO.1 rfl rfl ⟨by show _ ≤ 10; omega, by show _ ≤ 344; omega⟩ rfl hl.1 rfl (Nat.le_of_ble_eq_true rfl) dL_law_111 ⟨by show _ ≤ 667234; omega, by show _ ≤ 7100547; omega⟩ (fun v9 ws9 H locs hq hP hD hS => ?_)
  obtain ⟨ev9, ⟨p0, p1, ha, n9, row, pv, hO9, hn9, h409⟩, hfr⟩ := hq
  subst ev9
  have hm := mo_at_fr hm hfr
  refine W.eq (g2 := F0 m 114 L [.int (mIssue sc ar (xs (((nI i) + 1)).toNatClampNeg) (xs (((nI i) + 2)).toNatClampNeg)).1]) rfl ?_
  refine lv_aload_n hx hb dL_law_114 rfl (lv_at hl 1 rfl) ?_
  refine lv_aload_n hx hb dL_law_115 rfl (lv_at hl 3 rfl) ?_
  refine lv_iload_n hx hb dL_law_116 rfl (lv_at hl 0 rfl) ?_
  refine lv_iconst (v := 1) hx hb dL_law_117 (by decide) ?_
  refine lv_iadd hx hb dL_law_118 ?_
  refine va_sld hx hb hX hbl hbA hS hin1 dL_law_119 ?_
  refine lv_aload_n hx hb dL_law_120 rfl (lv_at hl 3 rfl) ?_
  refine lv_iload_n hx hb dL_law_121 rfl (lv_at hl 0 rfl) ?_
  refine lv_iconst (v := 2) hx hb dL_law_122 (by decide) ?_
  refine lv_iadd hx hb dL_law_123 ?_
  refine va_sld hx hb hX hbl hbA hS hin2 dL_law_124 ?_
  refine g_priv (ci := 9) (cq := (RX9, TX9, 13)) (As := [.int (xs (((nI i) + 1)).toNatClampNeg), .int (xs (((nI i) + 2)).toNatClampNeg)]) (rest := [.int (mIssue sc ar (xs (((nI i) + 1)).toNatClampNeg) (xs (((nI i) + 2)).toNatClampNeg)).1]) pwL_17 X (c_X9_issue l D cI cZ cP 1 (by decide) hm hI.1 hI.2.1 (xs (((nI i) + 1)).toNatClampNeg) (xs (((nI i) + 2)).toNatClampNeg)) hP hD hS hA hm.1 rfl rfl ⟨by show _ ≤ 10; omega, by show _ ≤ 344; omega⟩ rfl hl.1 rfl (Nat.le_of_ble_eq_true rfl) dL_law_125 ⟨by show _ ≤ 667234; omega, by show _ ≤ 7100547; omega⟩ (fun v9 ws9 H locs hq hP hD hS => ?_)
  obtain ⟨ev8, hm8, hfr8⟩ := hq
  subst ev8
  have hO8 := of_at_fr hO9 hfr8
  refine W.eq (g2 := F0 m 128 L [.int (mIssue sc ar (xs (((nI i) + 1)).toNatClampNeg) (xs (((nI i) + 2)).toNatClampNeg)).1, .int (mIssue sc ar (xs (((nI i) + 1)).toNatClampNeg) (xs (((nI i) + 2)).toNatClampNeg)).1]) rfl ?_
  refine lv_icmp_eq (tgt := 469) hx hb dL_law_128 (by decide) (fun _ => ?_) (fun c9 => absurd rfl c9)
  refine W.widen (k := cells + 1) (n := slots + 5) (by omega) (by omega) ?_
  obtain ⟨n7, hI7⟩ := inv_issue hI (xs (((nI i) + 1)).toNatClampNeg) (xs (((nI i) + 2)).toNatClampNeg)
  have en := n_one hI7.1 hn9 hI7.2.1 h409
  subst en
  exact kk _ H locs ⟨hP, hD, hS, p0, p1, ha, row, pv, q, ad, _, _, n7, hO8, hm8, hI7⟩
set_option maxHeartbeats 4000000 in
set_option maxRecDepth 100000 in
theorem lw_c1 (X : Cx p m c meth s #[Value.ref b] RL code 4 rt D (vTy cI cZ cP)) (hX : va_X b Ls xs s s.heap) (hbl : b < s.heap.size) (hL : Ls ≤ 1536) (hi : i + 3 ≤ Ls) (hc1 : cells + 1 ≤ 667234) (hs1 : slots + 5 ≤ 7100547) (hl : lv_has L 4 [(3, .int (nI i)), (2, .ref h1), (1, .ref h0), (0, .ref b)]) (hW : lwI cI cZ cP D s h0 h1 ws H locs) (kk : ∀ (ws : va_W) (H : Heap) (locs : List Loc), lwI cI cZ cP D s h0 h1 ws H locs → W p l e room_1 s m #[Value.ref b] below meth c H locs (cells + 1) (slots + 5) Q (F0 m 469 L [])) : W p l e room_1 s m #[Value.ref b] below meth c H locs cells slots Q (F0 m 133 L []) := by
  obtain ⟨hx, hb, hr, hml, hown, hts, hK, hlk, hxK⟩ := id X
  obtain ⟨hP, hD, hS, p0, p1, ha, row, pv, q, ad, sc, ar, n, hO, hm, hI⟩ := hW
  have hA : ∀ q : Nat, s.heap.size ≤ q → (fun q : Nat => s.heap.size ≤ q) q := fun _ h => h
  have hbA : ¬ (fun q : Nat => s.heap.size ≤ q) b := Nat.not_le.mpr hbl
  have hin1 : vp_in (nI i + 1) Ls := by rw [nI_1]; exact vp_in_nI (by omega) (by omega)
  have hin2 : vp_in (nI i + 2) Ls := by rw [show (2 : Int32) = nI 2 from rfl, nI_add]; exact vp_in_nI (by omega) (by omega)
  refine lv_aload_n hx hb dL_law_133 rfl (lv_at hl 2 rfl) ?_
  refine lv_aload_n hx hb dL_law_134 rfl (lv_at hl 3 rfl) ?_
  refine lv_iload_n hx hb dL_law_135 rfl (lv_at hl 0 rfl) ?_
  refine lv_iconst (v := 1) hx hb dL_law_136 (by decide) ?_
  refine lv_iadd hx hb dL_law_137 ?_
  refine va_sld hx hb hX hbl hbA hS hin1 dL_law_138 ?_
  refine g_priv (ci := 8) (cq := (RX8, TX8, 7)) (As := [.int (xs (((nI i) + 1)).toNatClampNeg)]) (rest := []) pwL_18 X (c_X8_pass l D cI cZ cP 1 (by decide) hO hI (xs (((nI i) + 1)).toNatClampNeg)) hP hD hS hA hO.1 rfl rfl ⟨by show _ ≤ 10; omega, by show _ ≤ 344; omega⟩ rfl hl.1 rfl (Nat.le_of_ble_eq_true rfl) dL_law_139 ⟨by show _ ≤ 667234; omega, by show _ ≤ 7100547; omega⟩ (fun v9 ws9 H locs hq hP hD hS => ?_)
  obtain ⟨ev9, ⟨p0, p1, ha, n9, row, pv, hO9, hn9, h409⟩, hfr⟩ := hq
  subst ev9
  have hm := mo_at_fr hm hfr
  refine W.eq (g2 := F0 m 142 L [.int (mPass sc ar (xs (((nI i) + 1)).toNatClampNeg)).1]) rfl ?_
  refine lv_aload_n hx hb dL_law_142 rfl (lv_at hl 1 rfl) ?_
  refine lv_aload_n hx hb dL_law_143 rfl (lv_at hl 3 rfl) ?_
  refine lv_iload_n hx hb dL_law_144 rfl (lv_at hl 0 rfl) ?_
  refine lv_iconst (v := 1) hx hb dL_law_145 (by decide) ?_
  refine lv_iadd hx hb dL_law_146 ?_
  refine va_sld hx hb hX hbl hbA hS hin1 dL_law_147 ?_
  refine g_priv (ci := 9) (cq := (RX9, TX9, 13)) (As := [.int (xs (((nI i) + 1)).toNatClampNeg)]) (rest := [.int (mPass sc ar (xs (((nI i) + 1)).toNatClampNeg)).1]) pwL_22 X (c_X9_pass l D cI cZ cP 1 (by decide) hm (xs (((nI i) + 1)).toNatClampNeg)) hP hD hS hA hm.1 rfl rfl ⟨by show _ ≤ 10; omega, by show _ ≤ 344; omega⟩ rfl hl.1 rfl (Nat.le_of_ble_eq_true rfl) dL_law_148 ⟨by show _ ≤ 667234; omega, by show _ ≤ 7100547; omega⟩ (fun v9 ws9 H locs hq hP hD hS => ?_)
  obtain ⟨ev8, hm8, hfr8⟩ := hq
  subst ev8
  have hO8 := of_at_fr hO9 hfr8
  refine W.eq (g2 := F0 m 151 L [.int (mPass sc ar (xs (((nI i) + 1)).toNatClampNeg)).1, .int (mPass sc ar (xs (((nI i) + 1)).toNatClampNeg)).1]) rfl ?_
  refine lv_icmp_eq (tgt := 469) hx hb dL_law_151 (by decide) (fun _ => ?_) (fun c9 => absurd rfl c9)
  refine W.widen (k := cells + 1) (n := slots + 5) (by omega) (by omega) ?_
  have hI7 := inv_pass hI (xs (((nI i) + 1)).toNatClampNeg)
  have en := n_one hI7.1 hn9 hI7.2.1 h409
  subst en
  exact kk _ H locs ⟨hP, hD, hS, p0, p1, ha, row, pv, q, ad, _, _, n, hO8, hm8, hI7⟩
set_option maxHeartbeats 4000000 in
set_option maxRecDepth 100000 in
theorem lw_c2 (X : Cx p m c meth s #[Value.ref b] RL code 4 rt D (vTy cI cZ cP)) (hX : va_X b Ls xs s s.heap) (hbl : b < s.heap.size) (hL : Ls ≤ 1536) (hi : i + 3 ≤ Ls) (hc1 : cells + 1 ≤ 667234) (hs1 : slots + 5 ≤ 7100547) (hl : lv_has L 4 [(3, .int (nI i)), (2, .ref h1), (1, .ref h0), (0, .ref b)]) (hW : lwI cI cZ cP D s h0 h1 ws H locs) (kk : ∀ (ws : va_W) (H : Heap) (locs : List Loc), lwI cI cZ cP D s h0 h1 ws H locs → W p l e room_1 s m #[Value.ref b] below meth c H locs (cells + 1) (slots + 5) Q (F0 m 469 L [])) : W p l e room_1 s m #[Value.ref b] below meth c H locs cells slots Q (F0 m 156 L []) := by
  obtain ⟨hx, hb, hr, hml, hown, hts, hK, hlk, hxK⟩ := id X
  obtain ⟨hP, hD, hS, p0, p1, ha, row, pv, q, ad, sc, ar, n, hO, hm, hI⟩ := hW
  have hA : ∀ q : Nat, s.heap.size ≤ q → (fun q : Nat => s.heap.size ≤ q) q := fun _ h => h
  have hbA : ¬ (fun q : Nat => s.heap.size ≤ q) b := Nat.not_le.mpr hbl
  have hin1 : vp_in (nI i + 1) Ls := by rw [nI_1]; exact vp_in_nI (by omega) (by omega)
  have hin2 : vp_in (nI i + 2) Ls := by rw [show (2 : Int32) = nI 2 from rfl, nI_add]; exact vp_in_nI (by omega) (by omega)
  refine lv_aload_n hx hb dL_law_156 rfl (lv_at hl 2 rfl) ?_
  refine lv_aload_n hx hb dL_law_157 rfl (lv_at hl 3 rfl) ?_
  refine lv_iload_n hx hb dL_law_158 rfl (lv_at hl 0 rfl) ?_
  refine lv_iconst (v := 1) hx hb dL_law_159 (by decide) ?_
  refine lv_iadd hx hb dL_law_160 ?_
  refine va_sld hx hb hX hbl hbA hS hin1 dL_law_161 ?_
  refine lv_aload_n hx hb dL_law_162 rfl (lv_at hl 3 rfl) ?_
  refine lv_iload_n hx hb dL_law_163 rfl (lv_at hl 0 rfl) ?_
  refine lv_iconst (v := 2) hx hb dL_law_164 (by decide) ?_
  refine lv_iadd hx hb dL_law_165 ?_
  refine va_sld hx hb hX hbl hbA hS hin2 dL_law_166 ?_
  refine g_priv (ci := 8) (cq := (RX8, TX8, 7)) (As := [.int (xs (((nI i) + 1)).toNatClampNeg), .int (xs (((nI i) + 2)).toNatClampNeg)]) (rest := []) pwL_23 X (c_X8_value l D cI cZ cP 4 (by decide) hO hI (xs (((nI i) + 1)).toNatClampNeg) (xs (((nI i) + 2)).toNatClampNeg)) hP hD hS hA hO.1 rfl rfl ⟨by show _ ≤ 10; omega, by show _ ≤ 344; omega⟩ rfl hl.1 rfl (Nat.le_of_ble_eq_true rfl) dL_law_167 ⟨by show _ ≤ 667234; omega, by show _ ≤ 7100547; omega⟩ (kI fun H locs hP hD hS => ?_)
  refine W.eq (g2 := F0 m 170 L [.int (mValue sc ar (xs (((nI i) + 1)).toNatClampNeg) (xs (((nI i) + 2)).toNatClampNeg))]) rfl ?_
  refine lv_aload_n hx hb dL_law_170 rfl (lv_at hl 1 rfl) ?_
  refine lv_aload_n hx hb dL_law_171 rfl (lv_at hl 3 rfl) ?_
  refine lv_iload_n hx hb dL_law_172 rfl (lv_at hl 0 rfl) ?_
  refine lv_iconst (v := 1) hx hb dL_law_173 (by decide) ?_
  refine lv_iadd hx hb dL_law_174 ?_
  refine va_sld hx hb hX hbl hbA hS hin1 dL_law_175 ?_
  refine lv_aload_n hx hb dL_law_176 rfl (lv_at hl 3 rfl) ?_
  refine lv_iload_n hx hb dL_law_177 rfl (lv_at hl 0 rfl) ?_
  refine lv_iconst (v := 2) hx hb dL_law_178 (by decide) ?_
  refine lv_iadd hx hb dL_law_179 ?_
  refine va_sld hx hb hX hbl hbA hS hin2 dL_law_180 ?_
  refine g_priv (ci := 9) (cq := (RX9, TX9, 13)) (As := [.int (xs (((nI i) + 1)).toNatClampNeg), .int (xs (((nI i) + 2)).toNatClampNeg)]) (rest := [.int (mValue sc ar (xs (((nI i) + 1)).toNatClampNeg) (xs (((nI i) + 2)).toNatClampNeg))]) pwL_26 X (c_X9_value l D cI cZ cP 2 (by decide) hm hI.1 hI.2.1 (xs (((nI i) + 1)).toNatClampNeg) (xs (((nI i) + 2)).toNatClampNeg)) hP hD hS hA hm.1 rfl rfl ⟨by show _ ≤ 10; omega, by show _ ≤ 344; omega⟩ rfl hl.1 rfl (Nat.le_of_ble_eq_true rfl) dL_law_181 ⟨by show _ ≤ 667234; omega, by show _ ≤ 7100547; omega⟩ (kI fun H locs hP hD hS => ?_)
  refine W.eq (g2 := F0 m 184 L [.int (mValue sc ar (xs (((nI i) + 1)).toNatClampNeg) (xs (((nI i) + 2)).toNatClampNeg)), .int (mValue sc ar (xs (((nI i) + 1)).toNatClampNeg) (xs (((nI i) + 2)).toNatClampNeg))]) rfl ?_
  refine lv_icmp_eq (tgt := 469) hx hb dL_law_184 (by decide) (fun _ => ?_) (fun c9 => absurd rfl c9)
  refine W.widen (k := cells + 1) (n := slots + 5) (by omega) (by omega) ?_
  exact kk ws H locs ⟨hP, hD, hS, p0, p1, ha, row, pv, q, ad, sc, ar, n, hO, hm, hI⟩
set_option maxHeartbeats 4000000 in
set_option maxRecDepth 100000 in
theorem lw_c3 (X : Cx p m c meth s #[Value.ref b] RL code 4 rt D (vTy cI cZ cP)) (hX : va_X b Ls xs s s.heap) (hbl : b < s.heap.size) (hL : Ls ≤ 1536) (hi : i + 3 ≤ Ls) (hc1 : cells + 1 ≤ 667234) (hs1 : slots + 5 ≤ 7100547) (hl : lv_has L 4 [(3, .int (nI i)), (2, .ref h1), (1, .ref h0), (0, .ref b)]) (hW : lwI cI cZ cP D s h0 h1 ws H locs) (kk : ∀ (ws : va_W) (H : Heap) (locs : List Loc), lwI cI cZ cP D s h0 h1 ws H locs → W p l e room_1 s m #[Value.ref b] below meth c H locs (cells + 1) (slots + 5) Q (F0 m 469 L [])) : W p l e room_1 s m #[Value.ref b] below meth c H locs cells slots Q (F0 m 189 L []) := by
  obtain ⟨hx, hb, hr, hml, hown, hts, hK, hlk, hxK⟩ := id X
  obtain ⟨hP, hD, hS, p0, p1, ha, row, pv, q, ad, sc, ar, n, hO, hm, hI⟩ := hW
  have hA : ∀ q : Nat, s.heap.size ≤ q → (fun q : Nat => s.heap.size ≤ q) q := fun _ h => h
  have hbA : ¬ (fun q : Nat => s.heap.size ≤ q) b := Nat.not_le.mpr hbl
  have hin1 : vp_in (nI i + 1) Ls := by rw [nI_1]; exact vp_in_nI (by omega) (by omega)
  have hin2 : vp_in (nI i + 2) Ls := by rw [show (2 : Int32) = nI 2 from rfl, nI_add]; exact vp_in_nI (by omega) (by omega)
  refine lv_aload_n hx hb dL_law_189 rfl (lv_at hl 2 rfl) ?_
  refine lv_aload_n hx hb dL_law_190 rfl (lv_at hl 3 rfl) ?_
  refine lv_iload_n hx hb dL_law_191 rfl (lv_at hl 0 rfl) ?_
  refine lv_iconst (v := 1) hx hb dL_law_192 (by decide) ?_
  refine lv_iadd hx hb dL_law_193 ?_
  refine va_sld hx hb hX hbl hbA hS hin1 dL_law_194 ?_
  refine lv_aload_n hx hb dL_law_195 rfl (lv_at hl 3 rfl) ?_
  refine lv_iload_n hx hb dL_law_196 rfl (lv_at hl 0 rfl) ?_
  refine lv_iconst (v := 2) hx hb dL_law_197 (by decide) ?_
  refine lv_iadd hx hb dL_law_198 ?_
  refine va_sld hx hb hX hbl hbA hS hin2 dL_law_199 ?_
  refine g_priv (ci := 8) (cq := (RX8, TX8, 7)) (As := [.int (xs (((nI i) + 1)).toNatClampNeg), .int (xs (((nI i) + 2)).toNatClampNeg)]) (rest := []) pwL_27 X (c_X8_fee l D cI cZ cP 2 (by decide) hO hI (xs (((nI i) + 1)).toNatClampNeg) (xs (((nI i) + 2)).toNatClampNeg)) hP hD hS hA hO.1 rfl rfl ⟨by show _ ≤ 10; omega, by show _ ≤ 344; omega⟩ rfl hl.1 rfl (Nat.le_of_ble_eq_true rfl) dL_law_200 ⟨by show _ ≤ 667234; omega, by show _ ≤ 7100547; omega⟩ (kI fun H locs hP hD hS => ?_)
  refine W.eq (g2 := F0 m 203 L [.int (mFeeP sc ar (xs (((nI i) + 1)).toNatClampNeg) (xs (((nI i) + 2)).toNatClampNeg))]) rfl ?_
  refine lv_aload_n hx hb dL_law_203 rfl (lv_at hl 1 rfl) ?_
  refine lv_aload_n hx hb dL_law_204 rfl (lv_at hl 3 rfl) ?_
  refine lv_iload_n hx hb dL_law_205 rfl (lv_at hl 0 rfl) ?_
  refine lv_iconst (v := 1) hx hb dL_law_206 (by decide) ?_
  refine lv_iadd hx hb dL_law_207 ?_
  refine va_sld hx hb hX hbl hbA hS hin1 dL_law_208 ?_
  refine lv_aload_n hx hb dL_law_209 rfl (lv_at hl 3 rfl) ?_
  refine lv_iload_n hx hb dL_law_210 rfl (lv_at hl 0 rfl) ?_
  refine lv_iconst (v := 2) hx hb dL_law_211 (by decide) ?_
  refine lv_iadd hx hb dL_law_212 ?_
  refine va_sld hx hb hX hbl hbA hS hin2 dL_law_213 ?_
  refine g_priv (ci := 9) (cq := (RX9, TX9, 13)) (As := [.int (xs (((nI i) + 1)).toNatClampNeg), .int (xs (((nI i) + 2)).toNatClampNeg)]) (rest := [.int (mFeeP sc ar (xs (((nI i) + 1)).toNatClampNeg) (xs (((nI i) + 2)).toNatClampNeg))]) pwL_30 X (c_X9_fee l D cI cZ cP 2 (by decide) hm hI.1 hI.2.1 (xs (((nI i) + 1)).toNatClampNeg) (xs (((nI i) + 2)).toNatClampNeg)) hP hD hS hA hm.1 rfl rfl ⟨by show _ ≤ 10; omega, by show _ ≤ 344; omega⟩ rfl hl.1 rfl (Nat.le_of_ble_eq_true rfl) dL_law_214 ⟨by show _ ≤ 667234; omega, by show _ ≤ 7100547; omega⟩ (kI fun H locs hP hD hS => ?_)
  refine W.eq (g2 := F0 m 217 L [.int (mFeeP sc ar (xs (((nI i) + 1)).toNatClampNeg) (xs (((nI i) + 2)).toNatClampNeg)), .int (mFeeP sc ar (xs (((nI i) + 1)).toNatClampNeg) (xs (((nI i) + 2)).toNatClampNeg))]) rfl ?_
  refine lv_icmp_eq (tgt := 469) hx hb dL_law_217 (by decide) (fun _ => ?_) (fun c9 => absurd rfl c9)
  refine W.widen (k := cells + 1) (n := slots + 5) (by omega) (by omega) ?_
  exact kk ws H locs ⟨hP, hD, hS, p0, p1, ha, row, pv, q, ad, sc, ar, n, hO, hm, hI⟩
set_option maxHeartbeats 4000000 in
set_option maxRecDepth 100000 in
theorem lw_c4 (X : Cx p m c meth s #[Value.ref b] RL code 4 rt D (vTy cI cZ cP)) (hX : va_X b Ls xs s s.heap) (hbl : b < s.heap.size) (hL : Ls ≤ 1536) (hi : i + 3 ≤ Ls) (hc1 : cells + 1 ≤ 667234) (hs1 : slots + 5 ≤ 7100547) (hl : lv_has L 4 [(3, .int (nI i)), (2, .ref h1), (1, .ref h0), (0, .ref b)]) (hW : lwI cI cZ cP D s h0 h1 ws H locs) (kk : ∀ (ws : va_W) (H : Heap) (locs : List Loc), lwI cI cZ cP D s h0 h1 ws H locs → W p l e room_1 s m #[Value.ref b] below meth c H locs (cells + 1) (slots + 5) Q (F0 m 469 L [])) : W p l e room_1 s m #[Value.ref b] below meth c H locs cells slots Q (F0 m 222 L []) := by
  obtain ⟨hx, hb, hr, hml, hown, hts, hK, hlk, hxK⟩ := id X
  obtain ⟨hP, hD, hS, p0, p1, ha, row, pv, q, ad, sc, ar, n, hO, hm, hI⟩ := hW
  have hA : ∀ q : Nat, s.heap.size ≤ q → (fun q : Nat => s.heap.size ≤ q) q := fun _ h => h
  have hbA : ¬ (fun q : Nat => s.heap.size ≤ q) b := Nat.not_le.mpr hbl
  have hin1 : vp_in (nI i + 1) Ls := by rw [nI_1]; exact vp_in_nI (by omega) (by omega)
  have hin2 : vp_in (nI i + 2) Ls := by rw [show (2 : Int32) = nI 2 from rfl, nI_add]; exact vp_in_nI (by omega) (by omega)
  refine lv_aload_n hx hb dL_law_222 rfl (lv_at hl 2 rfl) ?_
  refine lv_aload_n hx hb dL_law_223 rfl (lv_at hl 3 rfl) ?_
  refine lv_iload_n hx hb dL_law_224 rfl (lv_at hl 0 rfl) ?_
  refine lv_iconst (v := 1) hx hb dL_law_225 (by decide) ?_
  refine lv_iadd hx hb dL_law_226 ?_
  refine va_sld hx hb hX hbl hbA hS hin1 dL_law_227 ?_
  refine lv_aload_n hx hb dL_law_228 rfl (lv_at hl 3 rfl) ?_
  refine lv_iload_n hx hb dL_law_229 rfl (lv_at hl 0 rfl) ?_
  refine lv_iconst (v := 2) hx hb dL_law_230 (by decide) ?_
  refine lv_iadd hx hb dL_law_231 ?_
  refine va_sld hx hb hX hbl hbA hS hin2 dL_law_232 ?_
  refine g_priv (ci := 8) (cq := (RX8, TX8, 7)) (As := [.int (xs (((nI i) + 1)).toNatClampNeg), .int (xs (((nI i) + 2)).toNatClampNeg)]) (rest := []) pwL_31 X (c_X8_spend l D cI cZ cP 6 (by decide) hO hI (xs (((nI i) + 1)).toNatClampNeg) (xs (((nI i) + 2)).toNatClampNeg)) hP hD hS hA hO.1 rfl rfl ⟨by show _ ≤ 10; omega, by show _ ≤ 344; omega⟩ rfl hl.1 rfl (Nat.le_of_ble_eq_true rfl) dL_law_233 ⟨by show _ ≤ 667234; omega, by show _ ≤ 7100547; omega⟩ (fun v9 ws9 H locs hq hP hD hS => ?_)
  obtain ⟨ev9, ⟨p0, p1, ha, n9, row, pv, hO9, hn9, h409⟩, hfr⟩ := hq
  subst ev9
  have hm := mo_at_fr hm hfr
  refine W.eq (g2 := F0 m 236 L [.int (mSpend sc ar (xs (((nI i) + 1)).toNatClampNeg) (xs (((nI i) + 2)).toNatClampNeg)).1]) rfl ?_
  refine lv_aload_n hx hb dL_law_236 rfl (lv_at hl 1 rfl) ?_
  refine lv_aload_n hx hb dL_law_237 rfl (lv_at hl 3 rfl) ?_
  refine lv_iload_n hx hb dL_law_238 rfl (lv_at hl 0 rfl) ?_
  refine lv_iconst (v := 1) hx hb dL_law_239 (by decide) ?_
  refine lv_iadd hx hb dL_law_240 ?_
  refine va_sld hx hb hX hbl hbA hS hin1 dL_law_241 ?_
  refine lv_aload_n hx hb dL_law_242 rfl (lv_at hl 3 rfl) ?_
  refine lv_iload_n hx hb dL_law_243 rfl (lv_at hl 0 rfl) ?_
  refine lv_iconst (v := 2) hx hb dL_law_244 (by decide) ?_
  refine lv_iadd hx hb dL_law_245 ?_
  refine va_sld hx hb hX hbl hbA hS hin2 dL_law_246 ?_
  refine g_priv (ci := 9) (cq := (RX9, TX9, 13)) (As := [.int (xs (((nI i) + 1)).toNatClampNeg), .int (xs (((nI i) + 2)).toNatClampNeg)]) (rest := [.int (mSpend sc ar (xs (((nI i) + 1)).toNatClampNeg) (xs (((nI i) + 2)).toNatClampNeg)).1]) pwL_34 X (c_X9_spend l D cI cZ cP 2 (by decide) hm hI.1 hI.2.1 (xs (((nI i) + 1)).toNatClampNeg) (xs (((nI i) + 2)).toNatClampNeg)) hP hD hS hA hm.1 rfl rfl ⟨by show _ ≤ 10; omega, by show _ ≤ 344; omega⟩ rfl hl.1 rfl (Nat.le_of_ble_eq_true rfl) dL_law_247 ⟨by show _ ≤ 667234; omega, by show _ ≤ 7100547; omega⟩ (fun v9 ws9 H locs hq hP hD hS => ?_)
  obtain ⟨ev8, hm8, hfr8⟩ := hq
  subst ev8
  have hO8 := of_at_fr hO9 hfr8
  refine W.eq (g2 := F0 m 250 L [.int (mSpend sc ar (xs (((nI i) + 1)).toNatClampNeg) (xs (((nI i) + 2)).toNatClampNeg)).1, .int (mSpend sc ar (xs (((nI i) + 1)).toNatClampNeg) (xs (((nI i) + 2)).toNatClampNeg)).1]) rfl ?_
  refine lv_icmp_eq (tgt := 469) hx hb dL_law_250 (by decide) (fun _ => ?_) (fun c9 => absurd rfl c9)
  refine W.widen (k := cells + 1) (n := slots + 5) (by omega) (by omega) ?_
  have hI7 := inv_spend hI (xs (((nI i) + 1)).toNatClampNeg) (xs (((nI i) + 2)).toNatClampNeg)
  have en := n_one hI7.1 hn9 hI7.2.1 h409
  subst en
  exact kk _ H locs ⟨hP, hD, hS, p0, p1, ha, row, pv, q, ad, _, _, n, hO8, hm8, hI7⟩
set_option maxHeartbeats 4000000 in
set_option maxRecDepth 100000 in
theorem lw_c5 (X : Cx p m c meth s #[Value.ref b] RL code 4 rt D (vTy cI cZ cP)) (hX : va_X b Ls xs s s.heap) (hbl : b < s.heap.size) (hL : Ls ≤ 1536) (hi : i + 3 ≤ Ls) (hc1 : cells + 1 ≤ 667234) (hs1 : slots + 5 ≤ 7100547) (hl : lv_has L 4 [(3, .int (nI i)), (2, .ref h1), (1, .ref h0), (0, .ref b)]) (hW : lwI cI cZ cP D s h0 h1 ws H locs) (kk : ∀ (ws : va_W) (H : Heap) (locs : List Loc), lwI cI cZ cP D s h0 h1 ws H locs → W p l e room_1 s m #[Value.ref b] below meth c H locs (cells + 1) (slots + 5) Q (F0 m 469 L [])) : W p l e room_1 s m #[Value.ref b] below meth c H locs cells slots Q (F0 m 255 L []) := by
  obtain ⟨hx, hb, hr, hml, hown, hts, hK, hlk, hxK⟩ := id X
  obtain ⟨hP, hD, hS, p0, p1, ha, row, pv, q, ad, sc, ar, n, hO, hm, hI⟩ := hW
  have hA : ∀ q : Nat, s.heap.size ≤ q → (fun q : Nat => s.heap.size ≤ q) q := fun _ h => h
  have hbA : ¬ (fun q : Nat => s.heap.size ≤ q) b := Nat.not_le.mpr hbl
  have hin1 : vp_in (nI i + 1) Ls := by rw [nI_1]; exact vp_in_nI (by omega) (by omega)
  have hin2 : vp_in (nI i + 2) Ls := by rw [show (2 : Int32) = nI 2 from rfl, nI_add]; exact vp_in_nI (by omega) (by omega)
  refine lv_aload_n hx hb dL_law_255 rfl (lv_at hl 2 rfl) ?_
  refine lv_aload_n hx hb dL_law_256 rfl (lv_at hl 3 rfl) ?_
  refine lv_iload_n hx hb dL_law_257 rfl (lv_at hl 0 rfl) ?_
  refine lv_iconst (v := 1) hx hb dL_law_258 (by decide) ?_
  refine lv_iadd hx hb dL_law_259 ?_
  refine va_sld hx hb hX hbl hbA hS hin1 dL_law_260 ?_
  refine g_priv (ci := 8) (cq := (RX8, TX8, 7)) (As := [.int (xs (((nI i) + 1)).toNatClampNeg)]) (rest := []) pwL_35 X (c_X8_seal l D cI cZ cP 2 (by decide) hO hI (xs (((nI i) + 1)).toNatClampNeg)) hP hD hS hA hO.1 rfl rfl ⟨by show _ ≤ 10; omega, by show _ ≤ 344; omega⟩ rfl hl.1 rfl (Nat.le_of_ble_eq_true rfl) dL_law_261 ⟨by show _ ≤ 667234; omega, by show _ ≤ 7100547; omega⟩ (kI fun H locs hP hD hS => ?_)
  refine W.eq (g2 := F0 m 264 L [.int (mSealP sc ar (xs (((nI i) + 1)).toNatClampNeg))]) rfl ?_
  refine lv_aload_n hx hb dL_law_264 rfl (lv_at hl 1 rfl) ?_
  refine lv_aload_n hx hb dL_law_265 rfl (lv_at hl 3 rfl) ?_
  refine lv_iload_n hx hb dL_law_266 rfl (lv_at hl 0 rfl) ?_
  refine lv_iconst (v := 1) hx hb dL_law_267 (by decide) ?_
  refine lv_iadd hx hb dL_law_268 ?_
  refine va_sld hx hb hX hbl hbA hS hin1 dL_law_269 ?_
  refine g_priv (ci := 9) (cq := (RX9, TX9, 13)) (As := [.int (xs (((nI i) + 1)).toNatClampNeg)]) (rest := [.int (mSealP sc ar (xs (((nI i) + 1)).toNatClampNeg))]) pwL_38 X (c_X9_seal l D cI cZ cP 2 (by decide) hm hI.1 hI.2.1 (xs (((nI i) + 1)).toNatClampNeg)) hP hD hS hA hm.1 rfl rfl ⟨by show _ ≤ 10; omega, by show _ ≤ 344; omega⟩ rfl hl.1 rfl (Nat.le_of_ble_eq_true rfl) dL_law_270 ⟨by show _ ≤ 667234; omega, by show _ ≤ 7100547; omega⟩ (kI fun H locs hP hD hS => ?_)
  refine W.eq (g2 := F0 m 273 L [.int (mSealP sc ar (xs (((nI i) + 1)).toNatClampNeg)), .int (mSealP sc ar (xs (((nI i) + 1)).toNatClampNeg))]) rfl ?_
  refine lv_icmp_eq (tgt := 469) hx hb dL_law_273 (by decide) (fun _ => ?_) (fun c9 => absurd rfl c9)
  refine W.widen (k := cells + 1) (n := slots + 5) (by omega) (by omega) ?_
  exact kk ws H locs ⟨hP, hD, hS, p0, p1, ha, row, pv, q, ad, sc, ar, n, hO, hm, hI⟩
set_option maxHeartbeats 4000000 in
set_option maxRecDepth 100000 in
theorem lw_c6 (X : Cx p m c meth s #[Value.ref b] RL code 4 rt D (vTy cI cZ cP)) (hX : va_X b Ls xs s s.heap) (hbl : b < s.heap.size) (hL : Ls ≤ 1536) (hi : i + 3 ≤ Ls) (hc1 : cells + 1 ≤ 667234) (hs1 : slots + 5 ≤ 7100547) (hl : lv_has L 4 [(3, .int (nI i)), (2, .ref h1), (1, .ref h0), (0, .ref b)]) (hW : lwI cI cZ cP D s h0 h1 ws H locs) (kk : ∀ (ws : va_W) (H : Heap) (locs : List Loc), lwI cI cZ cP D s h0 h1 ws H locs → W p l e room_1 s m #[Value.ref b] below meth c H locs (cells + 1) (slots + 5) Q (F0 m 469 L [])) : W p l e room_1 s m #[Value.ref b] below meth c H locs cells slots Q (F0 m 278 L []) := by
  obtain ⟨hx, hb, hr, hml, hown, hts, hK, hlk, hxK⟩ := id X
  obtain ⟨hP, hD, hS, p0, p1, ha, row, pv, q, ad, sc, ar, n, hO, hm, hI⟩ := hW
  have hA : ∀ q : Nat, s.heap.size ≤ q → (fun q : Nat => s.heap.size ≤ q) q := fun _ h => h
  have hbA : ¬ (fun q : Nat => s.heap.size ≤ q) b := Nat.not_le.mpr hbl
  have hin1 : vp_in (nI i + 1) Ls := by rw [nI_1]; exact vp_in_nI (by omega) (by omega)
  have hin2 : vp_in (nI i + 2) Ls := by rw [show (2 : Int32) = nI 2 from rfl, nI_add]; exact vp_in_nI (by omega) (by omega)
  refine lv_aload_n hx hb dL_law_278 rfl (lv_at hl 2 rfl) ?_
  refine lv_aload_n hx hb dL_law_279 rfl (lv_at hl 3 rfl) ?_
  refine lv_iload_n hx hb dL_law_280 rfl (lv_at hl 0 rfl) ?_
  refine lv_iconst (v := 1) hx hb dL_law_281 (by decide) ?_
  refine lv_iadd hx hb dL_law_282 ?_
  refine va_sld hx hb hX hbl hbA hS hin1 dL_law_283 ?_
  refine lv_aload_n hx hb dL_law_284 rfl (lv_at hl 3 rfl) ?_
  refine lv_iload_n hx hb dL_law_285 rfl (lv_at hl 0 rfl) ?_
  refine lv_iconst (v := 2) hx hb dL_law_286 (by decide) ?_
  refine lv_iadd hx hb dL_law_287 ?_
  refine va_sld hx hb hX hbl hbA hS hin2 dL_law_288 ?_
  refine g_priv (ci := 8) (cq := (RX8, TX8, 7)) (As := [.int (xs (((nI i) + 1)).toNatClampNeg), .int (xs (((nI i) + 2)).toNatClampNeg)]) (rest := []) pwL_39 X (c_X8_mark l D cI cZ cP 3 (by decide) hO hI (xs (((nI i) + 1)).toNatClampNeg) (xs (((nI i) + 2)).toNatClampNeg)) hP hD hS hA hO.1 rfl rfl ⟨by show _ ≤ 10; omega, by show _ ≤ 344; omega⟩ rfl hl.1 rfl (Nat.le_of_ble_eq_true rfl) dL_law_289 ⟨by show _ ≤ 667234; omega, by show _ ≤ 7100547; omega⟩ (kI fun H locs hP hD hS => ?_)
  refine W.eq (g2 := F0 m 292 L [.int (mMark sc ar (xs (((nI i) + 1)).toNatClampNeg) (xs (((nI i) + 2)).toNatClampNeg))]) rfl ?_
  refine lv_aload_n hx hb dL_law_292 rfl (lv_at hl 1 rfl) ?_
  refine lv_aload_n hx hb dL_law_293 rfl (lv_at hl 3 rfl) ?_
  refine lv_iload_n hx hb dL_law_294 rfl (lv_at hl 0 rfl) ?_
  refine lv_iconst (v := 1) hx hb dL_law_295 (by decide) ?_
  refine lv_iadd hx hb dL_law_296 ?_
  refine va_sld hx hb hX hbl hbA hS hin1 dL_law_297 ?_
  refine lv_aload_n hx hb dL_law_298 rfl (lv_at hl 3 rfl) ?_
  refine lv_iload_n hx hb dL_law_299 rfl (lv_at hl 0 rfl) ?_
  refine lv_iconst (v := 2) hx hb dL_law_300 (by decide) ?_
  refine lv_iadd hx hb dL_law_301 ?_
  refine va_sld hx hb hX hbl hbA hS hin2 dL_law_302 ?_
  refine g_priv (ci := 9) (cq := (RX9, TX9, 13)) (As := [.int (xs (((nI i) + 1)).toNatClampNeg), .int (xs (((nI i) + 2)).toNatClampNeg)]) (rest := [.int (mMark sc ar (xs (((nI i) + 1)).toNatClampNeg) (xs (((nI i) + 2)).toNatClampNeg))]) pwL_42 X (c_X9_mark l D cI cZ cP 2 (by decide) hm hI.1 hI.2.1 (xs (((nI i) + 1)).toNatClampNeg) (xs (((nI i) + 2)).toNatClampNeg)) hP hD hS hA hm.1 rfl rfl ⟨by show _ ≤ 10; omega, by show _ ≤ 344; omega⟩ rfl hl.1 rfl (Nat.le_of_ble_eq_true rfl) dL_law_303 ⟨by show _ ≤ 667234; omega, by show _ ≤ 7100547; omega⟩ (kI fun H locs hP hD hS => ?_)
  refine W.eq (g2 := F0 m 306 L [.int (mMark sc ar (xs (((nI i) + 1)).toNatClampNeg) (xs (((nI i) + 2)).toNatClampNeg)), .int (mMark sc ar (xs (((nI i) + 1)).toNatClampNeg) (xs (((nI i) + 2)).toNatClampNeg))]) rfl ?_
  refine lv_icmp_eq (tgt := 469) hx hb dL_law_306 (by decide) (fun _ => ?_) (fun c9 => absurd rfl c9)
  refine W.widen (k := cells + 1) (n := slots + 5) (by omega) (by omega) ?_
  exact kk ws H locs ⟨hP, hD, hS, p0, p1, ha, row, pv, q, ad, sc, ar, n, hO, hm, hI⟩
set_option maxHeartbeats 4000000 in
set_option maxRecDepth 100000 in
theorem lw_c7 (X : Cx p m c meth s #[Value.ref b] RL code 4 rt D (vTy cI cZ cP)) (hX : va_X b Ls xs s s.heap) (hbl : b < s.heap.size) (hL : Ls ≤ 1536) (hi : i + 3 ≤ Ls) (hc1 : cells + 1 ≤ 667234) (hs1 : slots + 5 ≤ 7100547) (hl : lv_has L 4 [(3, .int (nI i)), (2, .ref h1), (1, .ref h0), (0, .ref b)]) (hW : lwI cI cZ cP D s h0 h1 ws H locs) (kk : ∀ (ws : va_W) (H : Heap) (locs : List Loc), lwI cI cZ cP D s h0 h1 ws H locs → W p l e room_1 s m #[Value.ref b] below meth c H locs (cells + 1) (slots + 5) Q (F0 m 469 L [])) : W p l e room_1 s m #[Value.ref b] below meth c H locs cells slots Q (F0 m 311 L []) := by
  obtain ⟨hx, hb, hr, hml, hown, hts, hK, hlk, hxK⟩ := id X
  obtain ⟨hP, hD, hS, p0, p1, ha, row, pv, q, ad, sc, ar, n, hO, hm, hI⟩ := hW
  have hA : ∀ q : Nat, s.heap.size ≤ q → (fun q : Nat => s.heap.size ≤ q) q := fun _ h => h
  have hbA : ¬ (fun q : Nat => s.heap.size ≤ q) b := Nat.not_le.mpr hbl
  have hin1 : vp_in (nI i + 1) Ls := by rw [nI_1]; exact vp_in_nI (by omega) (by omega)
  have hin2 : vp_in (nI i + 2) Ls := by rw [show (2 : Int32) = nI 2 from rfl, nI_add]; exact vp_in_nI (by omega) (by omega)
  refine lv_aload_n hx hb dL_law_311 rfl (lv_at hl 2 rfl) ?_
  refine lv_aload_n hx hb dL_law_312 rfl (lv_at hl 3 rfl) ?_
  refine lv_iload_n hx hb dL_law_313 rfl (lv_at hl 0 rfl) ?_
  refine lv_iconst (v := 1) hx hb dL_law_314 (by decide) ?_
  refine lv_iadd hx hb dL_law_315 ?_
  refine va_sld hx hb hX hbl hbA hS hin1 dL_law_316 ?_
  refine lv_aload_n hx hb dL_law_317 rfl (lv_at hl 3 rfl) ?_
  refine lv_iload_n hx hb dL_law_318 rfl (lv_at hl 0 rfl) ?_
  refine lv_iconst (v := 2) hx hb dL_law_319 (by decide) ?_
  refine lv_iadd hx hb dL_law_320 ?_
  refine va_sld hx hb hX hbl hbA hS hin2 dL_law_321 ?_
  refine g_priv (ci := 8) (cq := (RX8, TX8, 7)) (As := [.int (xs (((nI i) + 1)).toNatClampNeg), .int (xs (((nI i) + 2)).toNatClampNeg)]) (rest := []) pwL_43 X (c_X8_daysLeft l D cI cZ cP 2 (by decide) hO hI (xs (((nI i) + 1)).toNatClampNeg) (xs (((nI i) + 2)).toNatClampNeg)) hP hD hS hA hO.1 rfl rfl ⟨by show _ ≤ 10; omega, by show _ ≤ 344; omega⟩ rfl hl.1 rfl (Nat.le_of_ble_eq_true rfl) dL_law_322 ⟨by show _ ≤ 667234; omega, by show _ ≤ 7100547; omega⟩ (kI fun H locs hP hD hS => ?_)
  refine W.eq (g2 := F0 m 325 L [.int (mDays sc ar (xs (((nI i) + 1)).toNatClampNeg) (xs (((nI i) + 2)).toNatClampNeg))]) rfl ?_
  refine lv_aload_n hx hb dL_law_325 rfl (lv_at hl 1 rfl) ?_
  refine lv_aload_n hx hb dL_law_326 rfl (lv_at hl 3 rfl) ?_
  refine lv_iload_n hx hb dL_law_327 rfl (lv_at hl 0 rfl) ?_
  refine lv_iconst (v := 1) hx hb dL_law_328 (by decide) ?_
  refine lv_iadd hx hb dL_law_329 ?_
  refine va_sld hx hb hX hbl hbA hS hin1 dL_law_330 ?_
  refine lv_aload_n hx hb dL_law_331 rfl (lv_at hl 3 rfl) ?_
  refine lv_iload_n hx hb dL_law_332 rfl (lv_at hl 0 rfl) ?_
  refine lv_iconst (v := 2) hx hb dL_law_333 (by decide) ?_
  refine lv_iadd hx hb dL_law_334 ?_
  refine va_sld hx hb hX hbl hbA hS hin2 dL_law_335 ?_
  refine g_priv (ci := 9) (cq := (RX9, TX9, 13)) (As := [.int (xs (((nI i) + 1)).toNatClampNeg), .int (xs (((nI i) + 2)).toNatClampNeg)]) (rest := [.int (mDays sc ar (xs (((nI i) + 1)).toNatClampNeg) (xs (((nI i) + 2)).toNatClampNeg))]) pwL_46 X (c_X9_daysLeft l D cI cZ cP 2 (by decide) hm hI.1 hI.2.1 (xs (((nI i) + 1)).toNatClampNeg) (xs (((nI i) + 2)).toNatClampNeg)) hP hD hS hA hm.1 rfl rfl ⟨by show _ ≤ 10; omega, by show _ ≤ 344; omega⟩ rfl hl.1 rfl (Nat.le_of_ble_eq_true rfl) dL_law_336 ⟨by show _ ≤ 667234; omega, by show _ ≤ 7100547; omega⟩ (kI fun H locs hP hD hS => ?_)
  refine W.eq (g2 := F0 m 339 L [.int (mDays sc ar (xs (((nI i) + 1)).toNatClampNeg) (xs (((nI i) + 2)).toNatClampNeg)), .int (mDays sc ar (xs (((nI i) + 1)).toNatClampNeg) (xs (((nI i) + 2)).toNatClampNeg))]) rfl ?_
  refine lv_icmp_eq (tgt := 469) hx hb dL_law_339 (by decide) (fun _ => ?_) (fun c9 => absurd rfl c9)
  refine W.widen (k := cells + 1) (n := slots + 5) (by omega) (by omega) ?_
  exact kk ws H locs ⟨hP, hD, hS, p0, p1, ha, row, pv, q, ad, sc, ar, n, hO, hm, hI⟩
set_option maxHeartbeats 4000000 in
set_option maxRecDepth 100000 in
theorem lw_c8 (X : Cx p m c meth s #[Value.ref b] RL code 4 rt D (vTy cI cZ cP)) (hX : va_X b Ls xs s s.heap) (hbl : b < s.heap.size) (hL : Ls ≤ 1536) (hi : i + 3 ≤ Ls) (hc1 : cells + 1 ≤ 667234) (hs1 : slots + 5 ≤ 7100547) (hl : lv_has L 4 [(3, .int (nI i)), (2, .ref h1), (1, .ref h0), (0, .ref b)]) (hW : lwI cI cZ cP D s h0 h1 ws H locs) (kk : ∀ (ws : va_W) (H : Heap) (locs : List Loc), lwI cI cZ cP D s h0 h1 ws H locs → W p l e room_1 s m #[Value.ref b] below meth c H locs (cells + 1) (slots + 5) Q (F0 m 469 L [])) : W p l e room_1 s m #[Value.ref b] below meth c H locs cells slots Q (F0 m 344 L []) := by
  obtain ⟨hx, hb, hr, hml, hown, hts, hK, hlk, hxK⟩ := id X
  obtain ⟨hP, hD, hS, p0, p1, ha, row, pv, q, ad, sc, ar, n, hO, hm, hI⟩ := hW
  have hA : ∀ q : Nat, s.heap.size ≤ q → (fun q : Nat => s.heap.size ≤ q) q := fun _ h => h
  have hbA : ¬ (fun q : Nat => s.heap.size ≤ q) b := Nat.not_le.mpr hbl
  have hin1 : vp_in (nI i + 1) Ls := by rw [nI_1]; exact vp_in_nI (by omega) (by omega)
  have hin2 : vp_in (nI i + 2) Ls := by rw [show (2 : Int32) = nI 2 from rfl, nI_add]; exact vp_in_nI (by omega) (by omega)
  refine lv_aload_n hx hb dL_law_344 rfl (lv_at hl 2 rfl) ?_
  refine g_priv (ci := 8) (cq := (RX8, TX8, 7)) (As := []) (rest := []) pwL_47 X (c_X8_lapse l D cI cZ cP 2 (by decide) hO hI) hP hD hS hA hO.1 rfl rfl ⟨by show _ ≤ 10; omega, by show _ ≤ 344; omega⟩ rfl hl.1 rfl (Nat.le_of_ble_eq_true rfl) dL_law_345 ⟨by show _ ≤ 667234; omega, by show _ ≤ 7100547; omega⟩ (fun v9 ws9 H locs hq hP hD hS => ?_)
  obtain ⟨ev9, ⟨p0, p1, ha, n9, row, pv, hO9, hn9, h409⟩, hfr⟩ := hq
  subst ev9
  have hm := mo_at_fr hm hfr
  refine W.eq (g2 := F0 m 348 L [.int (mLapse sc ar).1]) rfl ?_
  refine lv_aload_n hx hb dL_law_348 rfl (lv_at hl 1 rfl) ?_
  refine g_priv (ci := 9) (cq := (RX9, TX9, 13)) (As := []) (rest := [.int (mLapse sc ar).1]) pwL_51 X (c_X9_lapse l D cI cZ cP 1 (by decide) hm hI.1 hI.2.1) hP hD hS hA hm.1 rfl rfl ⟨by show _ ≤ 10; omega, by show _ ≤ 344; omega⟩ rfl hl.1 rfl (Nat.le_of_ble_eq_true rfl) dL_law_349 ⟨by show _ ≤ 667234; omega, by show _ ≤ 7100547; omega⟩ (fun v9 ws9 H locs hq hP hD hS => ?_)
  obtain ⟨ev8, hm8, hfr8⟩ := hq
  subst ev8
  have hO8 := of_at_fr hO9 hfr8
  refine W.eq (g2 := F0 m 352 L [.int (mLapse sc ar).1, .int (mLapse sc ar).1]) rfl ?_
  refine lv_icmp_eq (tgt := 469) hx hb dL_law_352 (by decide) (fun _ => ?_) (fun c9 => absurd rfl c9)
  refine W.widen (k := cells + 1) (n := slots + 5) (by omega) (by omega) ?_
  have hI7 := inv_lapse hI 
  have en := n_one hI7.1 hn9 hI7.2.1 h409
  subst en
  exact kk _ H locs ⟨hP, hD, hS, p0, p1, ha, row, pv, q, ad, _, _, n, hO8, hm8, hI7⟩
set_option maxHeartbeats 4000000 in
set_option maxRecDepth 100000 in
theorem lw_c9 (X : Cx p m c meth s #[Value.ref b] RL code 4 rt D (vTy cI cZ cP)) (hX : va_X b Ls xs s s.heap) (hbl : b < s.heap.size) (hL : Ls ≤ 1536) (hi : i + 3 ≤ Ls) (hc1 : cells + 1 ≤ 667234) (hs1 : slots + 5 ≤ 7100547) (hl : lv_has L 4 [(3, .int (nI i)), (2, .ref h1), (1, .ref h0), (0, .ref b)]) (hW : lwI cI cZ cP D s h0 h1 ws H locs) (kk : ∀ (ws : va_W) (H : Heap) (locs : List Loc), lwI cI cZ cP D s h0 h1 ws H locs → W p l e room_1 s m #[Value.ref b] below meth c H locs (cells + 1) (slots + 5) Q (F0 m 469 L [])) : W p l e room_1 s m #[Value.ref b] below meth c H locs cells slots Q (F0 m 357 L []) := by
  obtain ⟨hx, hb, hr, hml, hown, hts, hK, hlk, hxK⟩ := id X
  obtain ⟨hP, hD, hS, p0, p1, ha, row, pv, q, ad, sc, ar, n, hO, hm, hI⟩ := hW
  have hA : ∀ q : Nat, s.heap.size ≤ q → (fun q : Nat => s.heap.size ≤ q) q := fun _ h => h
  have hbA : ¬ (fun q : Nat => s.heap.size ≤ q) b := Nat.not_le.mpr hbl
  have hin1 : vp_in (nI i + 1) Ls := by rw [nI_1]; exact vp_in_nI (by omega) (by omega)
  have hin2 : vp_in (nI i + 2) Ls := by rw [show (2 : Int32) = nI 2 from rfl, nI_add]; exact vp_in_nI (by omega) (by omega)
  refine lv_aload_n hx hb dL_law_357 rfl (lv_at hl 2 rfl) ?_
  refine lv_aload_n hx hb dL_law_358 rfl (lv_at hl 3 rfl) ?_
  refine lv_iload_n hx hb dL_law_359 rfl (lv_at hl 0 rfl) ?_
  refine lv_iconst (v := 1) hx hb dL_law_360 (by decide) ?_
  refine lv_iadd hx hb dL_law_361 ?_
  refine va_sld hx hb hX hbl hbA hS hin1 dL_law_362 ?_
  refine lv_aload_n hx hb dL_law_363 rfl (lv_at hl 3 rfl) ?_
  refine lv_iload_n hx hb dL_law_364 rfl (lv_at hl 0 rfl) ?_
  refine lv_iconst (v := 2) hx hb dL_law_365 (by decide) ?_
  refine lv_iadd hx hb dL_law_366 ?_
  refine va_sld hx hb hX hbl hbA hS hin2 dL_law_367 ?_
  refine g_priv (ci := 8) (cq := (RX8, TX8, 7)) (As := [.int (xs (((nI i) + 1)).toNatClampNeg), .int (xs (((nI i) + 2)).toNatClampNeg)]) (rest := []) pwL_52 X (c_X8_merge l D cI cZ cP 2 (by decide) hO hI (xs (((nI i) + 1)).toNatClampNeg) (xs (((nI i) + 2)).toNatClampNeg)) hP hD hS hA hO.1 rfl rfl ⟨by show _ ≤ 10; omega, by show _ ≤ 344; omega⟩ rfl hl.1 rfl (Nat.le_of_ble_eq_true rfl) dL_law_368 ⟨by show _ ≤ 667234; omega, by show _ ≤ 7100547; omega⟩ (fun v9 ws9 H locs hq hP hD hS => ?_)
  obtain ⟨ev9, ⟨p0, p1, ha, n9, row, pv, hO9, hn9, h409⟩, hfr⟩ := hq
  subst ev9
  have hm := mo_at_fr hm hfr
  refine W.eq (g2 := F0 m 371 L [.int (mMerge sc ar (xs (((nI i) + 1)).toNatClampNeg) (xs (((nI i) + 2)).toNatClampNeg)).1]) rfl ?_
  refine lv_aload_n hx hb dL_law_371 rfl (lv_at hl 1 rfl) ?_
  refine lv_aload_n hx hb dL_law_372 rfl (lv_at hl 3 rfl) ?_
  refine lv_iload_n hx hb dL_law_373 rfl (lv_at hl 0 rfl) ?_
  refine lv_iconst (v := 1) hx hb dL_law_374 (by decide) ?_
  refine lv_iadd hx hb dL_law_375 ?_
  refine va_sld hx hb hX hbl hbA hS hin1 dL_law_376 ?_
  refine lv_aload_n hx hb dL_law_377 rfl (lv_at hl 3 rfl) ?_
  refine lv_iload_n hx hb dL_law_378 rfl (lv_at hl 0 rfl) ?_
  refine lv_iconst (v := 2) hx hb dL_law_379 (by decide) ?_
  refine lv_iadd hx hb dL_law_380 ?_
  refine va_sld hx hb hX hbl hbA hS hin2 dL_law_381 ?_
  refine g_priv (ci := 9) (cq := (RX9, TX9, 13)) (As := [.int (xs (((nI i) + 1)).toNatClampNeg), .int (xs (((nI i) + 2)).toNatClampNeg)]) (rest := [.int (mMerge sc ar (xs (((nI i) + 1)).toNatClampNeg) (xs (((nI i) + 2)).toNatClampNeg)).1]) pwL_55 X (c_X9_merge l D cI cZ cP 2 (by decide) hm hI.1 hI.2.1 (xs (((nI i) + 1)).toNatClampNeg) (xs (((nI i) + 2)).toNatClampNeg)) hP hD hS hA hm.1 rfl rfl ⟨by show _ ≤ 10; omega, by show _ ≤ 344; omega⟩ rfl hl.1 rfl (Nat.le_of_ble_eq_true rfl) dL_law_382 ⟨by show _ ≤ 667234; omega, by show _ ≤ 7100547; omega⟩ (fun v9 ws9 H locs hq hP hD hS => ?_)
  obtain ⟨ev8, hm8, hfr8⟩ := hq
  subst ev8
  have hO8 := of_at_fr hO9 hfr8
  refine W.eq (g2 := F0 m 385 L [.int (mMerge sc ar (xs (((nI i) + 1)).toNatClampNeg) (xs (((nI i) + 2)).toNatClampNeg)).1, .int (mMerge sc ar (xs (((nI i) + 1)).toNatClampNeg) (xs (((nI i) + 2)).toNatClampNeg)).1]) rfl ?_
  refine lv_icmp_eq (tgt := 469) hx hb dL_law_385 (by decide) (fun _ => ?_) (fun c9 => absurd rfl c9)
  refine W.widen (k := cells + 1) (n := slots + 5) (by omega) (by omega) ?_
  have hI7 := inv_merge hI (xs (((nI i) + 1)).toNatClampNeg) (xs (((nI i) + 2)).toNatClampNeg)
  have en := n_one hI7.1 hn9 hI7.2.1 h409
  subst en
  exact kk _ H locs ⟨hP, hD, hS, p0, p1, ha, row, pv, q, ad, _, _, n, hO8, hm8, hI7⟩
set_option maxHeartbeats 4000000 in
set_option maxRecDepth 100000 in
theorem lw_c10 (X : Cx p m c meth s #[Value.ref b] RL code 4 rt D (vTy cI cZ cP)) (hX : va_X b Ls xs s s.heap) (hbl : b < s.heap.size) (hL : Ls ≤ 1536) (hi : i + 3 ≤ Ls) (hc1 : cells + 1 ≤ 667234) (hs1 : slots + 5 ≤ 7100547) (hl : lv_has L 4 [(3, .int (nI i)), (2, .ref h1), (1, .ref h0), (0, .ref b)]) (hW : lwI cI cZ cP D s h0 h1 ws H locs) (kk : ∀ (ws : va_W) (H : Heap) (locs : List Loc), lwI cI cZ cP D s h0 h1 ws H locs → W p l e room_1 s m #[Value.ref b] below meth c H locs (cells + 1) (slots + 5) Q (F0 m 469 L [])) : W p l e room_1 s m #[Value.ref b] below meth c H locs cells slots Q (F0 m 390 L []) := by
  obtain ⟨hx, hb, hr, hml, hown, hts, hK, hlk, hxK⟩ := id X
  obtain ⟨hP, hD, hS, p0, p1, ha, row, pv, q, ad, sc, ar, n, hO, hm, hI⟩ := hW
  have hA : ∀ q : Nat, s.heap.size ≤ q → (fun q : Nat => s.heap.size ≤ q) q := fun _ h => h
  have hbA : ¬ (fun q : Nat => s.heap.size ≤ q) b := Nat.not_le.mpr hbl
  have hin1 : vp_in (nI i + 1) Ls := by rw [nI_1]; exact vp_in_nI (by omega) (by omega)
  have hin2 : vp_in (nI i + 2) Ls := by rw [show (2 : Int32) = nI 2 from rfl, nI_add]; exact vp_in_nI (by omega) (by omega)
  refine lv_aload_n hx hb dL_law_390 rfl (lv_at hl 2 rfl) ?_
  refine lv_aload_n hx hb dL_law_391 rfl (lv_at hl 3 rfl) ?_
  refine lv_iload_n hx hb dL_law_392 rfl (lv_at hl 0 rfl) ?_
  refine lv_iconst (v := 1) hx hb dL_law_393 (by decide) ?_
  refine lv_iadd hx hb dL_law_394 ?_
  refine va_sld hx hb hX hbl hbA hS hin1 dL_law_395 ?_
  refine g_priv (ci := 8) (cq := (RX8, TX8, 7)) (As := [.int (xs (((nI i) + 1)).toNatClampNeg)]) (rest := []) pwL_56 X (c_X8_total l D cI cZ cP 4 (by decide) hO hI (xs (((nI i) + 1)).toNatClampNeg)) hP hD hS hA hO.1 rfl rfl ⟨by show _ ≤ 10; omega, by show _ ≤ 344; omega⟩ rfl hl.1 rfl (Nat.le_of_ble_eq_true rfl) dL_law_396 ⟨by show _ ≤ 667234; omega, by show _ ≤ 7100547; omega⟩ (kI fun H locs hP hD hS => ?_)
  refine W.eq (g2 := F0 m 399 L [.int (mTotal sc ar (xs (((nI i) + 1)).toNatClampNeg))]) rfl ?_
  refine lv_aload_n hx hb dL_law_399 rfl (lv_at hl 1 rfl) ?_
  refine lv_aload_n hx hb dL_law_400 rfl (lv_at hl 3 rfl) ?_
  refine lv_iload_n hx hb dL_law_401 rfl (lv_at hl 0 rfl) ?_
  refine lv_iconst (v := 1) hx hb dL_law_402 (by decide) ?_
  refine lv_iadd hx hb dL_law_403 ?_
  refine va_sld hx hb hX hbl hbA hS hin1 dL_law_404 ?_
  refine g_priv (ci := 9) (cq := (RX9, TX9, 13)) (As := [.int (xs (((nI i) + 1)).toNatClampNeg)]) (rest := [.int (mTotal sc ar (xs (((nI i) + 1)).toNatClampNeg))]) pwL_59 X (c_X9_total l D cI cZ cP 2 (by decide) hm hI.1 hI.2.1 (xs (((nI i) + 1)).toNatClampNeg)) hP hD hS hA hm.1 rfl rfl ⟨by show _ ≤ 10; omega, by show _ ≤ 344; omega⟩ rfl hl.1 rfl (Nat.le_of_ble_eq_true rfl) dL_law_405 ⟨by show _ ≤ 667234; omega, by show _ ≤ 7100547; omega⟩ (kI fun H locs hP hD hS => ?_)
  refine W.eq (g2 := F0 m 408 L [.int (mTotal sc ar (xs (((nI i) + 1)).toNatClampNeg)), .int (mTotal sc ar (xs (((nI i) + 1)).toNatClampNeg))]) rfl ?_
  refine lv_icmp_eq (tgt := 469) hx hb dL_law_408 (by decide) (fun _ => ?_) (fun c9 => absurd rfl c9)
  refine W.widen (k := cells + 1) (n := slots + 5) (by omega) (by omega) ?_
  exact kk ws H locs ⟨hP, hD, hS, p0, p1, ha, row, pv, q, ad, sc, ar, n, hO, hm, hI⟩
set_option maxHeartbeats 4000000 in
set_option maxRecDepth 100000 in
theorem lw_c11 (X : Cx p m c meth s #[Value.ref b] RL code 4 rt D (vTy cI cZ cP)) (hX : va_X b Ls xs s s.heap) (hbl : b < s.heap.size) (hL : Ls ≤ 1536) (hi : i + 3 ≤ Ls) (hc1 : cells + 1 ≤ 667234) (hs1 : slots + 5 ≤ 7100547) (hl : lv_has L 4 [(3, .int (nI i)), (2, .ref h1), (1, .ref h0), (0, .ref b)]) (hW : lwI cI cZ cP D s h0 h1 ws H locs) (kk : ∀ (ws : va_W) (H : Heap) (locs : List Loc), lwI cI cZ cP D s h0 h1 ws H locs → W p l e room_1 s m #[Value.ref b] below meth c H locs (cells + 1) (slots + 5) Q (F0 m 469 L [])) : W p l e room_1 s m #[Value.ref b] below meth c H locs cells slots Q (F0 m 413 L []) := by
  obtain ⟨hx, hb, hr, hml, hown, hts, hK, hlk, hxK⟩ := id X
  obtain ⟨hP, hD, hS, p0, p1, ha, row, pv, q, ad, sc, ar, n, hO, hm, hI⟩ := hW
  have hA : ∀ q : Nat, s.heap.size ≤ q → (fun q : Nat => s.heap.size ≤ q) q := fun _ h => h
  have hbA : ¬ (fun q : Nat => s.heap.size ≤ q) b := Nat.not_le.mpr hbl
  have hin1 : vp_in (nI i + 1) Ls := by rw [nI_1]; exact vp_in_nI (by omega) (by omega)
  have hin2 : vp_in (nI i + 2) Ls := by rw [show (2 : Int32) = nI 2 from rfl, nI_add]; exact vp_in_nI (by omega) (by omega)
  refine lv_aload_n hx hb dL_law_413 rfl (lv_at hl 2 rfl) ?_
  refine lv_aload_n hx hb dL_law_414 rfl (lv_at hl 3 rfl) ?_
  refine lv_iload_n hx hb dL_law_415 rfl (lv_at hl 0 rfl) ?_
  refine lv_iconst (v := 1) hx hb dL_law_416 (by decide) ?_
  refine lv_iadd hx hb dL_law_417 ?_
  refine va_sld hx hb hX hbl hbA hS hin1 dL_law_418 ?_
  refine lv_aload_n hx hb dL_law_419 rfl (lv_at hl 3 rfl) ?_
  refine lv_iload_n hx hb dL_law_420 rfl (lv_at hl 0 rfl) ?_
  refine lv_iconst (v := 2) hx hb dL_law_421 (by decide) ?_
  refine lv_iadd hx hb dL_law_422 ?_
  refine va_sld hx hb hX hbl hbA hS hin2 dL_law_423 ?_
  refine g_priv (ci := 8) (cq := (RX8, TX8, 7)) (As := [.int (xs (((nI i) + 1)).toNatClampNeg), .int (xs (((nI i) + 2)).toNatClampNeg)]) (rest := []) pwL_60 X (c_X8_paper l D cI cZ cP 2 (by decide) hO hI (xs (((nI i) + 1)).toNatClampNeg) (xs (((nI i) + 2)).toNatClampNeg)) hP hD hS hA hO.1 rfl rfl ⟨by show _ ≤ 10; omega, by show _ ≤ 344; omega⟩ rfl hl.1 rfl (Nat.le_of_ble_eq_true rfl) dL_law_424 ⟨by show _ ≤ 667234; omega, by show _ ≤ 7100547; omega⟩ (kI fun H locs hP hD hS => ?_)
  refine W.eq (g2 := F0 m 427 L [.int (mPaper sc ar (xs (((nI i) + 1)).toNatClampNeg) (xs (((nI i) + 2)).toNatClampNeg))]) rfl ?_
  refine lv_aload_n hx hb dL_law_427 rfl (lv_at hl 1 rfl) ?_
  refine lv_aload_n hx hb dL_law_428 rfl (lv_at hl 3 rfl) ?_
  refine lv_iload_n hx hb dL_law_429 rfl (lv_at hl 0 rfl) ?_
  refine lv_iconst (v := 1) hx hb dL_law_430 (by decide) ?_
  refine lv_iadd hx hb dL_law_431 ?_
  refine va_sld hx hb hX hbl hbA hS hin1 dL_law_432 ?_
  refine lv_aload_n hx hb dL_law_433 rfl (lv_at hl 3 rfl) ?_
  refine lv_iload_n hx hb dL_law_434 rfl (lv_at hl 0 rfl) ?_
  refine lv_iconst (v := 2) hx hb dL_law_435 (by decide) ?_
  refine lv_iadd hx hb dL_law_436 ?_
  refine va_sld hx hb hX hbl hbA hS hin2 dL_law_437 ?_
  refine g_priv (ci := 9) (cq := (RX9, TX9, 13)) (As := [.int (xs (((nI i) + 1)).toNatClampNeg), .int (xs (((nI i) + 2)).toNatClampNeg)]) (rest := [.int (mPaper sc ar (xs (((nI i) + 1)).toNatClampNeg) (xs (((nI i) + 2)).toNatClampNeg))]) pwL_63 X (c_X9_paper l D cI cZ cP 2 (by decide) hm hI.1 hI.2.1 (xs (((nI i) + 1)).toNatClampNeg) (xs (((nI i) + 2)).toNatClampNeg)) hP hD hS hA hm.1 rfl rfl ⟨by show _ ≤ 10; omega, by show _ ≤ 344; omega⟩ rfl hl.1 rfl (Nat.le_of_ble_eq_true rfl) dL_law_438 ⟨by show _ ≤ 667234; omega, by show _ ≤ 7100547; omega⟩ (kI fun H locs hP hD hS => ?_)
  refine W.eq (g2 := F0 m 441 L [.int (mPaper sc ar (xs (((nI i) + 1)).toNatClampNeg) (xs (((nI i) + 2)).toNatClampNeg)), .int (mPaper sc ar (xs (((nI i) + 1)).toNatClampNeg) (xs (((nI i) + 2)).toNatClampNeg))]) rfl ?_
  refine lv_icmp_eq (tgt := 469) hx hb dL_law_441 (by decide) (fun _ => ?_) (fun c9 => absurd rfl c9)
  refine W.widen (k := cells + 1) (n := slots + 5) (by omega) (by omega) ?_
  exact kk ws H locs ⟨hP, hD, hS, p0, p1, ha, row, pv, q, ad, sc, ar, n, hO, hm, hI⟩
set_option maxHeartbeats 4000000 in
set_option maxRecDepth 100000 in
theorem lw_c12 (X : Cx p m c meth s #[Value.ref b] RL code 4 rt D (vTy cI cZ cP)) (hX : va_X b Ls xs s s.heap) (hbl : b < s.heap.size) (hL : Ls ≤ 1536) (hi : i + 3 ≤ Ls) (hc1 : cells + 1 ≤ 667234) (hs1 : slots + 5 ≤ 7100547) (hl : lv_has L 4 [(3, .int (nI i)), (2, .ref h1), (1, .ref h0), (0, .ref b)]) (hW : lwI cI cZ cP D s h0 h1 ws H locs) (kk : ∀ (ws : va_W) (H : Heap) (locs : List Loc), lwI cI cZ cP D s h0 h1 ws H locs → W p l e room_1 s m #[Value.ref b] below meth c H locs (cells + 1) (slots + 5) Q (F0 m 469 L [])) : W p l e room_1 s m #[Value.ref b] below meth c H locs cells slots Q (F0 m 446 L []) := by
  obtain ⟨hx, hb, hr, hml, hown, hts, hK, hlk, hxK⟩ := id X
  obtain ⟨hP, hD, hS, p0, p1, ha, row, pv, q, ad, sc, ar, n, hO, hm, hI⟩ := hW
  have hA : ∀ q : Nat, s.heap.size ≤ q → (fun q : Nat => s.heap.size ≤ q) q := fun _ h => h
  have hbA : ¬ (fun q : Nat => s.heap.size ≤ q) b := Nat.not_le.mpr hbl
  have hin1 : vp_in (nI i + 1) Ls := by rw [nI_1]; exact vp_in_nI (by omega) (by omega)
  have hin2 : vp_in (nI i + 2) Ls := by rw [show (2 : Int32) = nI 2 from rfl, nI_add]; exact vp_in_nI (by omega) (by omega)
  refine lv_aload_n hx hb dL_law_446 rfl (lv_at hl 2 rfl) ?_
  refine lv_aload_n hx hb dL_law_447 rfl (lv_at hl 3 rfl) ?_
  refine lv_iload_n hx hb dL_law_448 rfl (lv_at hl 0 rfl) ?_
  refine lv_iconst (v := 1) hx hb dL_law_449 (by decide) ?_
  refine lv_iadd hx hb dL_law_450 ?_
  refine va_sld hx hb hX hbl hbA hS hin1 dL_law_451 ?_
  refine g_priv (ci := 8) (cq := (RX8, TX8, 7)) (As := [.int (xs (((nI i) + 1)).toNatClampNeg)]) (rest := []) pwL_64 X (c_X8_count l D cI cZ cP 3 (by decide) hO hI (xs (((nI i) + 1)).toNatClampNeg)) hP hD hS hA hO.1 rfl rfl ⟨by show _ ≤ 10; omega, by show _ ≤ 344; omega⟩ rfl hl.1 rfl (Nat.le_of_ble_eq_true rfl) dL_law_452 ⟨by show _ ≤ 667234; omega, by show _ ≤ 7100547; omega⟩ (kI fun H locs hP hD hS => ?_)
  refine W.eq (g2 := F0 m 455 L [.int (mCount sc ar (xs (((nI i) + 1)).toNatClampNeg))]) rfl ?_
  refine lv_aload_n hx hb dL_law_455 rfl (lv_at hl 1 rfl) ?_
  refine lv_aload_n hx hb dL_law_456 rfl (lv_at hl 3 rfl) ?_
  refine lv_iload_n hx hb dL_law_457 rfl (lv_at hl 0 rfl) ?_
  refine lv_iconst (v := 1) hx hb dL_law_458 (by decide) ?_
  refine lv_iadd hx hb dL_law_459 ?_
  refine va_sld hx hb hX hbl hbA hS hin1 dL_law_460 ?_
  refine g_priv (ci := 9) (cq := (RX9, TX9, 13)) (As := [.int (xs (((nI i) + 1)).toNatClampNeg)]) (rest := [.int (mCount sc ar (xs (((nI i) + 1)).toNatClampNeg))]) pwL_67 X (c_X9_count l D cI cZ cP 2 (by decide) hm hI.1 hI.2.1 (xs (((nI i) + 1)).toNatClampNeg)) hP hD hS hA hm.1 rfl rfl ⟨by show _ ≤ 10; omega, by show _ ≤ 344; omega⟩ rfl hl.1 rfl (Nat.le_of_ble_eq_true rfl) dL_law_461 ⟨by show _ ≤ 667234; omega, by show _ ≤ 7100547; omega⟩ (kI fun H locs hP hD hS => ?_)
  refine W.eq (g2 := F0 m 464 L [.int (mCount sc ar (xs (((nI i) + 1)).toNatClampNeg)), .int (mCount sc ar (xs (((nI i) + 1)).toNatClampNeg))]) rfl ?_
  refine lv_icmp_eq (tgt := 469) hx hb dL_law_464 (by decide) (fun _ => ?_) (fun c9 => absurd rfl c9)
  refine W.widen (k := cells + 1) (n := slots + 5) (by omega) (by omega) ?_
  exact kk ws H locs ⟨hP, hD, hS, p0, p1, ha, row, pv, q, ad, sc, ar, n, hO, hm, hI⟩
end LC
