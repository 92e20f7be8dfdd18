/-! THE TWO METHODS THAT THROW: enact, tick -/
abbrev IAE : String := "java/lang/IllegalArgumentException"
abbrev ISE : String := "java/lang/IllegalStateException"
abbrev NM : List String := ["java/lang/RuntimeException", "java/lang/Exception"]
def FW : List Cond := [.declares (Bundle.initS "java/lang/RuntimeException"), .declares (Bundle.initS "java/lang/Exception"), .declares (Bundle.initS "java/lang/Throwable"), .castable "java/lang/IllegalArgumentException" "java/lang/IllegalArgumentException", .castable "java/lang/IllegalStateException" "java/lang/IllegalStateException"]
theorem FW_ok : ∀ w ∈ FW, w.faceAtom = true ∧ w.onTables = true := by decide +kernel
def xT (U : State) : Prop := (∃ a, vk_R RX8 50 "no such crossing" a U) ∧ (∃ a, vk_R RX8 61 "the table is wrong" a U) ∧ (∃ a, vk_R RX8 138 "n is not 0 .. 20" a U) ∧ ∀ w ∈ FW, va_Nw w U
def xZ (A : Nat → Prop) (U : State) (H : Heap) : Prop := vx_Zq Bundle.tN "UNASSIGNED_STACK" Bundle.steD A U H ∧ vx_Zq Bundle.tN "SUPPRESSED_SENTINEL" Bundle.listD A U H
theorem xT_warm {s U : State} (hW : s.WarmedH U.vm) (h : xT s) : xT U := by
  obtain ⟨⟨a1, h1⟩, ⟨a2, h2⟩, ⟨a3, h3⟩, h4⟩ := h
  exact ⟨⟨a1, vk_R.warm hW h1⟩, ⟨a2, vk_R.warm hW h2⟩, ⟨a3, vk_R.warm hW h3⟩, fun w hw => fw_mv (FW_ok w hw).1 (FW_ok w hw).2 hW.alike (h4 w hw)⟩
theorem xT_same {u U : State} (hv : U.vm = u.vm) (h : xT u) : xT U := by
  obtain ⟨⟨a1, h1⟩, ⟨a2, h2⟩, ⟨a3, h3⟩, h4⟩ := h
  exact ⟨⟨a1, vk_R.same hv h1⟩, ⟨a2, vk_R.same hv h2⟩, ⟨a3, vk_R.same hv h3⟩, fun w hw => va_tabs (FW_ok w hw).2 hv.symm (h4 w hw)⟩
theorem xZ_mv {A : Nat → Prop} {u U : State} {H : Heap} (hvm : u.vm.Alike U.vm) (h : xZ A u H) : xZ A U H := ⟨vx_Zq.moved hvm h.1, vx_Zq.moved hvm h.2⟩
theorem xZ_kept {A : Nat → Prop} {U : State} {H H1 : Heap} (h : xZ A U H) (hq : ∀ a : Nat, a < H.size → ¬ A a → H1[a]? = H[a]?) : xZ A U H1 := ⟨vx_Zq.kept h.1 hq, vx_Zq.kept h.2 hq⟩
theorem xZ_narrow {A B : Nat → Prop} {U : State} {H : Heap} (h : xZ A U H) (hAB : ∀ q, B q → A q) : xZ B U H := ⟨vx_Zq.narrow h.1 hAB, vx_Zq.narrow h.2 hAB⟩
/-- what a method owes that answers r1 (ex = none), or throws ex; memory K1 behind it -/
def xP (E : jE) (As : List Value) (K : Mem) (sz : Nat) : Array Value → State → Prop := fun a U => jP E As K sz a U ∧ xT U ∧ xZ (E.2.2.2.1 sz) U U.heap
def cX (E : jE) (y : MethodName) (ws : List Cond) (rm : Room) (As : List Value) (K : Mem) (ex : Option String) (r1 : Int32) (K1 : Mem) : Prop := ∀ sz, vx_Met E.1 y ws rm (xP E As K sz) (va_Qi (fun r u => (ex = none ∧ r = r1) ∧ u = K1) (jB E sz) (E.2.2.2.1 sz)) (vx_X (fun u : Mem => u = K1) (fun En u t => ex = some En ∧ jB E sz u t) (E.2.2.2.1 sz)) 1 6 (E.2.2.2.1 sz)
theorem xP_blind {E : jE} (hO : jOK E) {As : List Value} {K : Mem} {sz : Nat} : FrameBlind (xP E As K sz) := fun a U g mk q => ⟨jP_blind hO a U g mk q.1, xT_same (u := U) (U := U.calling g mk a) rfl q.2.1, xZ_mv (U := U.calling g mk a) (Vm.Alike.refl U.vm) q.2.2⟩
section EntX
variable {E : jE} {y : MethodName} {ws ws' : List Cond} {rm : Room} {As : List Value} {maxL : Nat} {K K1 : Mem} {cc : ByteArray}
theorem j_entX (hO : jOK E) (hlt : E.1.stackTraces = false) {ex : Option String} {r1 : Int32} (hrm : 6 ≤ rm.frames ∧ 82 ≤ rm.locals ∧ rm.cells = 1 ∧ rm.slots = 6) (hy : plainName y.cls = true) (hw : ws = Cond.code y cc maxL (some .int) :: ws') (hlen : (lg_sl As).length ≤ maxL)
    (body : ∀ G : jG, jC E G cc y.cls ws rm maxL → (∀ (pc : Nat) (lv : List (Nat × Value)), decode cc pc = .ok (.ireturn, 1) → ex = none → jW E G K1 pc lv [.int r1]) →
      (∀ (pc : Nat) (lv : List (Nat × Value)) (cls text : String) (ik is ic : Nat), ex = some cls → Bundle.fit cls = true → (∀ U, xT U → ∃ a, vk_R y.cls is text a U) → Cond.classLink y.cls ik cls ∈ ws → Cond.initialized cls ∈ ws → (∀ w ∈ (vx_atS y.cls ic cls NM).filter goodWord, w ∈ ws) → (∀ w ∈ (vx_atS y.cls ic cls NM).filter (fun w => !goodWord w), w ∈ FW) → (∀ w ∈ Cond.classLink y.cls ik cls :: Cond.initialized cls :: vx_atS y.cls ic cls NM, vx_ot w = true) → decode cc pc = .ok (.new ik, 3) → decode cc (pc + 3) = .ok (.dup, 1) → decode cc (pc + 4) = .ok (.ldc is, 2) → decode cc (pc + 6) = .ok (.invokespecial ic, 3) → decode cc (pc + 9) = .ok (.athrow, 1) → jW E G K1 pc lv []) →
      jW E G K 0 (lv_args 0 As) []) : cX E y ws rm As K ex r1 K1 := by
  obtain ⟨l, D, w, AA, tys, NW⟩ := E
  intro sz
  refine vx_ofW (cc := cc) (maxL := maxL) (ret := some .int) hy hw ?_
  intro p e s m args below meth c s₁ B hml hexT hv
  obtain ⟨⟨rfl, hsz, hP, hK, hD, hN⟩, hT, hZ⟩ := hv
  subst hsz
  have hx := B.exec
  have hb := B.bytes
  have hr := B.returns
  have hts := atoms_spec (ws := ws) B.pre
  have hown : s.vm.findClass y.cls = some m.cls := findClass_of_methodNamed B.named
  have hlocks := B.notSynchronized
  have hl := lv_entry As (n := maxL) hlen
  rw [lg_entry_eq]
  refine body (p, e, rm, s, m, As.toArray, below, meth, c, maxL, vx_MQ below (va_Qi (fun r u => (ex = none ∧ r = r1) ∧ u = K1) (jB (l, D, w, AA, tys, NW) s.heap.size) (AA s.heap.size)) (vx_X (fun u : Mem => u = K1) (fun En u t => ex = some En ∧ jB (l, D, w, AA, tys, NW) s.heap.size u t) (AA s.heap.size)) As.toArray s 1 6 (AA s.heap.size)) ⟨⟨hx, hb, hml, hown, hts⟩, hK, hN, rfl, rfl, hO⟩ ?_ ?_ s.heap [] _ hP hD va_S.rf hl
  · intro pc lv hd hex H locs ls hP hD hS hl
    exact vx_ret (W.widen (Nat.zero_le 1) (Nat.zero_le 6) (W.iret hx hb hr (fun t ht hW => ⟨⟨r1, K1, rfl, ⟨⟨hex, rfl⟩, rfl⟩, by rw [ht]; exact hP, hD⟩, hS.F ht⟩) hS.2.2 hd))
  · intro pc lv cls text ik is ic hex hfit hstr hc1 hc2 hc3 hng hot d0 d3 d4 d6 d9 H locs ls hP hD hS hl
    obtain ⟨sa, hsa⟩ := hstr s hT
    refine vx_throwS (names := NM) (sa := sa) (A := AA s.heap.size) (text := text) hx hb hlt hown hfit (by decide) (hts _ hc1) (hts _ hc2) hsa (vx_hat (B := FW) (fun w h => hts w (hc3 w h)) hng (fun w h => va_tabs (FW_ok w h).2 rfl (hT.2.2.2 w h))) hot hZ.1 hZ.2 hS (hl.1.trans hml.symm) d0 d3 d4 d6 d9 (fun x hx9 => absurd (hexT x hx9) id) ?_ ?_ ?_ ?_ hlocks (fun t hal hz hkp => ⟨K1, rfl, ⟨hex, hP.kept (fun k q hk => hkp _ (vx_lt hP hk)), hD⟩, Nat.le_trans hS.1 hz, fun q h1 h2 => by rw [hkp q (Nat.lt_of_lt_of_le h1 hS.1)]; exact hS.2.1 q h1 h2⟩) hS.2.2 (Nat.le_refl 1) (Nat.le_refl 6)
    · show 2 + 3 < rm.frames
      omega
    · show 0 + (13 * (2 + 1) + 43) ≤ rm.locals
      omega
    · show 0 + 1 ≤ rm.cells
      omega
    · show 0 + 6 ≤ rm.slots
      omega
end EntX
theorem at52_ng : ∀ w ∈ (vx_atS RX8 52 IAE NM).filter (fun w => !goodWord w), w ∈ FW := by decide +kernel
theorem at63_ng : ∀ w ∈ (vx_atS RX8 63 ISE NM).filter (fun w => !goodWord w), w ∈ FW := by decide +kernel
theorem at52_ot : ∀ w ∈ Cond.classLink RX8 48 IAE :: Cond.initialized IAE :: vx_atS RX8 52 IAE NM, vx_ot w = true := by decide +kernel
theorem at63_ot : ∀ w ∈ Cond.classLink RX8 59 ISE :: Cond.initialized ISE :: vx_atS RX8 63 ISE NM, vx_ot w = true := by decide +kernel
abbrev rmX8_enact : Room := { frames := 6, cells := 1, slots := 6, locals := 108 }
abbrev rmX8_tick : Room := { frames := 6, cells := 1, slots := 6, locals := 138 }
theorem iX8_enact_X0 : ∀ w ∈ u_ws RX0 TX0 16, w ∈ wsX8_enact := fun _ h => List.mem_cons_of_mem _ (List.mem_append_left _ (List.mem_append_left _ (List.mem_append_left _ (List.mem_append_left _ (List.mem_append_left _ (List.mem_append_left _ (List.mem_append_right _ h)))))))
theorem iX8_enact_a : ∀ w ∈ (vx_atS RX8 52 IAE NM).filter goodWord, w ∈ wsX8_enact := fun _ h => List.mem_cons_of_mem _ (List.mem_append_left _ (List.mem_append_right _ h))
theorem iX8_enact_b : ∀ w ∈ (vx_atS RX8 63 ISE NM).filter goodWord, w ∈ wsX8_enact := fun _ h => List.mem_cons_of_mem _ (List.mem_append_right _ h)
theorem iX8_tick_a : ∀ w ∈ (vx_atS RX8 52 IAE NM).filter goodWord, w ∈ wsX8_tick := fun _ h => List.mem_cons_of_mem _ (List.mem_append_right _ h)
theorem iX8_tick_X8 : ∀ w ∈ u_ws RX8 TX8 4, w ∈ wsX8_tick := fun _ h => List.mem_cons_of_mem _ (List.mem_append_left _ (List.mem_append_left _ (List.mem_append_left _ (List.mem_append_left _ (List.mem_append_left _ (List.mem_append_left _ (List.mem_append_left _ (List.mem_append_left _ (List.mem_append_left _ (List.mem_append_right _ h))))))))))
theorem hdX0_takeWrittenTable : yX0_takeWrittenTable.cls = RX0 ∧ yX0_takeWrittenTable.cls ≠ "java/lang/invoke/MethodHandle" ∧ yX0_takeWrittenTable.cls ≠ "java/lang/invoke/VarHandle" ∧ (parseMethodDescriptor yX0_takeWrittenTable.desc).map (fun d => d.parameters.length) = some 0 := by decide +kernel
theorem hdX0_pass : yX0_pass.cls = RX0 ∧ yX0_pass.cls ≠ "java/lang/invoke/MethodHandle" ∧ yX0_pass.cls ≠ "java/lang/invoke/VarHandle" ∧ (parseMethodDescriptor yX0_pass.desc).map (fun d => d.parameters.length) = some 2 := by decide +kernel
theorem hdJ6_bc : yJ6_bitCount_0f7a4.cls ≠ "java/lang/invoke/MethodHandle" ∧ yJ6_bitCount_0f7a4.cls ≠ "java/lang/invoke/VarHandle" ∧ (parseMethodDescriptor yJ6_bitCount_0f7a4.desc).map (fun d => d.parameters.length) = some 1 := by decide +kernel
theorem mX8_tick_f10 : Cond.fieldLink RX8 10 "BarrierLights" "plans" "LBarrierLights$Plans;" ∈ wsX8_tick := by decide +kernel
theorem mX8_tick_f19 : Cond.fieldLink RX8 19 "BarrierLights" "controller0" "LBarrierLights$Controller;" ∈ wsX8_tick := by decide +kernel
theorem mX8_tick_f23 : Cond.fieldLink RX8 23 "BarrierLights" "controller1" "LBarrierLights$Controller;" ∈ wsX8_tick := by decide +kernel
theorem mX8_tick_f26 : Cond.fieldLink RX8 26 "BarrierLights" "clock" "I" ∈ wsX8_tick := by decide +kernel
section Thr
variable {l : Launch} {D : va_G} {ad : Nat → Nat} {aI aZ aF : ClassId}
set_option maxRecDepth 100000 in
set_option maxHeartbeats 4000000 in
theorem k_enactN (hl : l.stackTraces = false) {p1 : Int32} {K : Mem} (h1 : f_X8_controllerOf p1 K = some none) : cX (EC l D ad aI aZ aF) yX8_enact wsX8_enact rmX8_enact [.ref (ad 0), .int p1] K (some IAE) 0 K := by
  refine j_entX (cc := cX8_enact) (maxL := 3) (EC_ok l D ad aI aZ aF) hl (by decide) (by decide) rfl (Nat.le_of_ble_eq_true rfl) (fun G C ret thr => ?_)
  refine j_sub [0, 1] (lv2 := [(0, .ref (ad 0)), (1, .int p1)]) rfl ?_
  refine j_aload_n C 0 dX8_enact_0 rfl rfl ?_
  refine j_iload_n C 1 dX8_enact_1 rfl rfl ?_
  refine j_cVQ C [.int p1] gX8_enact_X8_controllerOf rfl hdX8_controllerOf ⟨⟨rfl, rfl⟩, Nat.le_of_ble_eq_true rfl, Nat.le_of_ble_eq_true rfl⟩ rfl g_0 rfl (k_X8_controllerOf h1) dX8_enact_2 rfl (Nat.le_of_ble_eq_true rfl) ?_
  refine j_astore_nN C [(2, .null), (0, .ref (ad 0)), (1, .int p1)] dX8_enact_5 rfl (by decide) rfl ?_
  refine j_aload_nN C 0 dX8_enact_6 rfl rfl ?_
  refine j_ifnonnullN C dX8_enact_7 ?_
  exact thr 10 _ IAE "no such crossing" 48 50 52 rfl (by decide) (fun U h => h.1) (by decide +kernel) (by decide +kernel) iX8_enact_a at52_ng at52_ot dX8_enact_10 dX8_enact_13 dX8_enact_14 dX8_enact_16 dX8_enact_19
set_option maxRecDepth 100000 in
set_option maxHeartbeats 4000000 in
theorem k_enactW (hl : l.stackTraces = false) {p1 : Int32} {b : Nat} {K K1 : Mem} (h1 : f_X8_controllerOf p1 K = some (some b)) (h2 : f_X0_takeWrittenTable b K = some (0, K1)) : cX (EC l D ad aI aZ aF) yX8_enact wsX8_enact rmX8_enact [.ref (ad 0), .int p1] K (some ISE) 0 K1 := by
  have hk := q_X8_controllerOf h1
  refine j_entX (cc := cX8_enact) (maxL := 3) (EC_ok l D ad aI aZ aF) hl (by decide) (by decide) rfl (Nat.le_of_ble_eq_true rfl) (fun G C ret thr => ?_)
  refine j_sub [0, 1] (lv2 := [(0, .ref (ad 0)), (1, .int p1)]) rfl ?_
  refine j_aload_n C 0 dX8_enact_0 rfl rfl ?_
  refine j_iload_n C 1 dX8_enact_1 rfl rfl ?_
  refine j_cVQ C [.int p1] gX8_enact_X8_controllerOf rfl hdX8_controllerOf ⟨⟨rfl, rfl⟩, Nat.le_of_ble_eq_true rfl, Nat.le_of_ble_eq_true rfl⟩ rfl g_0 rfl (k_X8_controllerOf h1) dX8_enact_2 rfl (Nat.le_of_ble_eq_true rfl) ?_
  refine j_astore_n C [(2, .ref (ad b)), (0, .ref (ad 0)), (1, .int p1)] dX8_enact_5 rfl (by decide) rfl ?_
  refine j_aload_n C 0 dX8_enact_6 rfl rfl ?_
  refine j_ifnonnull C 20 dX8_enact_7 (by decide) ?_
  refine j_aload_n C 0 dX8_enact_20 rfl rfl ?_
  refine j_cVI C [] gX8_enact_X0_takeWrittenTable rfl hdX0_takeWrittenTable ⟨⟨rfl, rfl⟩, Nat.le_of_ble_eq_true rfl, Nat.le_of_ble_eq_true rfl⟩ rfl (g_C hk) rfl (k_X0_takeWrittenTable hk h2) dX8_enact_21 rfl (Nat.le_of_ble_eq_true rfl) ?_
  refine j_if_ne C (X := some ()) (Y := none) (u := ()) 37 dX8_enact_24 (by decide) (if_pos rfl) (fun _ => ?_) (fun h => by cases h)
  exact thr 27 _ ISE "the table is wrong" 59 61 63 rfl (by decide) (fun U h => h.2.1) (by decide +kernel) (by decide +kernel) iX8_enact_b at63_ng at63_ot dX8_enact_27 dX8_enact_30 dX8_enact_31 dX8_enact_33 dX8_enact_36
set_option maxRecDepth 100000 in
set_option maxHeartbeats 4000000 in
theorem k_enactT (hl : l.stackTraces = false) {p1 : Int32} {b : Nat} {K K1 : Mem} {r : Int32} (h1 : f_X8_controllerOf p1 K = some (some b)) (h2 : f_X0_takeWrittenTable b K = some (1, K1)) (h3 : f_J6_bitCount_0f7a4 (K1 b 10) K1 = some r) : cX (EC l D ad aI aZ aF) yX8_enact wsX8_enact rmX8_enact [.ref (ad 0), .int p1] K none r K1 := by
  have hk := q_X8_controllerOf h1
  refine j_entX (cc := cX8_enact) (maxL := 3) (EC_ok l D ad aI aZ aF) hl (by decide) (by decide) rfl (Nat.le_of_ble_eq_true rfl) (fun G C ret thr => ?_)
  refine j_sub [0, 1] (lv2 := [(0, .ref (ad 0)), (1, .int p1)]) rfl ?_
  refine j_aload_n C 0 dX8_enact_0 rfl rfl ?_
  refine j_iload_n C 1 dX8_enact_1 rfl rfl ?_
  refine j_cVQ C [.int p1] gX8_enact_X8_controllerOf rfl hdX8_controllerOf ⟨⟨rfl, rfl⟩, Nat.le_of_ble_eq_true rfl, Nat.le_of_ble_eq_true rfl⟩ rfl g_0 rfl (k_X8_controllerOf h1) dX8_enact_2 rfl (Nat.le_of_ble_eq_true rfl) ?_
  refine j_astore_n C [(2, .ref (ad b)), (0, .ref (ad 0)), (1, .int p1)] dX8_enact_5 rfl (by decide) rfl ?_
  refine j_aload_n C 0 dX8_enact_6 rfl rfl ?_
  refine j_ifnonnull C 20 dX8_enact_7 (by decide) ?_
  refine j_aload_n C 0 dX8_enact_20 rfl rfl ?_
  refine j_cVI C [] gX8_enact_X0_takeWrittenTable rfl hdX0_takeWrittenTable ⟨⟨rfl, rfl⟩, Nat.le_of_ble_eq_true rfl, Nat.le_of_ble_eq_true rfl⟩ rfl (g_C hk) rfl (k_X0_takeWrittenTable hk h2) dX8_enact_21 rfl (Nat.le_of_ble_eq_true rfl) ?_
  refine j_if_ne C (X := none) (Y := some ()) (u := ()) 37 dX8_enact_24 (by decide) (if_neg n10) (fun h => by cases h) (fun _ => ?_)
  refine j_aload_n C 0 dX8_enact_37 rfl rfl ?_
  refine j_getN C 10 iX8_enact_X0 (g_C hk) rfl (by decide) nf_RX8_64 rfl rfl dX8_enact_38 ?_
  refine j_cSI C [.int (K1 b 10)] gX8_enact_J6_bitCount_0f7a4 rfl hdJ6_bc ⟨⟨rfl, rfl⟩, Nat.le_of_ble_eq_true rfl, Nat.le_of_ble_eq_true rfl⟩ rfl (k_J6_bitCount_0f7a4 h3) dX8_enact_41 rfl (Nat.le_of_ble_eq_true rfl) ?_
  exact ret 44 _ dX8_enact_44 rfl
set_option maxRecDepth 100000 in
set_option maxHeartbeats 4000000 in
theorem k_tickN (hl : l.stackTraces = false) {p1 : Int32} {K : Mem} (h1 : p1 < 0 ∨ ¬ p1 ≤ 20) : cX (EC l D ad aI aZ aF) yX8_tick wsX8_tick rmX8_tick [.ref (ad 0), .int p1] K (some IAE) 0 K := by
  refine j_entX (cc := cX8_tick) (maxL := 3) (EC_ok l D ad aI aZ aF) hl (by decide) (by decide) rfl (Nat.le_of_ble_eq_true rfl) (fun G C ret thr => ?_)
  refine j_sub [0, 1] (lv2 := [(0, .ref (ad 0)), (1, .int p1)]) rfl ?_
  have jj : jW (EC l D ad aI aZ aF) G K 10 [(0, .ref (ad 0)), (1, .int p1)] [] := thr 10 _ IAE "n is not 0 .. 20" 48 138 52 rfl (by decide) (fun U h => h.2.2.1) (by decide +kernel) (by decide +kernel) iX8_tick_a at52_ng at52_ot dX8_tick_10 dX8_tick_13 dX8_tick_14 dX8_tick_16 dX8_tick_19
  refine j_iload_n C 1 dX8_tick_0 rfl rfl ?_
  by_cases h0 : p1 < 0
  · exact j_if_lt C (X := some ()) (Y := none) (u := ()) 10 dX8_tick_1 (by decide) (if_pos h0) (fun _ => jj) (fun h => by cases h)
  · refine j_if_lt C (X := none) (Y := some ()) (u := ()) 10 dX8_tick_1 (by decide) (if_neg h0) (fun h => by cases h) (fun _ => ?_)
    refine j_iload_n C 1 dX8_tick_4 rfl rfl ?_
    refine j_bipush C (v := 20) dX8_tick_5 (by decide) ?_
    exact j_icmp_le C (X := none) (Y := some ()) (u := ()) 20 dX8_tick_7 (by decide) (if_neg (h1.resolve_left h0)) (fun h => by cases h) (fun _ => jj)
set_option maxRecDepth 100000 in
set_option maxHeartbeats 4000000 in
theorem lp_tick {G : jG} {N : Nat} (hN : N ≤ 20) (C : jC (EC l D ad aI aZ aF) G cX8_tick yX8_tick.cls wsX8_tick rmX8_tick 3) {K' : Mem} (jj : jW (EC l D ad aI aZ aF) G K' 73 [(0, .ref (ad 0)), (1, .int (nI N)), (2, .int (nI N))] []) : ∀ (d j : Nat) (K : Mem), j + d = N → itC d K = some K' → jW (EC l D ad aI aZ aF) G K 22 [(0, .ref (ad 0)), (1, .int (nI N)), (2, .int (nI j))] [] := by
  intro d
  induction d with
  | zero =>
    intro j K hj h
    obtain rfl : j = N := by omega
    cases h
    refine j_iload_n C 2 dX8_tick_22 rfl rfl ?_
    refine j_iload_n C 1 dX8_tick_23 rfl rfl ?_
    exact j_icmp_ge C (X := some ()) (Y := none) (u := ()) 73 dX8_tick_24 (by decide) (if_pos (Int32.le_refl _)) (fun _ => jj) (fun h => by cases h)
  | succ d ih =>
    intro j K hj h
    rw [itC] at h
    obtain ⟨Kx, h1, h⟩ := bd h
    unfold tkC at h1
    obtain ⟨Ka, a1, h1⟩ := bd h1
    obtain ⟨Kb, a2, h1⟩ := bd h1
    cases h1
    refine j_iload_n C 2 dX8_tick_22 rfl rfl ?_
    refine j_iload_n C 1 dX8_tick_23 rfl rfl ?_
    refine j_icmp_ge C (X := none) (Y := some ()) (u := ()) 73 dX8_tick_24 (by decide) (if_neg (fun e => absurd ((le_nI (by omega) (by omega)).mp e) (by omega))) (fun h => by cases h) (fun _ => ?_)
    refine j_aload_n C 0 dX8_tick_27 rfl rfl ?_
    refine j_get C 1 iX8_tick_X8 g_0 rfl (by decide) mX8_tick_f19 rfl rfl dX8_tick_28 ?_
    refine j_aload_n C 0 dX8_tick_31 rfl rfl ?_
    refine j_get C 0 iX8_tick_X8 g_0 rfl (by decide) mX8_tick_f10 rfl rfl dX8_tick_32 ?_
    refine j_aload_n C 0 dX8_tick_35 rfl rfl ?_
    refine j_get C 3 iX8_tick_X8 g_0 rfl (by decide) mX8_tick_f26 rfl rfl dX8_tick_36 ?_
    refine j_cVV C [.ref (ad 1), .int (K 0 3)] gX8_tick_X0_pass rfl hdX0_pass ⟨⟨rfl, rfl⟩, Nat.le_of_ble_eq_true rfl, Nat.le_of_ble_eq_true rfl⟩ rfl (g_C isC_5) rfl (k_X0_pass isC_5 a1) dX8_tick_39 rfl (Nat.le_of_ble_eq_true rfl) ?_
    refine j_aload_n C 0 dX8_tick_42 rfl rfl ?_
    refine j_get C 2 iX8_tick_X8 g_0 rfl (by decide) mX8_tick_f23 rfl rfl dX8_tick_43 ?_
    refine j_aload_n C 0 dX8_tick_46 rfl rfl ?_
    refine j_get C 0 iX8_tick_X8 g_0 rfl (by decide) mX8_tick_f10 rfl rfl dX8_tick_47 ?_
    refine j_aload_n C 0 dX8_tick_50 rfl rfl ?_
    refine j_get C 3 iX8_tick_X8 g_0 rfl (by decide) mX8_tick_f26 rfl rfl dX8_tick_51 ?_
    refine j_cVV C [.ref (ad 1), .int (Ka 0 3)] gX8_tick_X0_pass rfl hdX0_pass ⟨⟨rfl, rfl⟩, Nat.le_of_ble_eq_true rfl, Nat.le_of_ble_eq_true rfl⟩ rfl (g_C isC_24) rfl (k_X0_pass isC_24 a2) dX8_tick_54 rfl (Nat.le_of_ble_eq_true rfl) ?_
    refine j_aload_n C 0 dX8_tick_57 rfl rfl ?_
    refine j_dup C dX8_tick_58 rfl ?_
    refine j_get C 3 iX8_tick_X8 g_0 rfl (by decide) mX8_tick_f26 rfl rfl dX8_tick_59 ?_
    refine j_iconst C (v := 1) dX8_tick_62 (by decide) ?_
    refine j_iadd C dX8_tick_63 ?_
    refine j_put C (ty := .int) (f := itC d) (u := K') 3 iX8_tick_X8 tyX8 tyX8_ok nmX8 g_0 (s_0_3 _) rfl (by decide) mX8_tick_f26 rfl rfl (by decide +kernel) rfl rfl (Nat.le_of_ble_eq_true rfl) dX8_tick_64 h (fun K2 h => ?_)
    refine j_iinc C (v := nI j + 1) (f := fun y => if y = nI (j + 1) then some () else none) (u := ()) 2 (fun y => [(2, .int y), (0, .ref (ad 0)), (1, .int (nI N))]) dX8_tick_67 rfl rfl (by decide) (fun _ => rfl) (if_pos (n_a1 j)) (fun x11 hx => ?_)
    have ex : x11 = nI (j + 1) := by
      by_cases e : x11 = nI (j + 1)
      · exact e
      · rw [if_neg e] at hx
        cases hx
    rw [ex]
    refine j_goto C 22 dX8_tick_70 (by decide) ?_
    refine j_sub [1, 2, 0] rfl ?_
    exact ih (j + 1) K2 (by omega) h
set_option maxRecDepth 100000 in
set_option maxHeartbeats 4000000 in
theorem k_tickT (hl : l.stackTraces = false) {N : Nat} (hN : N ≤ 20) {K K' : Mem} (h : itC N K = some K') : cX (EC l D ad aI aZ aF) yX8_tick wsX8_tick rmX8_tick [.ref (ad 0), .int (nI N)] K none (K' 0 3) K' := by
  refine j_entX (cc := cX8_tick) (maxL := 3) (EC_ok l D ad aI aZ aF) hl (by decide) (by decide) rfl (Nat.le_of_ble_eq_true rfl) (fun G C ret thr => ?_)
  refine j_sub [0, 1] (lv2 := [(0, .ref (ad 0)), (1, .int (nI N))]) rfl ?_
  refine j_iload_n C 1 dX8_tick_0 rfl rfl ?_
  refine j_if_lt C (X := none) (Y := some ()) (u := ()) 10 dX8_tick_1 (by decide) (if_neg (nI_ge0 (by omega))) (fun h => by cases h) (fun _ => ?_)
  refine j_iload_n C 1 dX8_tick_4 rfl rfl ?_
  refine j_bipush C (v := 20) dX8_tick_5 (by decide) ?_
  refine j_icmp_le C (X := some ()) (Y := none) (u := ()) 20 dX8_tick_7 (by decide) (if_pos ((le_nI (b := 20) (by omega) (by omega)).mpr hN)) (fun _ => ?_) (fun h => by cases h)
  refine j_iconst C (v := 0) dX8_tick_20 (by decide) ?_
  refine j_istore_n C (f := fun y => if y = nI 0 then some () else none) (u := ()) (fun y => [(2, .int y), (0, .ref (ad 0)), (1, .int (nI N))]) dX8_tick_21 rfl (by decide) (fun _ => rfl) (if_pos rfl) (fun x5 hx => ?_)
  have ex : x5 = nI 0 := by
    by_cases e : x5 = nI 0
    · exact e
    · rw [if_neg e] at hx
      cases hx
  rw [ex]
  refine j_sub [1, 2, 0] (lv2 := [(0, .ref (ad 0)), (1, .int (nI N)), (2, .int (nI 0))]) rfl ?_
  refine lp_tick hN C ?_ N 0 K (by omega) h
  refine j_aload_n C 0 dX8_tick_73 rfl rfl ?_
  refine j_get C 3 iX8_tick_X8 g_0 rfl (by decide) mX8_tick_f26 rfl rfl dX8_tick_74 ?_
  exact ret 77 _ dX8_tick_77 rfl
end Thr
