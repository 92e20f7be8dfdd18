/-- BarrierLights$Ring.beginClear()V -/
def f_X6_beginClear (b : Nat) (K : Mem) : Option (Mem) := st K b 8 8 fun K1 => st K1 b 9 0 fun K2 => some K2
abbrev rmX6_beginClear : Room := { frames := 0, cells := 0, slots := 0, locals := 0 }
theorem iX6_beginClear_X6 : ∀ w ∈ u_ws RX6 TX6 10, w ∈ wsX6_beginClear := fun _ h => List.mem_cons_of_mem _ (List.mem_append_right _ h)
theorem mX6_beginClear_f37 : Cond.fieldLink RX6 37 "BarrierLights$Ring" "walkSign" "I" ∈ wsX6_beginClear := by decide +kernel
theorem mX6_beginClear_f40 : Cond.fieldLink RX6 40 "BarrierLights$Ring" "walkAge" "I" ∈ wsX6_beginClear := by decide +kernel
set_option maxRecDepth 100000 in
set_option maxHeartbeats 4000000 in
theorem k_X6_beginClear {l : Launch} {D : va_G} {ad : Nat → Nat} {aI aZ aF : ClassId} {b : Nat} (hb : isR b) {K : Mem} {u : Mem} (hf : f_X6_beginClear b K = some u) : cV (EC l D ad aI aZ aF) yX6_beginClear wsX6_beginClear rmX6_beginClear [.ref (ad b)] K u := by
  rw [f_X6_beginClear] at hf
  refine j_entV (cc := cX6_beginClear) (maxL := 1) (EC_ok l D ad aI aZ aF) (by decide) rfl (Nat.le_of_ble_eq_true rfl) (fun G C ret => ?_)
  refine j_sub [0] (lv2 := [(0, .ref (ad b))]) rfl ?_
  refine j_aload_n C 0 dX6_beginClear_0 rfl rfl ?_
  refine j_bipush C (v := 8) dX6_beginClear_1 (by decide) ?_
  refine j_put C (ty := .int) 8 iX6_beginClear_X6 tyX6 tyX6_ok nmX6 (g_R hb) (s_R_8 hb _) rfl (by decide) mX6_beginClear_f37 rfl rfl (by decide +kernel) rfl rfl (Nat.le_of_ble_eq_true rfl) dX6_beginClear_3 hf (fun K1 hf => ?_)
  refine j_aload_n C 0 dX6_beginClear_6 rfl rfl ?_
  refine j_iconst C (v := 0) dX6_beginClear_7 (by decide) ?_
  refine j_put C (ty := .int) 9 iX6_beginClear_X6 tyX6 tyX6_ok nmX6 (g_R hb) (s_R_9 hb _) rfl (by decide) mX6_beginClear_f40 rfl rfl (by decide +kernel) rfl rfl (Nat.le_of_ble_eq_true rfl) dX6_beginClear_8 hf (fun K2 hf => ?_)
  cases hf
  exact ret _ _ dX6_beginClear_11
/-- BarrierLights$Ring.passWalk(II)V -/
def f_X6_passWalk (b : Nat) (p1 : Int32) (p2 : Int32) (K : Mem) : Option (Mem) := st K b 9 ((K b 9) + 1) fun K1 => if (K1 b 8) = 4 then (if (K1 b 9) < p1 then (if (K1 b 8) = 8 then (if (K1 b 9) < p2 then (some K1) else (st K1 b 8 0 fun K2 => some K2)) else (some K1)) else ((f_X6_beginClear b K1).bind fun u3 => some u3)) else (if (K1 b 8) = 8 then (if (K1 b 9) < p2 then (some K1) else (st K1 b 8 0 fun K5 => some K5)) else (some K1))
abbrev rmX6_passWalk : Room := { frames := 1, cells := 0, slots := 0, locals := 20 }
theorem iX6_passWalk_X6 : ∀ w ∈ u_ws RX6 TX6 10, w ∈ wsX6_passWalk := fun _ h => List.mem_cons_of_mem _ (List.mem_append_right _ h)
theorem mX6_passWalk_f40 : Cond.fieldLink RX6 40 "BarrierLights$Ring" "walkAge" "I" ∈ wsX6_passWalk := by decide +kernel
theorem mX6_passWalk_f37 : Cond.fieldLink RX6 37 "BarrierLights$Ring" "walkSign" "I" ∈ wsX6_passWalk := by decide +kernel
theorem hdX6_beginClear : yX6_beginClear.cls = RX6 ∧ yX6_beginClear.cls ≠ "java/lang/invoke/MethodHandle" ∧ yX6_beginClear.cls ≠ "java/lang/invoke/VarHandle" ∧ (parseMethodDescriptor yX6_beginClear.desc).map (fun d => d.parameters.length) = some 0 := by decide +kernel
set_option maxRecDepth 100000 in
set_option maxHeartbeats 4000000 in
theorem k_X6_passWalk {l : Launch} {D : va_G} {ad : Nat → Nat} {aI aZ aF : ClassId} {b : Nat} {p1 : Int32} {p2 : Int32} (hb : isR b) {K : Mem} {u : Mem} (hf : f_X6_passWalk b p1 p2 K = some u) : cV (EC l D ad aI aZ aF) yX6_passWalk wsX6_passWalk rmX6_passWalk [.ref (ad b), .int p1, .int p2] K u := by
  rw [f_X6_passWalk] at hf
  refine j_entV (cc := cX6_passWalk) (maxL := 3) (EC_ok l D ad aI aZ aF) (by decide) rfl (Nat.le_of_ble_eq_true rfl) (fun G C ret => ?_)
  refine j_sub [0, 1, 2] (lv2 := [(0, .ref (ad b)), (1, .int p1), (2, .int p2)]) rfl ?_
  refine j_aload_n C 0 dX6_passWalk_0 rfl rfl ?_
  refine j_dup C dX6_passWalk_1 rfl ?_
  refine j_get C 9 iX6_passWalk_X6 (g_R hb) rfl (by decide) mX6_passWalk_f40 rfl rfl dX6_passWalk_2 ?_
  refine j_iconst C (v := 1) dX6_passWalk_5 (by decide) ?_
  refine j_iadd C dX6_passWalk_6 ?_
  refine j_put C (ty := .int) 9 iX6_passWalk_X6 tyX6 tyX6_ok nmX6 (g_R hb) (s_R_9 hb _) rfl (by decide) mX6_passWalk_f40 rfl rfl (by decide +kernel) rfl rfl (Nat.le_of_ble_eq_true rfl) dX6_passWalk_7 hf (fun K1 hf => ?_)
  refine j_aload_n C 0 dX6_passWalk_10 rfl rfl ?_
  refine j_get C 8 iX6_passWalk_X6 (g_R hb) rfl (by decide) mX6_passWalk_f37 rfl rfl dX6_passWalk_11 ?_
  refine j_iconst C (v := 4) dX6_passWalk_14 (by decide) ?_
  refine j_icmp_ne C 33 dX6_passWalk_15 (by decide) hf (fun hf => ?_) (fun hf => ?_)
  · refine j_aload_n C 0 dX6_passWalk_18 rfl rfl ?_
    refine j_get C 9 iX6_passWalk_X6 (g_R hb) rfl (by decide) mX6_passWalk_f40 rfl rfl dX6_passWalk_19 ?_
    refine j_iload_n C 1 dX6_passWalk_22 rfl rfl ?_
    refine j_icmp_lt C 33 dX6_passWalk_23 (by decide) hf (fun hf => ?_) (fun hf => ?_)
    · refine j_aload_n C 0 dX6_passWalk_33 rfl rfl ?_
      refine j_get C 8 iX6_passWalk_X6 (g_R hb) rfl (by decide) mX6_passWalk_f37 rfl rfl dX6_passWalk_34 ?_
      refine j_bipush C (v := 8) dX6_passWalk_37 (by decide) ?_
      refine j_icmp_ne C 55 dX6_passWalk_39 (by decide) hf (fun hf => ?_) (fun hf => ?_)
      · refine j_aload_n C 0 dX6_passWalk_42 rfl rfl ?_
        refine j_get C 9 iX6_passWalk_X6 (g_R hb) rfl (by decide) mX6_passWalk_f40 rfl rfl dX6_passWalk_43 ?_
        refine j_iload_n C 2 dX6_passWalk_46 rfl rfl ?_
        refine j_icmp_lt C 55 dX6_passWalk_47 (by decide) hf (fun hf => ?_) (fun hf => ?_)
        · cases hf
          exact ret _ _ dX6_passWalk_55
        · refine j_aload_n C 0 dX6_passWalk_50 rfl rfl ?_
          refine j_iconst C (v := 0) dX6_passWalk_51 (by decide) ?_
          refine j_put C (ty := .int) 8 iX6_passWalk_X6 tyX6 tyX6_ok nmX6 (g_R hb) (s_R_8 hb _) rfl (by decide) mX6_passWalk_f37 rfl rfl (by decide +kernel) rfl rfl (Nat.le_of_ble_eq_true rfl) dX6_passWalk_52 hf (fun K2 hf => ?_)
          cases hf
          exact ret _ _ dX6_passWalk_55
      · cases hf
        exact ret _ _ dX6_passWalk_55
    · refine j_aload_n C 0 dX6_passWalk_26 rfl rfl ?_
      obtain ⟨u3, h4, hf⟩ := bd hf
      refine j_cVV C [] gX6_passWalk_X6_beginClear rfl hdX6_beginClear ⟨⟨rfl, rfl⟩, Nat.le_of_ble_eq_true rfl, Nat.le_of_ble_eq_true rfl⟩ rfl (g_R hb) rfl (k_X6_beginClear hb h4) dX6_passWalk_27 rfl (Nat.le_of_ble_eq_true rfl) ?_
      refine j_goto C 55 dX6_passWalk_30 (by decide) ?_
      cases hf
      exact ret _ _ dX6_passWalk_55
  · refine j_aload_n C 0 dX6_passWalk_33 rfl rfl ?_
    refine j_get C 8 iX6_passWalk_X6 (g_R hb) rfl (by decide) mX6_passWalk_f37 rfl rfl dX6_passWalk_34 ?_
    refine j_bipush C (v := 8) dX6_passWalk_37 (by decide) ?_
    refine j_icmp_ne C 55 dX6_passWalk_39 (by decide) hf (fun hf => ?_) (fun hf => ?_)
    · refine j_aload_n C 0 dX6_passWalk_42 rfl rfl ?_
      refine j_get C 9 iX6_passWalk_X6 (g_R hb) rfl (by decide) mX6_passWalk_f40 rfl rfl dX6_passWalk_43 ?_
      refine j_iload_n C 2 dX6_passWalk_46 rfl rfl ?_
      refine j_icmp_lt C 55 dX6_passWalk_47 (by decide) hf (fun hf => ?_) (fun hf => ?_)
      · cases hf
        exact ret _ _ dX6_passWalk_55
      · refine j_aload_n C 0 dX6_passWalk_50 rfl rfl ?_
        refine j_iconst C (v := 0) dX6_passWalk_51 (by decide) ?_
        refine j_put C (ty := .int) 8 iX6_passWalk_X6 tyX6 tyX6_ok nmX6 (g_R hb) (s_R_8 hb _) rfl (by decide) mX6_passWalk_f37 rfl rfl (by decide +kernel) rfl rfl (Nat.le_of_ble_eq_true rfl) dX6_passWalk_52 hf (fun K5 hf => ?_)
        cases hf
        exact ret _ _ dX6_passWalk_55
    · cases hf
      exact ret _ _ dX6_passWalk_55
/-- BarrierLights$Ring.greenPhase()I -/
def f_X6_greenPhase (b : Nat) (K : Mem) : Option (Int32) := if (K b 4) = 4 then ((f_X8_bit (K b 0) K).bind fun u1 => some u1) else (some 0)
abbrev rmX6_greenPhase : Room := { frames := 1, cells := 0, slots := 0, locals := 20 }
theorem iX6_greenPhase_X6 : ∀ w ∈ u_ws RX6 TX6 10, w ∈ wsX6_greenPhase := fun _ h => List.mem_cons_of_mem _ (List.mem_append_right _ h)
theorem mX6_greenPhase_f25 : Cond.fieldLink RX6 25 "BarrierLights$Ring" "lamps" "I" ∈ wsX6_greenPhase := by decide +kernel
theorem mX6_greenPhase_f9 : Cond.fieldLink RX6 9 "BarrierLights$Ring" "phase" "I" ∈ wsX6_greenPhase := by decide +kernel
theorem mX6_greenPhase_iX8 : Cond.initialized RX8 ∈ wsX6_greenPhase := by decide +kernel
theorem mX6_greenPhase_sX8_bit : Cond.static yX8_bit ∈ wsX6_greenPhase := by decide +kernel
set_option maxRecDepth 100000 in
set_option maxHeartbeats 4000000 in
theorem k_X6_greenPhase {l : Launch} {D : va_G} {ad : Nat → Nat} {aI aZ aF : ClassId} {b : Nat} (hb : isR b) {K : Mem} {u : Int32} (hf : f_X6_greenPhase b K = some u) : cI (EC l D ad aI aZ aF) yX6_greenPhase wsX6_greenPhase rmX6_greenPhase [.ref (ad b)] K u K := by
  rw [f_X6_greenPhase] at hf
  refine j_entI (cc := cX6_greenPhase) (maxL := 1) (EC_ok l D ad aI aZ aF) (Or.inl rfl) (by decide) rfl (Nat.le_of_ble_eq_true rfl) (fun G C ret => ?_)
  refine j_sub [0] (lv2 := [(0, .ref (ad b))]) rfl ?_
  refine j_aload_n C 0 dX6_greenPhase_0 rfl rfl ?_
  refine j_get C 4 iX6_greenPhase_X6 (g_R hb) rfl (by decide) mX6_greenPhase_f25 rfl rfl dX6_greenPhase_1 ?_
  refine j_iconst C (v := 4) dX6_greenPhase_4 (by decide) ?_
  refine j_icmp_ne C 18 dX6_greenPhase_5 (by decide) hf (fun hf => ?_) (fun hf => ?_)
  · refine j_aload_n C 0 dX6_greenPhase_8 rfl rfl ?_
    refine j_get C 0 iX6_greenPhase_X6 (g_R hb) rfl (by decide) mX6_greenPhase_f9 rfl rfl dX6_greenPhase_9 ?_
    obtain ⟨u1, h2, hf⟩ := bd hf
    refine j_cNI C [.int ((K b 0))] gX6_greenPhase_X8_bit_n43 rfl nm_RX6_43 mX6_greenPhase_iX8 mX6_greenPhase_sX8_bit hdX8_bit.2 ⟨⟨rfl, rfl⟩, Nat.le_of_ble_eq_true rfl, Nat.le_of_ble_eq_true rfl⟩ rfl (k_X8_bit h2) dX6_greenPhase_12 rfl (Nat.le_of_ble_eq_true rfl) ?_
    refine j_goto C 19 dX6_greenPhase_15 (by decide) ?_
    cases hf
    exact ret _ _ dX6_greenPhase_19 (fun h => by cases h)
  · refine j_iconst C (v := 0) dX6_greenPhase_18 (by decide) ?_
    cases hf
    exact ret _ _ dX6_greenPhase_19 (fun h => by cases h)
/-- BarrierLights$Controller.greenPhases()I -/
def f_X0_greenPhases (b : Nat) (K : Mem) : Option (Int32) := (f_X6_greenPhase (b + 16) K).bind fun u1 => (f_X6_greenPhase (b + 17) K).bind fun u3 => some (u1 ||| u3)
abbrev rmX0_greenPhases : Room := { frames := 2, cells := 0, slots := 0, locals := 40 }
theorem iX0_greenPhases_X0 : ∀ w ∈ u_ws RX0 TX0 16, w ∈ wsX0_greenPhases := fun _ h => List.mem_cons_of_mem _ (List.mem_append_left _ (List.mem_append_right _ h))
theorem mX0_greenPhases_f52 : Cond.fieldLink RX0 52 "BarrierLights$Controller" "ring0" "LBarrierLights$Ring;" ∈ wsX0_greenPhases := by decide +kernel
theorem hdX6_greenPhase : yX6_greenPhase.cls = RX6 ∧ yX6_greenPhase.cls ≠ "java/lang/invoke/MethodHandle" ∧ yX6_greenPhase.cls ≠ "java/lang/invoke/VarHandle" ∧ (parseMethodDescriptor yX6_greenPhase.desc).map (fun d => d.parameters.length) = some 0 := by decide +kernel
theorem mX0_greenPhases_f56 : Cond.fieldLink RX0 56 "BarrierLights$Controller" "ring1" "LBarrierLights$Ring;" ∈ wsX0_greenPhases := by decide +kernel
set_option maxRecDepth 100000 in
set_option maxHeartbeats 4000000 in
theorem k_X0_greenPhases {l : Launch} {D : va_G} {ad : Nat → Nat} {aI aZ aF : ClassId} {b : Nat} (hb : isC b) {K : Mem} {u : Int32} (hf : f_X0_greenPhases b K = some u) : cI (EC l D ad aI aZ aF) yX0_greenPhases wsX0_greenPhases rmX0_greenPhases [.ref (ad b)] K u K := by
  rw [f_X0_greenPhases] at hf
  refine j_entI (cc := cX0_greenPhases) (maxL := 1) (EC_ok l D ad aI aZ aF) (Or.inl rfl) (by decide) rfl (Nat.le_of_ble_eq_true rfl) (fun G C ret => ?_)
  refine j_sub [0] (lv2 := [(0, .ref (ad b))]) rfl ?_
  refine j_aload_n C 0 dX0_greenPhases_0 rfl rfl ?_
  refine j_get C 6 iX0_greenPhases_X0 (g_C hb) rfl (by decide) mX0_greenPhases_f52 rfl rfl dX0_greenPhases_1 ?_
  obtain ⟨u1, h2, hf⟩ := bd hf
  refine j_cVI C [] gX0_greenPhases_X6_greenPhase rfl hdX6_greenPhase ⟨⟨rfl, rfl⟩, Nat.le_of_ble_eq_true rfl, Nat.le_of_ble_eq_true rfl⟩ rfl (g_R (isC_R0 hb)) rfl (k_X6_greenPhase (isC_R0 hb) h2) dX0_greenPhases_4 rfl (Nat.le_of_ble_eq_true rfl) ?_
  refine j_aload_n C 0 dX0_greenPhases_7 rfl rfl ?_
  refine j_get C 7 iX0_greenPhases_X0 (g_C hb) rfl (by decide) mX0_greenPhases_f56 rfl rfl dX0_greenPhases_8 ?_
  obtain ⟨u3, h4, hf⟩ := bd hf
  refine j_cVI C [] gX0_greenPhases_X6_greenPhase rfl hdX6_greenPhase ⟨⟨rfl, rfl⟩, Nat.le_of_ble_eq_true rfl, Nat.le_of_ble_eq_true rfl⟩ rfl (g_R (isC_R1 hb)) rfl (k_X6_greenPhase (isC_R1 hb) h4) dX0_greenPhases_11 rfl (Nat.le_of_ble_eq_true rfl) ?_
  refine j_ior C dX0_greenPhases_14 ?_
  cases hf
  exact ret _ _ dX0_greenPhases_15 (fun h => by cases h)
/-- BarrierLights$Controller.countingCalls()I -/
def f_X0_countingCalls (b : Nat) (K : Mem) : Option (Int32) := (f_X0_greenPhases b K).bind fun u1 => some (((K b 13) ||| (K b 14)) &&& (u1 ^^^ (-1)))
abbrev rmX0_countingCalls : Room := { frames := 3, cells := 0, slots := 0, locals := 60 }
theorem iX0_countingCalls_X0 : ∀ w ∈ u_ws RX0 TX0 16, w ∈ wsX0_countingCalls := fun _ h => List.mem_cons_of_mem _ (List.mem_append_left _ (List.mem_append_right _ h))
theorem mX0_countingCalls_f76 : Cond.fieldLink RX0 76 "BarrierLights$Controller" "calls" "I" ∈ wsX0_countingCalls := by decide +kernel
theorem mX0_countingCalls_f79 : Cond.fieldLink RX0 79 "BarrierLights$Controller" "walkCalls" "I" ∈ wsX0_countingCalls := by decide +kernel
theorem hdX0_greenPhases : yX0_greenPhases.cls = RX0 ∧ yX0_greenPhases.cls ≠ "java/lang/invoke/MethodHandle" ∧ yX0_greenPhases.cls ≠ "java/lang/invoke/VarHandle" ∧ (parseMethodDescriptor yX0_greenPhases.desc).map (fun d => d.parameters.length) = some 0 := by decide +kernel
set_option maxRecDepth 100000 in
set_option maxHeartbeats 4000000 in
theorem k_X0_countingCalls {l : Launch} {D : va_G} {ad : Nat → Nat} {aI aZ aF : ClassId} {b : Nat} (hb : isC b) {K : Mem} {u : Int32} (hf : f_X0_countingCalls b K = some u) : cI (EC l D ad aI aZ aF) yX0_countingCalls wsX0_countingCalls rmX0_countingCalls [.ref (ad b)] K u K := by
  rw [f_X0_countingCalls] at hf
  refine j_entI (cc := cX0_countingCalls) (maxL := 1) (EC_ok l D ad aI aZ aF) (Or.inl rfl) (by decide) rfl (Nat.le_of_ble_eq_true rfl) (fun G C ret => ?_)
  refine j_sub [0] (lv2 := [(0, .ref (ad b))]) rfl ?_
  refine j_aload_n C 0 dX0_countingCalls_0 rfl rfl ?_
  refine j_get C 13 iX0_countingCalls_X0 (g_C hb) rfl (by decide) mX0_countingCalls_f76 rfl rfl dX0_countingCalls_1 ?_
  refine j_aload_n C 0 dX0_countingCalls_4 rfl rfl ?_
  refine j_get C 14 iX0_countingCalls_X0 (g_C hb) rfl (by decide) mX0_countingCalls_f79 rfl rfl dX0_countingCalls_5 ?_
  refine j_ior C dX0_countingCalls_8 ?_
  refine j_aload_n C 0 dX0_countingCalls_9 rfl rfl ?_
  obtain ⟨u1, h2, hf⟩ := bd hf
  refine j_cVI C [] gX0_countingCalls_X0_greenPhases rfl hdX0_greenPhases ⟨⟨rfl, rfl⟩, Nat.le_of_ble_eq_true rfl, Nat.le_of_ble_eq_true rfl⟩ rfl (g_C hb) rfl (k_X0_greenPhases hb h2) dX0_countingCalls_10 rfl (Nat.le_of_ble_eq_true rfl) ?_
  refine j_iconst C (v := (-1)) dX0_countingCalls_13 (by decide) ?_
  refine j_ixor C dX0_countingCalls_14 ?_
  refine j_iand C dX0_countingCalls_15 ?_
  cases hf
  exact ret _ _ dX0_countingCalls_16 (fun h => by cases h)
/-- BarrierLights$Ring.phaseBefore()I -/
def f_X6_phaseBefore (b : Nat) (K : Mem) : Option (Int32) := (f_X6_waits b K).bind fun u1 => if u1 = 0 then (if (jrem (K b 0) 2) = 0 then (some 0) else ((f_X8_bit ((K b 0) - 1) K).bind fun u3 => some u3)) else (some 0)
abbrev rmX6_phaseBefore : Room := { frames := 1, cells := 0, slots := 0, locals := 20 }
theorem hdX6_waits : yX6_waits.cls = RX6 ∧ yX6_waits.cls ≠ "java/lang/invoke/MethodHandle" ∧ yX6_waits.cls ≠ "java/lang/invoke/VarHandle" ∧ (parseMethodDescriptor yX6_waits.desc).map (fun d => d.parameters.length) = some 0 := by decide +kernel
theorem iX6_phaseBefore_X6 : ∀ w ∈ u_ws RX6 TX6 10, w ∈ wsX6_phaseBefore := fun _ h => List.mem_cons_of_mem _ (List.mem_append_right _ h)
theorem mX6_phaseBefore_f9 : Cond.fieldLink RX6 9 "BarrierLights$Ring" "phase" "I" ∈ wsX6_phaseBefore := by decide +kernel
theorem mX6_phaseBefore_iX8 : Cond.initialized RX8 ∈ wsX6_phaseBefore := by decide +kernel
theorem mX6_phaseBefore_sX8_bit : Cond.static yX8_bit ∈ wsX6_phaseBefore := by decide +kernel
set_option maxRecDepth 100000 in
set_option maxHeartbeats 4000000 in
theorem k_X6_phaseBefore {l : Launch} {D : va_G} {ad : Nat → Nat} {aI aZ aF : ClassId} {b : Nat} (hb : isR b) {K : Mem} {u : Int32} (hf : f_X6_phaseBefore b K = some u) : cI (EC l D ad aI aZ aF) yX6_phaseBefore wsX6_phaseBefore rmX6_phaseBefore [.ref (ad b)] K u K := by
  rw [f_X6_phaseBefore] at hf
  refine j_entI (cc := cX6_phaseBefore) (maxL := 1) (EC_ok l D ad aI aZ aF) (Or.inl rfl) (by decide) rfl (Nat.le_of_ble_eq_true rfl) (fun G C ret => ?_)
  refine j_sub [0] (lv2 := [(0, .ref (ad b))]) rfl ?_
  refine j_aload_n C 0 dX6_phaseBefore_0 rfl rfl ?_
  obtain ⟨u1, h2, hf⟩ := bd hf
  refine j_cVI C [] gX6_phaseBefore_X6_waits rfl hdX6_waits ⟨⟨rfl, rfl⟩, Nat.le_of_ble_eq_true rfl, Nat.le_of_ble_eq_true rfl⟩ rfl (g_R hb) rfl (k_X6_waits hb h2) dX6_phaseBefore_1 rfl (Nat.le_of_ble_eq_true rfl) ?_
  refine j_if_ne C 16 dX6_phaseBefore_4 (by decide) hf (fun hf => ?_) (fun hf => ?_)
  · refine j_aload_n C 0 dX6_phaseBefore_7 rfl rfl ?_
    refine j_get C 0 iX6_phaseBefore_X6 (g_R hb) rfl (by decide) mX6_phaseBefore_f9 rfl rfl dX6_phaseBefore_8 ?_
    refine j_iconst C (v := 2) dX6_phaseBefore_11 (by decide) ?_
    refine j_irem C dX6_phaseBefore_12 (by decide) ?_
    refine j_if_ne C 20 dX6_phaseBefore_13 (by decide) hf (fun hf => ?_) (fun hf => ?_)
    · refine j_iconst C (v := 0) dX6_phaseBefore_16 (by decide) ?_
      refine j_goto C 29 dX6_phaseBefore_17 (by decide) ?_
      cases hf
      exact ret _ _ dX6_phaseBefore_29 (fun h => by cases h)
    · refine j_aload_n C 0 dX6_phaseBefore_20 rfl rfl ?_
      refine j_get C 0 iX6_phaseBefore_X6 (g_R hb) rfl (by decide) mX6_phaseBefore_f9 rfl rfl dX6_phaseBefore_21 ?_
      refine j_iconst C (v := 1) dX6_phaseBefore_24 (by decide) ?_
      refine j_isub C dX6_phaseBefore_25 ?_
      obtain ⟨u3, h4, hf⟩ := bd hf
      refine j_cNI C [.int (((K b 0) - 1))] gX6_phaseBefore_X8_bit_n43 rfl nm_RX6_43 mX6_phaseBefore_iX8 mX6_phaseBefore_sX8_bit hdX8_bit.2 ⟨⟨rfl, rfl⟩, Nat.le_of_ble_eq_true rfl, Nat.le_of_ble_eq_true rfl⟩ rfl (k_X8_bit h4) dX6_phaseBefore_26 rfl (Nat.le_of_ble_eq_true rfl) ?_
      cases hf
      exact ret _ _ dX6_phaseBefore_29 (fun h => by cases h)
  · refine j_iconst C (v := 0) dX6_phaseBefore_16 (by decide) ?_
    refine j_goto C 29 dX6_phaseBefore_17 (by decide) ?_
    cases hf
    exact ret _ _ dX6_phaseBefore_29 (fun h => by cases h)
/-- BarrierLights.phasesOfSide(I)I -/
def f_X8_phasesOfSide (p0 : Int32) (K : Mem) : Option (Int32) := if p0 = 0 then (some 51) else (some 204)
abbrev rmX8_phasesOfSide : Room := { frames := 0, cells := 0, slots := 0, locals := 0 }
set_option maxRecDepth 100000 in
set_option maxHeartbeats 4000000 in
theorem k_X8_phasesOfSide {l : Launch} {D : va_G} {ad : Nat → Nat} {aI aZ aF : ClassId} {p0 : Int32} {K : Mem} {u : Int32} (hf : f_X8_phasesOfSide p0 K = some u) : cI (EC l D ad aI aZ aF) yX8_phasesOfSide wsX8_phasesOfSide rmX8_phasesOfSide [.int p0] K u K := by
  rw [f_X8_phasesOfSide] at hf
  refine j_entI (cc := cX8_phasesOfSide) (maxL := 1) (EC_ok l D ad aI aZ aF) (Or.inl rfl) (by decide) rfl (Nat.le_of_ble_eq_true rfl) (fun G C ret => ?_)
  refine j_sub [0] (lv2 := [(0, .int p0)]) rfl ?_
  refine j_iload_n C 0 dX8_phasesOfSide_0 rfl rfl ?_
  refine j_if_ne C 9 dX8_phasesOfSide_1 (by decide) hf (fun hf => ?_) (fun hf => ?_)
  · refine j_bipush C (v := 51) dX8_phasesOfSide_4 (by decide) ?_
    refine j_goto C 12 dX8_phasesOfSide_6 (by decide) ?_
    cases hf
    exact ret _ _ dX8_phasesOfSide_12 (fun h => by cases h)
  · refine j_sipush C (v := 204) dX8_phasesOfSide_9 (by decide) ?_
    cases hf
    exact ret _ _ dX8_phasesOfSide_12 (fun h => by cases h)
/-- BarrierLights$Ring.phaseBehind()I -/
def f_X6_phaseBehind (b : Nat) (K : Mem) : Option (Int32) := (f_X6_waits b K).bind fun u1 => if u1 = 0 then (if (jrem (K b 0) 2) = 0 then ((f_X8_bit ((K b 0) + 1) K).bind fun u3 => some u3) else (some 0)) else (some 0)
abbrev rmX6_phaseBehind : Room := { frames := 1, cells := 0, slots := 0, locals := 20 }
theorem iX6_phaseBehind_X6 : ∀ w ∈ u_ws RX6 TX6 10, w ∈ wsX6_phaseBehind := fun _ h => List.mem_cons_of_mem _ (List.mem_append_right _ h)
theorem mX6_phaseBehind_f9 : Cond.fieldLink RX6 9 "BarrierLights$Ring" "phase" "I" ∈ wsX6_phaseBehind := by decide +kernel
theorem mX6_phaseBehind_iX8 : Cond.initialized RX8 ∈ wsX6_phaseBehind := by decide +kernel
theorem mX6_phaseBehind_sX8_bit : Cond.static yX8_bit ∈ wsX6_phaseBehind := by decide +kernel
set_option maxRecDepth 100000 in
set_option maxHeartbeats 4000000 in
theorem k_X6_phaseBehind {l : Launch} {D : va_G} {ad : Nat → Nat} {aI aZ aF : ClassId} {b : Nat} (hb : isR b) {K : Mem} {u : Int32} (hf : f_X6_phaseBehind b K = some u) : cI (EC l D ad aI aZ aF) yX6_phaseBehind wsX6_phaseBehind rmX6_phaseBehind [.ref (ad b)] K u K := by
  rw [f_X6_phaseBehind] at hf
  refine j_entI (cc := cX6_phaseBehind) (maxL := 1) (EC_ok l D ad aI aZ aF) (Or.inl rfl) (by decide) rfl (Nat.le_of_ble_eq_true rfl) (fun G C ret => ?_)
  refine j_sub [0] (lv2 := [(0, .ref (ad b))]) rfl ?_
  refine j_aload_n C 0 dX6_phaseBehind_0 rfl rfl ?_
  obtain ⟨u1, h2, hf⟩ := bd hf
  refine j_cVI C [] gX6_phaseBehind_X6_waits rfl hdX6_waits ⟨⟨rfl, rfl⟩, Nat.le_of_ble_eq_true rfl, Nat.le_of_ble_eq_true rfl⟩ rfl (g_R hb) rfl (k_X6_waits hb h2) dX6_phaseBehind_1 rfl (Nat.le_of_ble_eq_true rfl) ?_
  refine j_if_ne C 16 dX6_phaseBehind_4 (by decide) hf (fun hf => ?_) (fun hf => ?_)
  · refine j_aload_n C 0 dX6_phaseBehind_7 rfl rfl ?_
    refine j_get C 0 iX6_phaseBehind_X6 (g_R hb) rfl (by decide) mX6_phaseBehind_f9 rfl rfl dX6_phaseBehind_8 ?_
    refine j_iconst C (v := 2) dX6_phaseBehind_11 (by decide) ?_
    refine j_irem C dX6_phaseBehind_12 (by decide) ?_
    refine j_if_eq C 20 dX6_phaseBehind_13 (by decide) hf (fun hf => ?_) (fun hf => ?_)
    · refine j_aload_n C 0 dX6_phaseBehind_20 rfl rfl ?_
      refine j_get C 0 iX6_phaseBehind_X6 (g_R hb) rfl (by decide) mX6_phaseBehind_f9 rfl rfl dX6_phaseBehind_21 ?_
      refine j_iconst C (v := 1) dX6_phaseBehind_24 (by decide) ?_
      refine j_iadd C dX6_phaseBehind_25 ?_
      obtain ⟨u3, h4, hf⟩ := bd hf
      refine j_cNI C [.int (((K b 0) + 1))] gX6_phaseBehind_X8_bit_n43 rfl nm_RX6_43 mX6_phaseBehind_iX8 mX6_phaseBehind_sX8_bit hdX8_bit.2 ⟨⟨rfl, rfl⟩, Nat.le_of_ble_eq_true rfl, Nat.le_of_ble_eq_true rfl⟩ rfl (k_X8_bit h4) dX6_phaseBehind_26 rfl (Nat.le_of_ble_eq_true rfl) ?_
      cases hf
      exact ret _ _ dX6_phaseBehind_29 (fun h => by cases h)
    · refine j_iconst C (v := 0) dX6_phaseBehind_16 (by decide) ?_
      refine j_goto C 29 dX6_phaseBehind_17 (by decide) ?_
      cases hf
      exact ret _ _ dX6_phaseBehind_29 (fun h => by cases h)
  · refine j_iconst C (v := 0) dX6_phaseBehind_16 (by decide) ?_
    refine j_goto C 29 dX6_phaseBehind_17 (by decide) ?_
    cases hf
    exact ret _ _ dX6_phaseBehind_29 (fun h => by cases h)
/-- BarrierLights$Controller.weigh(LBarrierLights$Ring;I)V -/
def f_X0_weigh (b : Nat) (p1 : Nat) (p2 : Int32) (K : Mem) : Option (Mem) := (f_X6_phaseBefore (b + 16) K).bind fun u1 => (f_X6_phaseBefore (b + 17) K).bind fun u3 => lt (u1 ||| u3) fun x5 => (f_X8_phasesOfSide (1 - (K b 12)) K).bind fun u6 => (if (p2 &&& (u6 ||| x5)) = 0 then (some 0) else (some 1) : Option (Int32)).bind fun v8 => lt v8 fun x11 => (f_X6_phaseBehind p1 K).bind fun u12 => (if (p2 &&& u12) = 0 then (some (-1)) else (some ((K p1 0) + 1)) : Option (Int32)).bind fun v14 => st K p1 2 v14 fun K17 => if x11 = 0 then (if (K17 p1 2) = (-1) then (st K17 p1 3 0 fun K18 => some K18) else (st K17 p1 3 1 fun K19 => some K19)) else (st K17 p1 3 1 fun K20 => some K20)
abbrev rmX0_weigh : Room := { frames := 2, cells := 0, slots := 0, locals := 40 }
theorem iX0_weigh_X0 : ∀ w ∈ u_ws RX0 TX0 16, w ∈ wsX0_weigh := fun _ h => List.mem_cons_of_mem _ (List.mem_append_left _ (List.mem_append_right _ h))
theorem mX0_weigh_f52 : Cond.fieldLink RX0 52 "BarrierLights$Controller" "ring0" "LBarrierLights$Ring;" ∈ wsX0_weigh := by decide +kernel
theorem hdX6_phaseBefore : yX6_phaseBefore.cls = RX6 ∧ yX6_phaseBefore.cls ≠ "java/lang/invoke/MethodHandle" ∧ yX6_phaseBefore.cls ≠ "java/lang/invoke/VarHandle" ∧ (parseMethodDescriptor yX6_phaseBefore.desc).map (fun d => d.parameters.length) = some 0 := by decide +kernel
theorem mX0_weigh_f56 : Cond.fieldLink RX0 56 "BarrierLights$Controller" "ring1" "LBarrierLights$Ring;" ∈ wsX0_weigh := by decide +kernel
theorem mX0_weigh_f73 : Cond.fieldLink RX0 73 "BarrierLights$Controller" "side" "I" ∈ wsX0_weigh := by decide +kernel
theorem mX0_weigh_iX8 : Cond.initialized RX8 ∈ wsX0_weigh := by decide +kernel
theorem mX0_weigh_sX8_phasesOfSide : Cond.static yX8_phasesOfSide ∈ wsX0_weigh := by decide +kernel
theorem hdX8_phasesOfSide : yX8_phasesOfSide.cls = RX8 ∧ yX8_phasesOfSide.cls ≠ "java/lang/invoke/MethodHandle" ∧ yX8_phasesOfSide.cls ≠ "java/lang/invoke/VarHandle" ∧ (parseMethodDescriptor yX8_phasesOfSide.desc).map (fun d => d.parameters.length) = some 1 := by decide +kernel
theorem hdX6_phaseBehind : yX6_phaseBehind.cls = RX6 ∧ yX6_phaseBehind.cls ≠ "java/lang/invoke/MethodHandle" ∧ yX6_phaseBehind.cls ≠ "java/lang/invoke/VarHandle" ∧ (parseMethodDescriptor yX6_phaseBehind.desc).map (fun d => d.parameters.length) = some 0 := by decide +kernel
theorem iX0_weigh_X6 : ∀ w ∈ u_ws RX6 TX6 10, w ∈ wsX0_weigh := fun _ h => List.mem_cons_of_mem _ (List.mem_append_right _ h)
set_option maxRecDepth 100000 in
set_option maxHeartbeats 4000000 in
theorem k_X0_weigh {l : Launch} {D : va_G} {ad : Nat → Nat} {aI aZ aF : ClassId} {b : Nat} {p1 : Nat} {p2 : Int32} (hb : isC b) (h1 : isR p1) {K : Mem} {u : Mem} (hf : f_X0_weigh b p1 p2 K = some u) : cV (EC l D ad aI aZ aF) yX0_weigh wsX0_weigh rmX0_weigh [.ref (ad b), .ref (ad p1), .int p2] K u := by
  rw [f_X0_weigh] at hf
  refine j_entV (cc := cX0_weigh) (maxL := 5) (EC_ok l D ad aI aZ aF) (by decide) rfl (Nat.le_of_ble_eq_true rfl) (fun G C ret => ?_)
  refine j_sub [0, 1, 2] (lv2 := [(0, .ref (ad b)), (1, .ref (ad p1)), (2, .int p2)]) rfl ?_
  refine j_aload_n C 0 dX0_weigh_0 rfl rfl ?_
  refine j_get C 6 iX0_weigh_X0 (g_C hb) rfl (by decide) mX0_weigh_f52 rfl rfl dX0_weigh_1 ?_
  obtain ⟨u1, h2, hf⟩ := bd hf
  refine j_cVI C [] gX0_weigh_X6_phaseBefore rfl hdX6_phaseBefore ⟨⟨rfl, rfl⟩, Nat.le_of_ble_eq_true rfl, Nat.le_of_ble_eq_true rfl⟩ rfl (g_R (isC_R0 hb)) rfl (k_X6_phaseBefore (isC_R0 hb) h2) dX0_weigh_4 rfl (Nat.le_of_ble_eq_true rfl) ?_
  refine j_aload_n C 0 dX0_weigh_7 rfl rfl ?_
  refine j_get C 7 iX0_weigh_X0 (g_C hb) rfl (by decide) mX0_weigh_f56 rfl rfl dX0_weigh_8 ?_
  obtain ⟨u3, h4, hf⟩ := bd hf
  refine j_cVI C [] gX0_weigh_X6_phaseBefore rfl hdX6_phaseBefore ⟨⟨rfl, rfl⟩, Nat.le_of_ble_eq_true rfl, Nat.le_of_ble_eq_true rfl⟩ rfl (g_R (isC_R1 hb)) rfl (k_X6_phaseBefore (isC_R1 hb) h4) dX0_weigh_11 rfl (Nat.le_of_ble_eq_true rfl) ?_
  refine j_ior C dX0_weigh_14 ?_
  refine j_istore_n C (fun y => [(3, .int y), (0, .ref (ad b)), (1, .ref (ad p1)), (2, .int p2)]) dX0_weigh_15 rfl (by decide) (fun _ => rfl) hf (fun x5 hf => ?_)
  refine j_iload_n C 3 dX0_weigh_16 rfl rfl ?_
  refine j_iconst C (v := 1) dX0_weigh_17 (by decide) ?_
  refine j_aload_n C 1 dX0_weigh_18 rfl rfl ?_
  refine j_get C 12 iX0_weigh_X0 (g_C hb) rfl (by decide) mX0_weigh_f73 rfl rfl dX0_weigh_19 ?_
  refine j_isub C dX0_weigh_22 ?_
  obtain ⟨u6, h7, hf⟩ := bd hf
  refine j_cNI C [.int ((1 - (K b 12)))] gX0_weigh_X8_phasesOfSide_n210 rfl nm_RX0_210 mX0_weigh_iX8 mX0_weigh_sX8_phasesOfSide hdX8_phasesOfSide.2 ⟨⟨rfl, rfl⟩, Nat.le_of_ble_eq_true rfl, Nat.le_of_ble_eq_true rfl⟩ rfl (k_X8_phasesOfSide h7) dX0_weigh_23 rfl (Nat.le_of_ble_eq_true rfl) ?_
  refine j_iload_n C 0 dX0_weigh_26 rfl rfl ?_
  refine j_ior C dX0_weigh_27 ?_
  refine j_iand C dX0_weigh_28 ?_
  obtain ⟨v8, h9, hf⟩ := bd hf
  have jj10 : jW (EC l D ad aI aZ aF) G K 37 [(0, .ref (ad b)), (1, .ref (ad p1)), (2, .int p2), (3, .int x5)] [.int v8] := by
    refine j_istore C (fun y => [(4, .int y), (0, .ref (ad b)), (1, .ref (ad p1)), (2, .int p2), (3, .int x5)]) dX0_weigh_37 (by decide) (fun _ => rfl) hf (fun x11 hf => ?_)
    refine j_aload_n C 2 dX0_weigh_39 rfl rfl ?_
    refine j_iload_n C 3 dX0_weigh_40 rfl rfl ?_
    refine j_aload_n C 2 dX0_weigh_41 rfl rfl ?_
    obtain ⟨u12, h13, hf⟩ := bd hf
    refine j_cVI C [] gX0_weigh_X6_phaseBehind rfl hdX6_phaseBehind ⟨⟨rfl, rfl⟩, Nat.le_of_ble_eq_true rfl, Nat.le_of_ble_eq_true rfl⟩ rfl (g_R h1) rfl (k_X6_phaseBehind h1 h13) dX0_weigh_42 rfl (Nat.le_of_ble_eq_true rfl) ?_
    refine j_iand C dX0_weigh_45 ?_
    obtain ⟨v14, h15, hf⟩ := bd hf
    have jj16 : jW (EC l D ad aI aZ aF) G K 59 [(0, .ref (ad b)), (1, .ref (ad p1)), (2, .int p2), (3, .int x5), (4, .int x11)] [.int v14, .ref (ad p1)] := by
      refine j_putN C (ty := .int) 2 iX0_weigh_X6 tyX6 tyX6_ok nmX6 (g_R h1) (s_R_2 h1 _) rfl (by decide) nf_RX0_216 rfl rfl (by decide +kernel) rfl rfl (Nat.le_of_ble_eq_true rfl) dX0_weigh_59 hf (fun K17 hf => ?_)
      refine j_aload_n C 1 dX0_weigh_62 rfl rfl ?_
      refine j_iload C 4 dX0_weigh_63 rfl ?_
      refine j_if_ne C 76 dX0_weigh_65 (by decide) hf (fun hf => ?_) (fun hf => ?_)
      · refine j_aload_n C 1 dX0_weigh_68 rfl rfl ?_
        refine j_getN C 2 iX0_weigh_X6 (g_R h1) rfl (by decide) nf_RX0_216 rfl rfl dX0_weigh_69 ?_
        refine j_iconst C (v := (-1)) dX0_weigh_72 (by decide) ?_
        refine j_icmp_eq C 80 dX0_weigh_73 (by decide) hf (fun hf => ?_) (fun hf => ?_)
        · refine j_iconst C (v := 0) dX0_weigh_80 (by decide) ?_
          refine j_putN C (ty := .boolean) 3 iX0_weigh_X6 tyX6 tyX6_ok nmX6 (g_R h1) (s_R_3 h1 _) rfl (by decide) nf_RX0_192 rfl rfl (by decide +kernel) rfl rfl (Nat.le_of_ble_eq_true rfl) dX0_weigh_81 hf (fun K18 hf => ?_)
          cases hf
          exact ret _ _ dX0_weigh_84
        · refine j_iconst C (v := 1) dX0_weigh_76 (by decide) ?_
          refine j_goto C 81 dX0_weigh_77 (by decide) ?_
          refine j_putN C (ty := .boolean) 3 iX0_weigh_X6 tyX6 tyX6_ok nmX6 (g_R h1) (s_R_3 h1 _) rfl (by decide) nf_RX0_192 rfl rfl (by decide +kernel) rfl rfl (Nat.le_of_ble_eq_true rfl) dX0_weigh_81 hf (fun K19 hf => ?_)
          cases hf
          exact ret _ _ dX0_weigh_84
      · refine j_iconst C (v := 1) dX0_weigh_76 (by decide) ?_
        refine j_goto C 81 dX0_weigh_77 (by decide) ?_
        refine j_putN C (ty := .boolean) 3 iX0_weigh_X6 tyX6 tyX6_ok nmX6 (g_R h1) (s_R_3 h1 _) rfl (by decide) nf_RX0_192 rfl rfl (by decide +kernel) rfl rfl (Nat.le_of_ble_eq_true rfl) dX0_weigh_81 hf (fun K20 hf => ?_)
        cases hf
        exact ret _ _ dX0_weigh_84
    clear hf
    have hf := h15
    clear h15
    refine j_if_eq C 58 dX0_weigh_46 (by decide) hf (fun hf => ?_) (fun hf => ?_)
    · refine j_iconst C (v := (-1)) dX0_weigh_58 (by decide) ?_
      cases hf
      refine j_sub [1, 2, 3, 4, 0] rfl ?_
      exact jj16
    · refine j_aload_n C 2 dX0_weigh_49 rfl rfl ?_
      refine j_getN C 0 iX0_weigh_X6 (g_R h1) rfl (by decide) nf_RX0_157 rfl rfl dX0_weigh_50 ?_
      refine j_iconst C (v := 1) dX0_weigh_53 (by decide) ?_
      refine j_iadd C dX0_weigh_54 ?_
      refine j_goto C 59 dX0_weigh_55 (by decide) ?_
      cases hf
      refine j_sub [1, 2, 3, 4, 0] rfl ?_
      exact jj16
  clear hf
  have hf := h9
  clear h9
  refine j_if_eq C 36 dX0_weigh_29 (by decide) hf (fun hf => ?_) (fun hf => ?_)
  · refine j_iconst C (v := 0) dX0_weigh_36 (by decide) ?_
    cases hf
    refine j_sub [1, 2, 3, 0] rfl ?_
    exact jj10
  · refine j_iconst C (v := 1) dX0_weigh_32 (by decide) ?_
    refine j_goto C 37 dX0_weigh_33 (by decide) ?_
    cases hf
    refine j_sub [1, 2, 3, 0] rfl ?_
    exact jj10
/-- BarrierLights$Inputs.targetInForce(I)I -/
def f_X2_targetInForce (b : Nat) (p1 : Int32) (K : Mem) : Option (Int32) := lt (-1) fun x1 => if inb 0 2 = true then ((if (K (b + 1) (ix 0)) = 0 then (if inb 1 2 = true then (if (K (b + 1) (ix 1)) = 0 then (some x1) else (if inb 1 2 = true then (lt (K (b + 2) (ix 1)) fun x5 => some x5) else none)) else none) else (if inb 0 2 = true then (lt (K (b + 2) (ix 0)) fun x6 => some x6) else none) : Option (Int32)).bind fun v2 => (f_X8_bit v2 K).bind fun u7 => if (p1 &&& u7) = 0 then (some (-1)) else (some v2)) else none
abbrev rmX2_targetInForce : Room := { frames := 1, cells := 0, slots := 0, locals := 20 }
theorem iX2_targetInForce_X2 : ∀ w ∈ u_ws RX2 TX2 2, w ∈ wsX2_targetInForce := fun _ h => List.mem_cons_of_mem _ (List.mem_append_right _ h)
theorem mX2_targetInForce_f9 : Cond.fieldLink RX2 9 "BarrierLights$Inputs" "on" "[Z" ∈ wsX2_targetInForce := by decide +kernel
theorem mX2_targetInForce_f15 : Cond.fieldLink RX2 15 "BarrierLights$Inputs" "targets" "[I" ∈ wsX2_targetInForce := by decide +kernel
theorem mX2_targetInForce_iX8 : Cond.initialized RX8 ∈ wsX2_targetInForce := by decide +kernel
theorem mX2_targetInForce_sX8_bit : Cond.static yX8_bit ∈ wsX2_targetInForce := by decide +kernel
set_option maxRecDepth 100000 in
set_option maxHeartbeats 4000000 in
theorem k_X2_targetInForce {l : Launch} {D : va_G} {ad : Nat → Nat} {aI aZ aF : ClassId} {b : Nat} {p1 : Int32} (hb : isN b) {K : Mem} {u : Int32} (hf : f_X2_targetInForce b p1 K = some u) : cI (EC l D ad aI aZ aF) yX2_targetInForce wsX2_targetInForce rmX2_targetInForce [.ref (ad b), .int p1] K u K := by
  rw [f_X2_targetInForce] at hf
  refine j_entI (cc := cX2_targetInForce) (maxL := 3) (EC_ok l D ad aI aZ aF) (Or.inl rfl) (by decide) rfl (Nat.le_of_ble_eq_true rfl) (fun G C ret => ?_)
  refine j_sub [0, 1] (lv2 := [(0, .ref (ad b)), (1, .int p1)]) rfl ?_
  refine j_iconst C (v := (-1)) dX2_targetInForce_0 (by decide) ?_
  refine j_istore_n C (fun y => [(2, .int y), (0, .ref (ad b)), (1, .int p1)]) dX2_targetInForce_1 rfl (by decide) (fun _ => rfl) hf (fun x1 hf => ?_)
  refine j_aload_n C 1 dX2_targetInForce_2 rfl rfl ?_
  refine j_get C 0 iX2_targetInForce_X2 (g_N hb) rfl (by decide) mX2_targetInForce_f9 rfl rfl dX2_targetInForce_3 ?_
  refine j_iconst C (v := 0) dX2_targetInForce_6 (by decide) ?_
  refine j_zald C 1 (g_N1 hb) rfl dX2_targetInForce_7 hf (fun hf => ?_)
  obtain ⟨v2, h3, hf⟩ := bd hf
  have jj4 : jW (EC l D ad aI aZ aF) G K 37 [(0, .ref (ad b)), (1, .int p1), (2, .int v2)] [] := by
    refine j_iload_n C 1 dX2_targetInForce_37 rfl rfl ?_
    refine j_iload_n C 2 dX2_targetInForce_38 rfl rfl ?_
    obtain ⟨u7, h8, hf⟩ := bd hf
    refine j_cNI C [.int v2] gX2_targetInForce_X8_bit_n23 rfl nm_RX2_23 mX2_targetInForce_iX8 mX2_targetInForce_sX8_bit hdX8_bit.2 ⟨⟨rfl, rfl⟩, Nat.le_of_ble_eq_true rfl, Nat.le_of_ble_eq_true rfl⟩ rfl (k_X8_bit h8) dX2_targetInForce_39 rfl (Nat.le_of_ble_eq_true rfl) ?_
    refine j_iand C dX2_targetInForce_42 ?_
    refine j_if_eq C 50 dX2_targetInForce_43 (by decide) hf (fun hf => ?_) (fun hf => ?_)
    · refine j_iconst C (v := (-1)) dX2_targetInForce_50 (by decide) ?_
      cases hf
      exact ret _ _ dX2_targetInForce_51 (fun h => by cases h)
    · refine j_iload_n C 2 dX2_targetInForce_46 rfl rfl ?_
      refine j_goto C 51 dX2_targetInForce_47 (by decide) ?_
      cases hf
      exact ret _ _ dX2_targetInForce_51 (fun h => by cases h)
  clear hf
  have hf := h3
  clear h3
  refine j_if_eq C 21 dX2_targetInForce_8 (by decide) hf (fun hf => ?_) (fun hf => ?_)
  · refine j_aload_n C 1 dX2_targetInForce_21 rfl rfl ?_
    refine j_get C 0 iX2_targetInForce_X2 (g_N hb) rfl (by decide) mX2_targetInForce_f9 rfl rfl dX2_targetInForce_22 ?_
    refine j_iconst C (v := 1) dX2_targetInForce_25 (by decide) ?_
    refine j_zald C 1 (g_N1 hb) rfl dX2_targetInForce_26 hf (fun hf => ?_)
    refine j_if_eq C 37 dX2_targetInForce_27 (by decide) hf (fun hf => ?_) (fun hf => ?_)
    · cases hf
      refine j_sub [1, 2, 0] rfl ?_
      exact jj4
    · refine j_aload_n C 1 dX2_targetInForce_30 rfl rfl ?_
      refine j_get C 1 iX2_targetInForce_X2 (g_N hb) rfl (by decide) mX2_targetInForce_f15 rfl rfl dX2_targetInForce_31 ?_
      refine j_iconst C (v := 1) dX2_targetInForce_34 (by decide) ?_
      refine j_iald C 0 (g_N2 hb) rfl dX2_targetInForce_35 hf (fun hf => ?_)
      refine j_istore_n C (fun y => [(2, .int y), (0, .ref (ad b)), (1, .int p1)]) dX2_targetInForce_36 rfl (by decide) (fun _ => rfl) hf (fun x5 hf => ?_)
      cases hf
      refine j_sub [1, 2, 0] rfl ?_
      exact jj4
  · refine j_aload_n C 1 dX2_targetInForce_11 rfl rfl ?_
    refine j_get C 1 iX2_targetInForce_X2 (g_N hb) rfl (by decide) mX2_targetInForce_f15 rfl rfl dX2_targetInForce_12 ?_
    refine j_iconst C (v := 0) dX2_targetInForce_15 (by decide) ?_
    refine j_iald C 0 (g_N2 hb) rfl dX2_targetInForce_16 hf (fun hf => ?_)
    refine j_istore_n C (fun y => [(2, .int y), (0, .ref (ad b)), (1, .int p1)]) dX2_targetInForce_17 rfl (by decide) (fun _ => rfl) hf (fun x6 hf => ?_)
    refine j_goto C 37 dX2_targetInForce_18 (by decide) ?_
    cases hf
    refine j_sub [1, 2, 0] rfl ?_
    exact jj4
/-- BarrierLights$Ring.show(I)V -/
def f_X6_show (b : Nat) (p1 : Int32) (K : Mem) : Option (Mem) := st K b 4 p1 fun K1 => st K1 b 5 0 fun K2 => some K2
abbrev rmX6_show : Room := { frames := 0, cells := 0, slots := 0, locals := 0 }
theorem iX6_show_X6 : ∀ w ∈ u_ws RX6 TX6 10, w ∈ wsX6_show := fun _ h => List.mem_cons_of_mem _ (List.mem_append_right _ h)
theorem mX6_show_f25 : Cond.fieldLink RX6 25 "BarrierLights$Ring" "lamps" "I" ∈ wsX6_show := by decide +kernel
theorem mX6_show_f28 : Cond.fieldLink RX6 28 "BarrierLights$Ring" "age" "I" ∈ wsX6_show := by decide +kernel
set_option maxRecDepth 100000 in
set_option maxHeartbeats 4000000 in
theorem k_X6_show {l : Launch} {D : va_G} {ad : Nat → Nat} {aI aZ aF : ClassId} {b : Nat} {p1 : Int32} (hb : isR b) {K : Mem} {u : Mem} (hf : f_X6_show b p1 K = some u) : cV (EC l D ad aI aZ aF) yX6_show wsX6_show rmX6_show [.ref (ad b), .int p1] K u := by
  rw [f_X6_show] at hf
  refine j_entV (cc := cX6_show) (maxL := 2) (EC_ok l D ad aI aZ aF) (by decide) rfl (Nat.le_of_ble_eq_true rfl) (fun G C ret => ?_)
  refine j_sub [0, 1] (lv2 := [(0, .ref (ad b)), (1, .int p1)]) rfl ?_
  refine j_aload_n C 0 dX6_show_0 rfl rfl ?_
  refine j_iload_n C 1 dX6_show_1 rfl rfl ?_
  refine j_put C (ty := .int) 4 iX6_show_X6 tyX6 tyX6_ok nmX6 (g_R hb) (s_R_4 hb _) rfl (by decide) mX6_show_f25 rfl rfl (by decide +kernel) rfl rfl (Nat.le_of_ble_eq_true rfl) dX6_show_2 hf (fun K1 hf => ?_)
  refine j_aload_n C 0 dX6_show_5 rfl rfl ?_
  refine j_iconst C (v := 0) dX6_show_6 (by decide) ?_
  refine j_put C (ty := .int) 5 iX6_show_X6 tyX6 tyX6_ok nmX6 (g_R hb) (s_R_5 hb _) rfl (by decide) mX6_show_f28 rfl rfl (by decide +kernel) rfl rfl (Nat.le_of_ble_eq_true rfl) dX6_show_7 hf (fun K2 hf => ?_)
  cases hf
  exact ret _ _ dX6_show_10
/-- BarrierLights$Ring.begin(II)V -/
def f_X6_begin (b : Nat) (p1 : Int32) (p2 : Int32) (K : Mem) : Option (Mem) := st K b 0 p1 fun K1 => st K1 b 1 (-1) fun K2 => st K2 b 6 0 fun K3 => st K3 b 7 p2 fun K4 => st K4 b 8 0 fun K5 => (f_X6_show b 4 K5).bind fun u6 => some u6
abbrev rmX6_begin : Room := { frames := 1, cells := 0, slots := 0, locals := 21 }
theorem iX6_begin_X6 : ∀ w ∈ u_ws RX6 TX6 10, w ∈ wsX6_begin := fun _ h => List.mem_cons_of_mem _ (List.mem_append_right _ h)
theorem mX6_begin_f9 : Cond.fieldLink RX6 9 "BarrierLights$Ring" "phase" "I" ∈ wsX6_begin := by decide +kernel
theorem mX6_begin_f15 : Cond.fieldLink RX6 15 "BarrierLights$Ring" "next" "I" ∈ wsX6_begin := by decide +kernel
theorem mX6_begin_f31 : Cond.fieldLink RX6 31 "BarrierLights$Ring" "against" "I" ∈ wsX6_begin := by decide +kernel
theorem mX6_begin_f34 : Cond.fieldLink RX6 34 "BarrierLights$Ring" "gap" "I" ∈ wsX6_begin := by decide +kernel
theorem mX6_begin_f37 : Cond.fieldLink RX6 37 "BarrierLights$Ring" "walkSign" "I" ∈ wsX6_begin := by decide +kernel
theorem hdX6_show : yX6_show.cls = RX6 ∧ yX6_show.cls ≠ "java/lang/invoke/MethodHandle" ∧ yX6_show.cls ≠ "java/lang/invoke/VarHandle" ∧ (parseMethodDescriptor yX6_show.desc).map (fun d => d.parameters.length) = some 1 := by decide +kernel
set_option maxRecDepth 100000 in
set_option maxHeartbeats 4000000 in
theorem k_X6_begin {l : Launch} {D : va_G} {ad : Nat → Nat} {aI aZ aF : ClassId} {b : Nat} {p1 : Int32} {p2 : Int32} (hb : isR b) {K : Mem} {u : Mem} (hf : f_X6_begin b p1 p2 K = some u) : cV (EC l D ad aI aZ aF) yX6_begin wsX6_begin rmX6_begin [.ref (ad b), .int p1, .int p2] K u := by
  rw [f_X6_begin] at hf
  refine j_entV (cc := cX6_begin) (maxL := 3) (EC_ok l D ad aI aZ aF) (by decide) rfl (Nat.le_of_ble_eq_true rfl) (fun G C ret => ?_)
  refine j_sub [0, 1, 2] (lv2 := [(0, .ref (ad b)), (1, .int p1), (2, .int p2)]) rfl ?_
  refine j_aload_n C 0 dX6_begin_0 rfl rfl ?_
  refine j_iload_n C 1 dX6_begin_1 rfl rfl ?_
  refine j_put C (ty := .int) 0 iX6_begin_X6 tyX6 tyX6_ok nmX6 (g_R hb) (s_R_0 hb _) rfl (by decide) mX6_begin_f9 rfl rfl (by decide +kernel) rfl rfl (Nat.le_of_ble_eq_true rfl) dX6_begin_2 hf (fun K1 hf => ?_)
  refine j_aload_n C 0 dX6_begin_5 rfl rfl ?_
  refine j_iconst C (v := (-1)) dX6_begin_6 (by decide) ?_
  refine j_put C (ty := .int) 1 iX6_begin_X6 tyX6 tyX6_ok nmX6 (g_R hb) (s_R_1 hb _) rfl (by decide) mX6_begin_f15 rfl rfl (by decide +kernel) rfl rfl (Nat.le_of_ble_eq_true rfl) dX6_begin_7 hf (fun K2 hf => ?_)
  refine j_aload_n C 0 dX6_begin_10 rfl rfl ?_
  refine j_iconst C (v := 0) dX6_begin_11 (by decide) ?_
  refine j_put C (ty := .int) 6 iX6_begin_X6 tyX6 tyX6_ok nmX6 (g_R hb) (s_R_6 hb _) rfl (by decide) mX6_begin_f31 rfl rfl (by decide +kernel) rfl rfl (Nat.le_of_ble_eq_true rfl) dX6_begin_12 hf (fun K3 hf => ?_)
  refine j_aload_n C 0 dX6_begin_15 rfl rfl ?_
  refine j_iload_n C 2 dX6_begin_16 rfl rfl ?_
  refine j_put C (ty := .int) 7 iX6_begin_X6 tyX6 tyX6_ok nmX6 (g_R hb) (s_R_7 hb _) rfl (by decide) mX6_begin_f34 rfl rfl (by decide +kernel) rfl rfl (Nat.le_of_ble_eq_true rfl) dX6_begin_17 hf (fun K4 hf => ?_)
  refine j_aload_n C 0 dX6_begin_20 rfl rfl ?_
  refine j_iconst C (v := 0) dX6_begin_21 (by decide) ?_
  refine j_put C (ty := .int) 8 iX6_begin_X6 tyX6 tyX6_ok nmX6 (g_R hb) (s_R_8 hb _) rfl (by decide) mX6_begin_f37 rfl rfl (by decide +kernel) rfl rfl (Nat.le_of_ble_eq_true rfl) dX6_begin_22 hf (fun K5 hf => ?_)
  refine j_aload_n C 0 dX6_begin_25 rfl rfl ?_
  refine j_iconst C (v := 4) dX6_begin_26 (by decide) ?_
  obtain ⟨u6, h7, hf⟩ := bd hf
  refine j_cVV C [.int 4] gX6_begin_X6_show rfl hdX6_show ⟨⟨rfl, rfl⟩, Nat.le_of_ble_eq_true rfl, Nat.le_of_ble_eq_true rfl⟩ rfl (g_R hb) rfl (k_X6_show hb h7) dX6_begin_27 rfl (Nat.le_of_ble_eq_true rfl) ?_
  cases hf
  exact ret _ _ dX6_begin_30
/-- BarrierLights$Ring.beginWalk()V -/
def f_X6_beginWalk (b : Nat) (K : Mem) : Option (Mem) := st K b 8 4 fun K1 => st K1 b 9 0 fun K2 => some K2
abbrev rmX6_beginWalk : Room := { frames := 0, cells := 0, slots := 0, locals := 0 }
theorem iX6_beginWalk_X6 : ∀ w ∈ u_ws RX6 TX6 10, w ∈ wsX6_beginWalk := fun _ h => List.mem_cons_of_mem _ (List.mem_append_right _ h)
theorem mX6_beginWalk_f37 : Cond.fieldLink RX6 37 "BarrierLights$Ring" "walkSign" "I" ∈ wsX6_beginWalk := by decide +kernel
theorem mX6_beginWalk_f40 : Cond.fieldLink RX6 40 "BarrierLights$Ring" "walkAge" "I" ∈ wsX6_beginWalk := by decide +kernel
set_option maxRecDepth 100000 in
set_option maxHeartbeats 4000000 in
theorem k_X6_beginWalk {l : Launch} {D : va_G} {ad : Nat → Nat} {aI aZ aF : ClassId} {b : Nat} (hb : isR b) {K : Mem} {u : Mem} (hf : f_X6_beginWalk b K = some u) : cV (EC l D ad aI aZ aF) yX6_beginWalk wsX6_beginWalk rmX6_beginWalk [.ref (ad b)] K u := by
  rw [f_X6_beginWalk] at hf
  refine j_entV (cc := cX6_beginWalk) (maxL := 1) (EC_ok l D ad aI aZ aF) (by decide) rfl (Nat.le_of_ble_eq_true rfl) (fun G C ret => ?_)
  refine j_sub [0] (lv2 := [(0, .ref (ad b))]) rfl ?_
  refine j_aload_n C 0 dX6_beginWalk_0 rfl rfl ?_
  refine j_iconst C (v := 4) dX6_beginWalk_1 (by decide) ?_
  refine j_put C (ty := .int) 8 iX6_beginWalk_X6 tyX6 tyX6_ok nmX6 (g_R hb) (s_R_8 hb _) rfl (by decide) mX6_beginWalk_f37 rfl rfl (by decide +kernel) rfl rfl (Nat.le_of_ble_eq_true rfl) dX6_beginWalk_2 hf (fun K1 hf => ?_)
  refine j_aload_n C 0 dX6_beginWalk_5 rfl rfl ?_
  refine j_iconst C (v := 0) dX6_beginWalk_6 (by decide) ?_
  refine j_put C (ty := .int) 9 iX6_beginWalk_X6 tyX6 tyX6_ok nmX6 (g_R hb) (s_R_9 hb _) rfl (by decide) mX6_beginWalk_f40 rfl rfl (by decide +kernel) rfl rfl (Nat.le_of_ble_eq_true rfl) dX6_beginWalk_7 hf (fun K2 hf => ?_)
  cases hf
  exact ret _ _ dX6_beginWalk_10
/-- BarrierLights$Controller.beginWalk(LBarrierLights$Ring;)V -/
def f_X0_beginWalk (b : Nat) (p1 : Nat) (K : Mem) : Option (Mem) := (f_X6_beginWalk p1 K).bind fun u1 => (f_X8_bit (u1 p1 0) u1).bind fun u3 => st u1 b 14 ((u1 b 14) &&& (u3 ^^^ (-1))) fun K5 => some K5
abbrev rmX0_beginWalk : Room := { frames := 1, cells := 0, slots := 0, locals := 20 }
theorem hdX6_beginWalk : yX6_beginWalk.cls = RX6 ∧ yX6_beginWalk.cls ≠ "java/lang/invoke/MethodHandle" ∧ yX6_beginWalk.cls ≠ "java/lang/invoke/VarHandle" ∧ (parseMethodDescriptor yX6_beginWalk.desc).map (fun d => d.parameters.length) = some 0 := by decide +kernel
theorem iX0_beginWalk_X0 : ∀ w ∈ u_ws RX0 TX0 16, w ∈ wsX0_beginWalk := fun _ h => List.mem_cons_of_mem _ (List.mem_append_left _ (List.mem_append_right _ h))
theorem mX0_beginWalk_f79 : Cond.fieldLink RX0 79 "BarrierLights$Controller" "walkCalls" "I" ∈ wsX0_beginWalk := by decide +kernel
theorem iX0_beginWalk_X6 : ∀ w ∈ u_ws RX6 TX6 10, w ∈ wsX0_beginWalk := fun _ h => List.mem_cons_of_mem _ (List.mem_append_right _ h)
theorem mX0_beginWalk_iX8 : Cond.initialized RX8 ∈ wsX0_beginWalk := by decide +kernel
theorem mX0_beginWalk_sX8_bit : Cond.static yX8_bit ∈ wsX0_beginWalk := by decide +kernel
set_option maxRecDepth 100000 in
set_option maxHeartbeats 4000000 in
theorem k_X0_beginWalk {l : Launch} {D : va_G} {ad : Nat → Nat} {aI aZ aF : ClassId} {b : Nat} {p1 : Nat} (hb : isC b) (h1 : isR p1) {K : Mem} {u : Mem} (hf : f_X0_beginWalk b p1 K = some u) : cV (EC l D ad aI aZ aF) yX0_beginWalk wsX0_beginWalk rmX0_beginWalk [.ref (ad b), .ref (ad p1)] K u := by
  rw [f_X0_beginWalk] at hf
  refine j_entV (cc := cX0_beginWalk) (maxL := 2) (EC_ok l D ad aI aZ aF) (by decide) rfl (Nat.le_of_ble_eq_true rfl) (fun G C ret => ?_)
  refine j_sub [0, 1] (lv2 := [(0, .ref (ad b)), (1, .ref (ad p1))]) rfl ?_
  refine j_aload_n C 1 dX0_beginWalk_0 rfl rfl ?_
  obtain ⟨u1, h2, hf⟩ := bd hf
  refine j_cVV C [] gX0_beginWalk_X6_beginWalk rfl hdX6_beginWalk ⟨⟨rfl, rfl⟩, Nat.le_of_ble_eq_true rfl, Nat.le_of_ble_eq_true rfl⟩ rfl (g_R h1) rfl (k_X6_beginWalk h1 h2) dX0_beginWalk_1 rfl (Nat.le_of_ble_eq_true rfl) ?_
  refine j_aload_n C 0 dX0_beginWalk_4 rfl rfl ?_
  refine j_dup C dX0_beginWalk_5 rfl ?_
  refine j_get C 14 iX0_beginWalk_X0 (g_C hb) rfl (by decide) mX0_beginWalk_f79 rfl rfl dX0_beginWalk_6 ?_
  refine j_aload_n C 1 dX0_beginWalk_9 rfl rfl ?_
  refine j_getN C 0 iX0_beginWalk_X6 (g_R h1) rfl (by decide) nf_RX0_157 rfl rfl dX0_beginWalk_10 ?_
  obtain ⟨u3, h4, hf⟩ := bd hf
  refine j_cNI C [.int ((u1 p1 0))] gX0_beginWalk_X8_bit_n104 rfl nm_RX0_104 mX0_beginWalk_iX8 mX0_beginWalk_sX8_bit hdX8_bit.2 ⟨⟨rfl, rfl⟩, Nat.le_of_ble_eq_true rfl, Nat.le_of_ble_eq_true rfl⟩ rfl (k_X8_bit h4) dX0_beginWalk_13 rfl (Nat.le_of_ble_eq_true rfl) ?_
  refine j_iconst C (v := (-1)) dX0_beginWalk_16 (by decide) ?_
  refine j_ixor C dX0_beginWalk_17 ?_
  refine j_iand C dX0_beginWalk_18 ?_
  refine j_put C (ty := .int) 14 iX0_beginWalk_X0 tyX0 tyX0_ok nmX0 (g_C hb) (s_C_14 hb _) rfl (by decide) mX0_beginWalk_f79 rfl rfl (by decide +kernel) rfl rfl (Nat.le_of_ble_eq_true rfl) dX0_beginWalk_19 hf (fun K5 hf => ?_)
  cases hf
  exact ret _ _ dX0_beginWalk_22
/-- BarrierLights$Controller.begin(LBarrierLights$Ring;I)V -/
def f_X0_begin (b : Nat) (p1 : Nat) (p2 : Int32) (K : Mem) : Option (Mem) := (f_X1_extendsGreen (b + 5) p2 K).bind fun u1 => lt u1 fun x3 => (if x3 = 0 then (some 0) else ((f_X7_at (b + 3) p2 1 K).bind fun u7 => some u7) : Option (Int32)).bind fun v4 => (f_X6_begin p1 p2 v4 K).bind fun u9 => (f_X8_bit p2 u9).bind fun u11 => st u9 b 13 ((u9 b 13) &&& (u11 ^^^ (-1))) fun K13 => (f_X8_bit p2 K13).bind fun u14 => (if ((K13 b 14) &&& u14) = 0 then ((f_X7_at (b + 3) p2 7 K13).bind fun u19 => if u19 = 3 then (some 1) else (some 0)) else (some 1) : Option (Int32)).bind fun v16 => lt v16 fun x21 => if x21 = 0 then (some K13) else ((f_X7_at (b + 3) p2 5 K13).bind fun u22 => if u22 = 0 then (some K13) else ((f_X0_beginWalk b p1 K13).bind fun u24 => some u24))
abbrev rmX0_begin : Room := { frames := 2, cells := 0, slots := 0, locals := 43 }
theorem iX0_begin_X0 : ∀ w ∈ u_ws RX0 TX0 16, w ∈ wsX0_begin := fun _ h => List.mem_cons_of_mem _ (List.mem_append_left _ (List.mem_append_left _ (List.mem_append_left _ (List.mem_append_right _ h))))
theorem mX0_begin_f24 : Cond.fieldLink RX0 24 "BarrierLights$Controller" "detectors" "LBarrierLights$Detectors;" ∈ wsX0_begin := by decide +kernel
theorem mX0_begin_f18 : Cond.fieldLink RX0 18 "BarrierLights$Controller" "table" "LBarrierLights$Table;" ∈ wsX0_begin := by decide +kernel
theorem hdX6_begin : yX6_begin.cls = RX6 ∧ yX6_begin.cls ≠ "java/lang/invoke/MethodHandle" ∧ yX6_begin.cls ≠ "java/lang/invoke/VarHandle" ∧ (parseMethodDescriptor yX6_begin.desc).map (fun d => d.parameters.length) = some 2 := by decide +kernel
theorem mX0_begin_f76 : Cond.fieldLink RX0 76 "BarrierLights$Controller" "calls" "I" ∈ wsX0_begin := by decide +kernel
theorem mX0_begin_iX8 : Cond.initialized RX8 ∈ wsX0_begin := by decide +kernel
theorem mX0_begin_sX8_bit : Cond.static yX8_bit ∈ wsX0_begin := by decide +kernel
theorem mX0_begin_f79 : Cond.fieldLink RX0 79 "BarrierLights$Controller" "walkCalls" "I" ∈ wsX0_begin := by decide +kernel
theorem hdX0_beginWalk : yX0_beginWalk.cls = RX0 ∧ yX0_beginWalk.cls ≠ "java/lang/invoke/MethodHandle" ∧ yX0_beginWalk.cls ≠ "java/lang/invoke/VarHandle" ∧ (parseMethodDescriptor yX0_beginWalk.desc).map (fun d => d.parameters.length) = some 1 := by decide +kernel
set_option maxRecDepth 100000 in
set_option maxHeartbeats 4000000 in
theorem k_X0_begin {l : Launch} {D : va_G} {ad : Nat → Nat} {aI aZ aF : ClassId} {b : Nat} {p1 : Nat} {p2 : Int32} (hb : isC b) (h1 : isR p1) {K : Mem} {u : Mem} (hf : f_X0_begin b p1 p2 K = some u) : cV (EC l D ad aI aZ aF) yX0_begin wsX0_begin rmX0_begin [.ref (ad b), .ref (ad p1), .int p2] K u := by
  rw [f_X0_begin] at hf
  refine j_entV (cc := cX0_begin) (maxL := 5) (EC_ok l D ad aI aZ aF) (by decide) rfl (Nat.le_of_ble_eq_true rfl) (fun G C ret => ?_)
  refine j_sub [0, 1, 2] (lv2 := [(0, .ref (ad b)), (1, .ref (ad p1)), (2, .int p2)]) rfl ?_
  refine j_aload_n C 0 dX0_begin_0 rfl rfl ?_
  refine j_get C 2 iX0_begin_X0 (g_C hb) rfl (by decide) mX0_begin_f24 rfl rfl dX0_begin_1 ?_
  refine j_iload_n C 2 dX0_begin_4 rfl rfl ?_
  obtain ⟨u1, h2, hf⟩ := bd hf
  refine j_cVI C [.int p2] gX0_begin_X1_extendsGreen rfl hdX1_extendsGreen ⟨⟨rfl, rfl⟩, Nat.le_of_ble_eq_true rfl, Nat.le_of_ble_eq_true rfl⟩ rfl (g_D (isC_D hb)) rfl (k_X1_extendsGreen (isC_D hb) h2) dX0_begin_5 rfl (Nat.le_of_ble_eq_true rfl) ?_
  refine j_istore_n C (fun y => [(3, .int y), (0, .ref (ad b)), (1, .ref (ad p1)), (2, .int p2)]) dX0_begin_8 rfl (by decide) (fun _ => rfl) hf (fun x3 hf => ?_)
  refine j_aload_n C 2 dX0_begin_9 rfl rfl ?_
  refine j_iload_n C 3 dX0_begin_10 rfl rfl ?_
  refine j_iload_n C 0 dX0_begin_11 rfl rfl ?_
  obtain ⟨v4, h5, hf⟩ := bd hf
  have jj6 : jW (EC l D ad aI aZ aF) G K 28 [(0, .ref (ad b)), (1, .ref (ad p1)), (2, .int p2), (3, .int x3)] [.int v4, .int p2, .ref (ad p1)] := by
    obtain ⟨u9, h10, hf⟩ := bd hf
    refine j_cVV C [.int p2, .int v4] gX0_begin_X6_begin rfl hdX6_begin ⟨⟨rfl, rfl⟩, Nat.le_of_ble_eq_true rfl, Nat.le_of_ble_eq_true rfl⟩ rfl (g_R h1) rfl (k_X6_begin h1 h10) dX0_begin_28 rfl (Nat.le_of_ble_eq_true rfl) ?_
    refine j_aload_n C 0 dX0_begin_31 rfl rfl ?_
    refine j_dup C dX0_begin_32 rfl ?_
    refine j_get C 13 iX0_begin_X0 (g_C hb) rfl (by decide) mX0_begin_f76 rfl rfl dX0_begin_33 ?_
    refine j_iload_n C 2 dX0_begin_36 rfl rfl ?_
    obtain ⟨u11, h12, hf⟩ := bd hf
    refine j_cNI C [.int p2] gX0_begin_X8_bit_n104 rfl nm_RX0_104 mX0_begin_iX8 mX0_begin_sX8_bit hdX8_bit.2 ⟨⟨rfl, rfl⟩, Nat.le_of_ble_eq_true rfl, Nat.le_of_ble_eq_true rfl⟩ rfl (k_X8_bit h12) dX0_begin_37 rfl (Nat.le_of_ble_eq_true rfl) ?_
    refine j_iconst C (v := (-1)) dX0_begin_40 (by decide) ?_
    refine j_ixor C dX0_begin_41 ?_
    refine j_iand C dX0_begin_42 ?_
    refine j_put C (ty := .int) 13 iX0_begin_X0 tyX0 tyX0_ok nmX0 (g_C hb) (s_C_13 hb _) rfl (by decide) mX0_begin_f76 rfl rfl (by decide +kernel) rfl rfl (Nat.le_of_ble_eq_true rfl) dX0_begin_43 hf (fun K13 hf => ?_)
    refine j_aload_n C 0 dX0_begin_46 rfl rfl ?_
    refine j_get C 14 iX0_begin_X0 (g_C hb) rfl (by decide) mX0_begin_f79 rfl rfl dX0_begin_47 ?_
    refine j_iload_n C 2 dX0_begin_50 rfl rfl ?_
    obtain ⟨u14, h15, hf⟩ := bd hf
    refine j_cNI C [.int p2] gX0_begin_X8_bit_n104 rfl nm_RX0_104 mX0_begin_iX8 mX0_begin_sX8_bit hdX8_bit.2 ⟨⟨rfl, rfl⟩, Nat.le_of_ble_eq_true rfl, Nat.le_of_ble_eq_true rfl⟩ rfl (k_X8_bit h15) dX0_begin_51 rfl (Nat.le_of_ble_eq_true rfl) ?_
    refine j_iand C dX0_begin_54 ?_
    obtain ⟨v16, h17, hf⟩ := bd hf
    have jj18 : jW (EC l D ad aI aZ aF) G K13 77 [(0, .ref (ad b)), (1, .ref (ad p1)), (2, .int p2), (3, .int x3)] [.int v16] := by
      refine j_istore C (fun y => [(4, .int y), (0, .ref (ad b)), (1, .ref (ad p1)), (2, .int p2), (3, .int x3)]) dX0_begin_77 (by decide) (fun _ => rfl) hf (fun x21 hf => ?_)
      refine j_iload C 0 dX0_begin_79 rfl ?_
      refine j_if_eq C 101 dX0_begin_81 (by decide) hf (fun hf => ?_) (fun hf => ?_)
      · cases hf
        exact ret _ _ dX0_begin_101
      · refine j_aload_n C 1 dX0_begin_84 rfl rfl ?_
        refine j_get C 1 iX0_begin_X0 (g_C hb) rfl (by decide) mX0_begin_f18 rfl rfl dX0_begin_85 ?_
        refine j_iload_n C 3 dX0_begin_88 rfl rfl ?_
        refine j_iconst C (v := 5) dX0_begin_89 (by decide) ?_
        obtain ⟨u22, h23, hf⟩ := bd hf
        refine j_cVI C [.int p2, .int 5] gX0_begin_X7_at rfl hdX7_at ⟨⟨rfl, rfl⟩, Nat.le_of_ble_eq_true rfl, Nat.le_of_ble_eq_true rfl⟩ rfl (g_T (isC_T3 hb)) rfl (k_X7_at (isC_T3 hb) h23) dX0_begin_90 rfl (Nat.le_of_ble_eq_true rfl) ?_
        refine j_if_eq C 101 dX0_begin_93 (by decide) hf (fun hf => ?_) (fun hf => ?_)
        · cases hf
          exact ret _ _ dX0_begin_101
        · refine j_aload_n C 1 dX0_begin_96 rfl rfl ?_
          refine j_aload_n C 2 dX0_begin_97 rfl rfl ?_
          obtain ⟨u24, h25, hf⟩ := bd hf
          refine j_cVV C [.ref (ad p1)] gX0_begin_X0_beginWalk rfl hdX0_beginWalk ⟨⟨rfl, rfl⟩, Nat.le_of_ble_eq_true rfl, Nat.le_of_ble_eq_true rfl⟩ rfl (g_C hb) rfl (k_X0_beginWalk hb h1 h25) dX0_begin_98 rfl (Nat.le_of_ble_eq_true rfl) ?_
          cases hf
          exact ret _ _ dX0_begin_101
    clear hf
    have hf := h17
    clear h17
    refine j_if_ne C 72 dX0_begin_55 (by decide) hf (fun hf => ?_) (fun hf => ?_)
    · refine j_aload_n C 0 dX0_begin_58 rfl rfl ?_
      refine j_get C 1 iX0_begin_X0 (g_C hb) rfl (by decide) mX0_begin_f18 rfl rfl dX0_begin_59 ?_
      refine j_iload_n C 2 dX0_begin_62 rfl rfl ?_
      refine j_bipush C (v := 7) dX0_begin_63 (by decide) ?_
      obtain ⟨u19, h20, hf⟩ := bd hf
      refine j_cVI C [.int p2, .int 7] gX0_begin_X7_at rfl hdX7_at ⟨⟨rfl, rfl⟩, Nat.le_of_ble_eq_true rfl, Nat.le_of_ble_eq_true rfl⟩ rfl (g_T (isC_T3 hb)) rfl (k_X7_at (isC_T3 hb) h20) dX0_begin_65 rfl (Nat.le_of_ble_eq_true rfl) ?_
      refine j_iconst C (v := 3) dX0_begin_68 (by decide) ?_
      refine j_icmp_ne C 76 dX0_begin_69 (by decide) hf (fun hf => ?_) (fun hf => ?_)
      · refine j_iconst C (v := 1) dX0_begin_72 (by decide) ?_
        refine j_goto C 77 dX0_begin_73 (by decide) ?_
        cases hf
        exact jj18
      · refine j_iconst C (v := 0) dX0_begin_76 (by decide) ?_
        cases hf
        exact jj18
    · refine j_iconst C (v := 1) dX0_begin_72 (by decide) ?_
      refine j_goto C 77 dX0_begin_73 (by decide) ?_
      cases hf
      exact jj18
  clear hf
  have hf := h5
  clear h5
  refine j_if_eq C 27 dX0_begin_12 (by decide) hf (fun hf => ?_) (fun hf => ?_)
  · refine j_iconst C (v := 0) dX0_begin_27 (by decide) ?_
    cases hf
    refine j_sub [1, 2, 3, 0] rfl ?_
    exact jj6
  · refine j_aload_n C 1 dX0_begin_15 rfl rfl ?_
    refine j_get C 1 iX0_begin_X0 (g_C hb) rfl (by decide) mX0_begin_f18 rfl rfl dX0_begin_16 ?_
    refine j_iload_n C 3 dX0_begin_19 rfl rfl ?_
    refine j_iconst C (v := 1) dX0_begin_20 (by decide) ?_
    obtain ⟨u7, h8, hf⟩ := bd hf
    refine j_cVI C [.int p2, .int 1] gX0_begin_X7_at rfl hdX7_at ⟨⟨rfl, rfl⟩, Nat.le_of_ble_eq_true rfl, Nat.le_of_ble_eq_true rfl⟩ rfl (g_T (isC_T3 hb)) rfl (k_X7_at (isC_T3 hb) h8) dX0_begin_21 rfl (Nat.le_of_ble_eq_true rfl) ?_
    refine j_goto C 28 dX0_begin_24 (by decide) ?_
    cases hf
    refine j_sub [1, 2, 3, 0] rfl ?_
    exact jj6
/-- BarrierLights$Controller.end(LBarrierLights$Ring;)V -/
def f_X0_end (b : Nat) (p1 : Nat) (K : Mem) : Option (Mem) := if (K p1 1) = (-1) then ((f_X6_rest p1 K).bind fun u1 => some u1) else ((f_X0_begin b p1 (K p1 1) K).bind fun u3 => some u3)
abbrev rmX0_end : Room := { frames := 3, cells := 0, slots := 0, locals := 67 }
theorem iX0_end_X6 : ∀ w ∈ u_ws RX6 TX6 10, w ∈ wsX0_end := fun _ h => List.mem_cons_of_mem _ (List.mem_append_left _ (List.mem_append_left _ (List.mem_append_left _ (List.mem_append_right _ h))))
theorem hdX0_begin : yX0_begin.cls = RX0 ∧ yX0_begin.cls ≠ "java/lang/invoke/MethodHandle" ∧ yX0_begin.cls ≠ "java/lang/invoke/VarHandle" ∧ (parseMethodDescriptor yX0_begin.desc).map (fun d => d.parameters.length) = some 2 := by decide +kernel
set_option maxRecDepth 100000 in
set_option maxHeartbeats 4000000 in
theorem k_X0_end {l : Launch} {D : va_G} {ad : Nat → Nat} {aI aZ aF : ClassId} {b : Nat} {p1 : Nat} (hb : isC b) (h1 : isR p1) {K : Mem} {u : Mem} (hf : f_X0_end b p1 K = some u) : cV (EC l D ad aI aZ aF) yX0_end wsX0_end rmX0_end [.ref (ad b), .ref (ad p1)] K u := by
  rw [f_X0_end] at hf
  refine j_entV (cc := cX0_end) (maxL := 2) (EC_ok l D ad aI aZ aF) (by decide) rfl (Nat.le_of_ble_eq_true rfl) (fun G C ret => ?_)
  refine j_sub [0, 1] (lv2 := [(0, .ref (ad b)), (1, .ref (ad p1))]) rfl ?_
  refine j_aload_n C 1 dX0_end_0 rfl rfl ?_
  refine j_getN C 1 iX0_end_X6 (g_R h1) rfl (by decide) nf_RX0_219 rfl rfl dX0_end_1 ?_
  refine j_iconst C (v := (-1)) dX0_end_4 (by decide) ?_
  refine j_icmp_ne C 15 dX0_end_5 (by decide) hf (fun hf => ?_) (fun hf => ?_)
  · refine j_aload_n C 1 dX0_end_8 rfl rfl ?_
    obtain ⟨u1, h2, hf⟩ := bd hf
    refine j_cVV C [] gX0_end_X6_rest rfl hdX6_rest ⟨⟨rfl, rfl⟩, Nat.le_of_ble_eq_true rfl, Nat.le_of_ble_eq_true rfl⟩ rfl (g_R h1) rfl (k_X6_rest h1 h2) dX0_end_9 rfl (Nat.le_of_ble_eq_true rfl) ?_
    refine j_goto C 24 dX0_end_12 (by decide) ?_
    cases hf
    exact ret _ _ dX0_end_24
  · refine j_aload_n C 0 dX0_end_15 rfl rfl ?_
    refine j_aload_n C 1 dX0_end_16 rfl rfl ?_
    refine j_aload_n C 1 dX0_end_17 rfl rfl ?_
    refine j_getN C 1 iX0_end_X6 (g_R h1) rfl (by decide) nf_RX0_219 rfl rfl dX0_end_18 ?_
    obtain ⟨u3, h4, hf⟩ := bd hf
    refine j_cVV C [.ref (ad p1), .int ((K p1 1))] gX0_end_X0_begin rfl hdX0_begin ⟨⟨rfl, rfl⟩, Nat.le_of_ble_eq_true rfl, Nat.le_of_ble_eq_true rfl⟩ rfl (g_C hb) rfl (k_X0_begin hb h1 h4) dX0_end_21 rfl (Nat.le_of_ble_eq_true rfl) ?_
    cases hf
    exact ret _ _ dX0_end_24
/-- BarrierLights$Controller.passTimes(LBarrierLights$Ring;)V -/
def f_X0_passTimes (b : Nat) (p1 : Nat) (K : Mem) : Option (Mem) := (f_X6_waits p1 K).bind fun u1 => if u1 = 0 then (st K p1 5 ((K p1 5) + 1) fun K3 => (f_X6_isGreen p1 K3).bind fun u4 => if u4 = 0 then ((if (K3 p1 4) = 2 then ((f_X7_at (b + 3) (K3 p1 0) 3 K3).bind fun u9 => if (K3 p1 5) < u9 then (some K3) else ((f_X6_show p1 1 K3).bind fun u11 => some u11)) else (some K3) : Option (Mem)).bind fun v6 => if (v6 p1 4) = 1 then ((f_X7_at (b + 3) (v6 p1 0) 4 v6).bind fun u13 => if (v6 p1 5) < u13 then (some v6) else ((f_X0_end b p1 v6).bind fun u15 => some u15)) else (some v6)) else ((f_X7_at (b + 3) (K3 p1 0) 5 K3).bind fun u17 => (f_X7_at (b + 3) (K3 p1 0) 6 K3).bind fun u19 => (f_X6_passWalk p1 u17 u19 K3).bind fun u21 => (f_X0_countingCalls b u21).bind fun u23 => (f_X0_weigh b p1 u23 u21).bind fun u25 => if (u25 p1 3) = 0 then (some u25) else ((f_X2_targetInForce (b + 9) (u25 b 10) u25).bind fun u27 => if u27 = (-1) then (st u25 p1 6 ((u25 p1 6) + 1) fun K29 => some K29) else (some u25)))) else (some K)
abbrev rmX0_passTimes : Room := { frames := 4, cells := 0, slots := 0, locals := 88 }
theorem iX0_passTimes_X6 : ∀ w ∈ u_ws RX6 TX6 10, w ∈ wsX0_passTimes := fun _ h => List.mem_cons_of_mem _ (List.mem_append_left _ (List.mem_append_left _ (List.mem_append_left _ (List.mem_append_left _ (List.mem_append_right _ h)))))
theorem iX0_passTimes_X0 : ∀ w ∈ u_ws RX0 TX0 16, w ∈ wsX0_passTimes := fun _ h => List.mem_cons_of_mem _ (List.mem_append_left _ (List.mem_append_left _ (List.mem_append_left _ (List.mem_append_right _ h))))
theorem mX0_passTimes_f18 : Cond.fieldLink RX0 18 "BarrierLights$Controller" "table" "LBarrierLights$Table;" ∈ wsX0_passTimes := by decide +kernel
theorem hdX0_end : yX0_end.cls = RX0 ∧ yX0_end.cls ≠ "java/lang/invoke/MethodHandle" ∧ yX0_end.cls ≠ "java/lang/invoke/VarHandle" ∧ (parseMethodDescriptor yX0_end.desc).map (fun d => d.parameters.length) = some 1 := by decide +kernel
theorem hdX6_passWalk : yX6_passWalk.cls = RX6 ∧ yX6_passWalk.cls ≠ "java/lang/invoke/MethodHandle" ∧ yX6_passWalk.cls ≠ "java/lang/invoke/VarHandle" ∧ (parseMethodDescriptor yX6_passWalk.desc).map (fun d => d.parameters.length) = some 2 := by decide +kernel
theorem hdX0_countingCalls : yX0_countingCalls.cls = RX0 ∧ yX0_countingCalls.cls ≠ "java/lang/invoke/MethodHandle" ∧ yX0_countingCalls.cls ≠ "java/lang/invoke/VarHandle" ∧ (parseMethodDescriptor yX0_countingCalls.desc).map (fun d => d.parameters.length) = some 0 := by decide +kernel
theorem hdX0_weigh : yX0_weigh.cls = RX0 ∧ yX0_weigh.cls ≠ "java/lang/invoke/MethodHandle" ∧ yX0_weigh.cls ≠ "java/lang/invoke/VarHandle" ∧ (parseMethodDescriptor yX0_weigh.desc).map (fun d => d.parameters.length) = some 2 := by decide +kernel
theorem mX0_passTimes_f38 : Cond.fieldLink RX0 38 "BarrierLights$Controller" "inputs" "LBarrierLights$Inputs;" ∈ wsX0_passTimes := by decide +kernel
theorem mX0_passTimes_f67 : Cond.fieldLink RX0 67 "BarrierLights$Controller" "used" "I" ∈ wsX0_passTimes := by decide +kernel
theorem hdX2_targetInForce : yX2_targetInForce.cls = RX2 ∧ yX2_targetInForce.cls ≠ "java/lang/invoke/MethodHandle" ∧ yX2_targetInForce.cls ≠ "java/lang/invoke/VarHandle" ∧ (parseMethodDescriptor yX2_targetInForce.desc).map (fun d => d.parameters.length) = some 1 := by decide +kernel
set_option maxRecDepth 100000 in
set_option maxHeartbeats 4000000 in
theorem k_X0_passTimes {l : Launch} {D : va_G} {ad : Nat → Nat} {aI aZ aF : ClassId} {b : Nat} {p1 : Nat} (hb : isC b) (h1 : isR p1) {K : Mem} {u : Mem} (hf : f_X0_passTimes b p1 K = some u) : cV (EC l D ad aI aZ aF) yX0_passTimes wsX0_passTimes rmX0_passTimes [.ref (ad b), .ref (ad p1)] K u := by
  rw [f_X0_passTimes] at hf
  refine j_entV (cc := cX0_passTimes) (maxL := 2) (EC_ok l D ad aI aZ aF) (by decide) rfl (Nat.le_of_ble_eq_true rfl) (fun G C ret => ?_)
  refine j_sub [0, 1] (lv2 := [(0, .ref (ad b)), (1, .ref (ad p1))]) rfl ?_
  refine j_aload_n C 1 dX0_passTimes_0 rfl rfl ?_
  obtain ⟨u1, h2, hf⟩ := bd hf
  refine j_cVI C [] gX0_passTimes_X6_waits rfl hdX6_waits ⟨⟨rfl, rfl⟩, Nat.le_of_ble_eq_true rfl, Nat.le_of_ble_eq_true rfl⟩ rfl (g_R h1) rfl (k_X6_waits h1 h2) dX0_passTimes_1 rfl (Nat.le_of_ble_eq_true rfl) ?_
  refine j_if_eq C 8 dX0_passTimes_4 (by decide) hf (fun hf => ?_) (fun hf => ?_)
  · refine j_aload_n C 1 dX0_passTimes_8 rfl rfl ?_
    refine j_dup C dX0_passTimes_9 rfl ?_
    refine j_getN C 5 iX0_passTimes_X6 (g_R h1) rfl (by decide) nf_RX0_178 rfl rfl dX0_passTimes_10 ?_
    refine j_iconst C (v := 1) dX0_passTimes_13 (by decide) ?_
    refine j_iadd C dX0_passTimes_14 ?_
    refine j_putN C (ty := .int) 5 iX0_passTimes_X6 tyX6 tyX6_ok nmX6 (g_R h1) (s_R_5 h1 _) rfl (by decide) nf_RX0_178 rfl rfl (by decide +kernel) rfl rfl (Nat.le_of_ble_eq_true rfl) dX0_passTimes_15 hf (fun K3 hf => ?_)
    refine j_aload_n C 1 dX0_passTimes_18 rfl rfl ?_
    obtain ⟨u4, h5, hf⟩ := bd hf
    refine j_cVI C [] gX0_passTimes_X6_isGreen rfl hdX6_isGreen ⟨⟨rfl, rfl⟩, Nat.le_of_ble_eq_true rfl, Nat.le_of_ble_eq_true rfl⟩ rfl (g_R h1) rfl (k_X6_isGreen h1 h5) dX0_passTimes_19 rfl (Nat.le_of_ble_eq_true rfl) ?_
    refine j_if_eq C 96 dX0_passTimes_22 (by decide) hf (fun hf => ?_) (fun hf => ?_)
    · refine j_aload_n C 1 dX0_passTimes_96 rfl rfl ?_
      refine j_getN C 4 iX0_passTimes_X6 (g_R h1) rfl (by decide) nf_RX0_198 rfl rfl dX0_passTimes_97 ?_
      refine j_iconst C (v := 2) dX0_passTimes_100 (by decide) ?_
      obtain ⟨v6, h7, hf⟩ := bd hf
      have jj8 : jW (EC l D ad aI aZ aF) G v6 128 [(0, .ref (ad b)), (1, .ref (ad p1))] [] := by
        refine j_aload_n C 1 dX0_passTimes_128 rfl rfl ?_
        refine j_getN C 4 iX0_passTimes_X6 (g_R h1) rfl (by decide) nf_RX0_198 rfl rfl dX0_passTimes_129 ?_
        refine j_iconst C (v := 1) dX0_passTimes_132 (by decide) ?_
        refine j_icmp_ne C 160 dX0_passTimes_133 (by decide) hf (fun hf => ?_) (fun hf => ?_)
        · refine j_aload_n C 1 dX0_passTimes_136 rfl rfl ?_
          refine j_getN C 5 iX0_passTimes_X6 (g_R h1) rfl (by decide) nf_RX0_178 rfl rfl dX0_passTimes_137 ?_
          refine j_aload_n C 0 dX0_passTimes_140 rfl rfl ?_
          refine j_get C 1 iX0_passTimes_X0 (g_C hb) rfl (by decide) mX0_passTimes_f18 rfl rfl dX0_passTimes_141 ?_
          refine j_aload_n C 1 dX0_passTimes_144 rfl rfl ?_
          refine j_getN C 0 iX0_passTimes_X6 (g_R h1) rfl (by decide) nf_RX0_157 rfl rfl dX0_passTimes_145 ?_
          refine j_iconst C (v := 4) dX0_passTimes_148 (by decide) ?_
          obtain ⟨u13, h14, hf⟩ := bd hf
          refine j_cVI C [.int ((v6 p1 0)), .int 4] gX0_passTimes_X7_at rfl hdX7_at ⟨⟨rfl, rfl⟩, Nat.le_of_ble_eq_true rfl, Nat.le_of_ble_eq_true rfl⟩ rfl (g_T (isC_T3 hb)) rfl (k_X7_at (isC_T3 hb) h14) dX0_passTimes_149 rfl (Nat.le_of_ble_eq_true rfl) ?_
          refine j_icmp_lt C 160 dX0_passTimes_152 (by decide) hf (fun hf => ?_) (fun hf => ?_)
          · cases hf
            exact ret _ _ dX0_passTimes_160
          · refine j_aload_n C 0 dX0_passTimes_155 rfl rfl ?_
            refine j_aload_n C 1 dX0_passTimes_156 rfl rfl ?_
            obtain ⟨u15, h16, hf⟩ := bd hf
            refine j_cVV C [.ref (ad p1)] gX0_passTimes_X0_end rfl hdX0_end ⟨⟨rfl, rfl⟩, Nat.le_of_ble_eq_true rfl, Nat.le_of_ble_eq_true rfl⟩ rfl (g_C hb) rfl (k_X0_end hb h1 h16) dX0_passTimes_157 rfl (Nat.le_of_ble_eq_true rfl) ?_
            cases hf
            exact ret _ _ dX0_passTimes_160
        · cases hf
          exact ret _ _ dX0_passTimes_160
      clear hf
      have hf := h7
      clear h7
      refine j_icmp_ne C 128 dX0_passTimes_101 (by decide) hf (fun hf => ?_) (fun hf => ?_)
      · refine j_aload_n C 1 dX0_passTimes_104 rfl rfl ?_
        refine j_getN C 5 iX0_passTimes_X6 (g_R h1) rfl (by decide) nf_RX0_178 rfl rfl dX0_passTimes_105 ?_
        refine j_aload_n C 0 dX0_passTimes_108 rfl rfl ?_
        refine j_get C 1 iX0_passTimes_X0 (g_C hb) rfl (by decide) mX0_passTimes_f18 rfl rfl dX0_passTimes_109 ?_
        refine j_aload_n C 1 dX0_passTimes_112 rfl rfl ?_
        refine j_getN C 0 iX0_passTimes_X6 (g_R h1) rfl (by decide) nf_RX0_157 rfl rfl dX0_passTimes_113 ?_
        refine j_iconst C (v := 3) dX0_passTimes_116 (by decide) ?_
        obtain ⟨u9, h10, hf⟩ := bd hf
        refine j_cVI C [.int ((K3 p1 0)), .int 3] gX0_passTimes_X7_at rfl hdX7_at ⟨⟨rfl, rfl⟩, Nat.le_of_ble_eq_true rfl, Nat.le_of_ble_eq_true rfl⟩ rfl (g_T (isC_T3 hb)) rfl (k_X7_at (isC_T3 hb) h10) dX0_passTimes_117 rfl (Nat.le_of_ble_eq_true rfl) ?_
        refine j_icmp_lt C 128 dX0_passTimes_120 (by decide) hf (fun hf => ?_) (fun hf => ?_)
        · cases hf
          exact jj8
        · refine j_aload_n C 1 dX0_passTimes_123 rfl rfl ?_
          refine j_iconst C (v := 1) dX0_passTimes_124 (by decide) ?_
          obtain ⟨u11, h12, hf⟩ := bd hf
          refine j_cVV C [.int 1] gX0_passTimes_X6_show rfl hdX6_show ⟨⟨rfl, rfl⟩, Nat.le_of_ble_eq_true rfl, Nat.le_of_ble_eq_true rfl⟩ rfl (g_R h1) rfl (k_X6_show h1 h12) dX0_passTimes_125 rfl (Nat.le_of_ble_eq_true rfl) ?_
          cases hf
          exact jj8
      · cases hf
        exact jj8
    · refine j_aload_n C 1 dX0_passTimes_25 rfl rfl ?_
      refine j_aload_n C 0 dX0_passTimes_26 rfl rfl ?_
      refine j_get C 1 iX0_passTimes_X0 (g_C hb) rfl (by decide) mX0_passTimes_f18 rfl rfl dX0_passTimes_27 ?_
      refine j_aload_n C 1 dX0_passTimes_30 rfl rfl ?_
      refine j_getN C 0 iX0_passTimes_X6 (g_R h1) rfl (by decide) nf_RX0_157 rfl rfl dX0_passTimes_31 ?_
      refine j_iconst C (v := 5) dX0_passTimes_34 (by decide) ?_
      obtain ⟨u17, h18, hf⟩ := bd hf
      refine j_cVI C [.int ((K3 p1 0)), .int 5] gX0_passTimes_X7_at rfl hdX7_at ⟨⟨rfl, rfl⟩, Nat.le_of_ble_eq_true rfl, Nat.le_of_ble_eq_true rfl⟩ rfl (g_T (isC_T3 hb)) rfl (k_X7_at (isC_T3 hb) h18) dX0_passTimes_35 rfl (Nat.le_of_ble_eq_true rfl) ?_
      refine j_aload_n C 0 dX0_passTimes_38 rfl rfl ?_
      refine j_get C 1 iX0_passTimes_X0 (g_C hb) rfl (by decide) mX0_passTimes_f18 rfl rfl dX0_passTimes_39 ?_
      refine j_aload_n C 1 dX0_passTimes_42 rfl rfl ?_
      refine j_getN C 0 iX0_passTimes_X6 (g_R h1) rfl (by decide) nf_RX0_157 rfl rfl dX0_passTimes_43 ?_
      refine j_bipush C (v := 6) dX0_passTimes_46 (by decide) ?_
      obtain ⟨u19, h20, hf⟩ := bd hf
      refine j_cVI C [.int ((K3 p1 0)), .int 6] gX0_passTimes_X7_at rfl hdX7_at ⟨⟨rfl, rfl⟩, Nat.le_of_ble_eq_true rfl, Nat.le_of_ble_eq_true rfl⟩ rfl (g_T (isC_T3 hb)) rfl (k_X7_at (isC_T3 hb) h20) dX0_passTimes_48 rfl (Nat.le_of_ble_eq_true rfl) ?_
      obtain ⟨u21, h22, hf⟩ := bd hf
      refine j_cVV C [.int u17, .int u19] gX0_passTimes_X6_passWalk rfl hdX6_passWalk ⟨⟨rfl, rfl⟩, Nat.le_of_ble_eq_true rfl, Nat.le_of_ble_eq_true rfl⟩ rfl (g_R h1) rfl (k_X6_passWalk h1 h22) dX0_passTimes_51 rfl (Nat.le_of_ble_eq_true rfl) ?_
      refine j_aload_n C 0 dX0_passTimes_54 rfl rfl ?_
      refine j_aload_n C 1 dX0_passTimes_55 rfl rfl ?_
      refine j_aload_n C 0 dX0_passTimes_56 rfl rfl ?_
      obtain ⟨u23, h24, hf⟩ := bd hf
      refine j_cVI C [] gX0_passTimes_X0_countingCalls rfl hdX0_countingCalls ⟨⟨rfl, rfl⟩, Nat.le_of_ble_eq_true rfl, Nat.le_of_ble_eq_true rfl⟩ rfl (g_C hb) rfl (k_X0_countingCalls hb h24) dX0_passTimes_57 rfl (Nat.le_of_ble_eq_true rfl) ?_
      obtain ⟨u25, h26, hf⟩ := bd hf
      refine j_cVV C [.ref (ad p1), .int u23] gX0_passTimes_X0_weigh rfl hdX0_weigh ⟨⟨rfl, rfl⟩, Nat.le_of_ble_eq_true rfl, Nat.le_of_ble_eq_true rfl⟩ rfl (g_C hb) rfl (k_X0_weigh hb h1 h26) dX0_passTimes_60 rfl (Nat.le_of_ble_eq_true rfl) ?_
      refine j_aload_n C 1 dX0_passTimes_63 rfl rfl ?_
      refine j_getN C 3 iX0_passTimes_X6 (g_R h1) rfl (by decide) nf_RX0_192 rfl rfl dX0_passTimes_64 ?_
      refine j_if_eq C 95 dX0_passTimes_67 (by decide) hf (fun hf => ?_) (fun hf => ?_)
      · cases hf
        exact ret _ _ dX0_passTimes_95
      · refine j_aload_n C 0 dX0_passTimes_70 rfl rfl ?_
        refine j_get C 4 iX0_passTimes_X0 (g_C hb) rfl (by decide) mX0_passTimes_f38 rfl rfl dX0_passTimes_71 ?_
        refine j_aload_n C 0 dX0_passTimes_74 rfl rfl ?_
        refine j_get C 10 iX0_passTimes_X0 (g_C hb) rfl (by decide) mX0_passTimes_f67 rfl rfl dX0_passTimes_75 ?_
        obtain ⟨u27, h28, hf⟩ := bd hf
        refine j_cVI C [.int ((u25 b 10))] gX0_passTimes_X2_targetInForce rfl hdX2_targetInForce ⟨⟨rfl, rfl⟩, Nat.le_of_ble_eq_true rfl, Nat.le_of_ble_eq_true rfl⟩ rfl (g_N (isC_N hb)) rfl (k_X2_targetInForce (isC_N hb) h28) dX0_passTimes_78 rfl (Nat.le_of_ble_eq_true rfl) ?_
        refine j_iconst C (v := (-1)) dX0_passTimes_81 (by decide) ?_
        refine j_icmp_ne C 95 dX0_passTimes_82 (by decide) hf (fun hf => ?_) (fun hf => ?_)
        · refine j_aload_n C 1 dX0_passTimes_85 rfl rfl ?_
          refine j_dup C dX0_passTimes_86 rfl ?_
          refine j_getN C 6 iX0_passTimes_X6 (g_R h1) rfl (by decide) nf_RX0_195 rfl rfl dX0_passTimes_87 ?_
          refine j_iconst C (v := 1) dX0_passTimes_90 (by decide) ?_
          refine j_iadd C dX0_passTimes_91 ?_
          refine j_putN C (ty := .int) 6 iX0_passTimes_X6 tyX6 tyX6_ok nmX6 (g_R h1) (s_R_6 h1 _) rfl (by decide) nf_RX0_195 rfl rfl (by decide +kernel) rfl rfl (Nat.le_of_ble_eq_true rfl) dX0_passTimes_92 hf (fun K29 hf => ?_)
          cases hf
          exact ret _ _ dX0_passTimes_95
        · cases hf
          exact ret _ _ dX0_passTimes_95
  · cases hf
    exact ret _ _ dX0_passTimes_7
/-- BarrierLights.sideOf(I)I -/
def f_X8_sideOf (p0 : Int32) (K : Mem) : Option (Int32) := some (jrem (p0 / 2) 2)
abbrev rmX8_sideOf : Room := { frames := 0, cells := 0, slots := 0, locals := 0 }
set_option maxRecDepth 100000 in
set_option maxHeartbeats 4000000 in
theorem k_X8_sideOf {l : Launch} {D : va_G} {ad : Nat → Nat} {aI aZ aF : ClassId} {p0 : Int32} {K : Mem} {u : Int32} (hf : f_X8_sideOf p0 K = some u) : cI (EC l D ad aI aZ aF) yX8_sideOf wsX8_sideOf rmX8_sideOf [.int p0] K u K := by
  rw [f_X8_sideOf] at hf
  refine j_entI (cc := cX8_sideOf) (maxL := 1) (EC_ok l D ad aI aZ aF) (Or.inl rfl) (by decide) rfl (Nat.le_of_ble_eq_true rfl) (fun G C ret => ?_)
  refine j_sub [0] (lv2 := [(0, .int p0)]) rfl ?_
  refine j_iload_n C 0 dX8_sideOf_0 rfl rfl ?_
  refine j_iconst C (v := 2) dX8_sideOf_1 (by decide) ?_
  refine j_idiv C dX8_sideOf_2 (by decide) ?_
  refine j_iconst C (v := 2) dX8_sideOf_3 (by decide) ?_
  refine j_irem C dX8_sideOf_4 (by decide) ?_
  cases hf
  exact ret _ _ dX8_sideOf_5 (fun h => by cases h)
/-- BarrierLights$Controller.goalOf(II)I -/
def f_X0_goalOf (b : Nat) (p1 : Int32) (p2 : Int32) (K : Mem) : Option (Int32) := (f_X8_ringOf p2 K).bind fun u1 => if u1 = p1 then (some p2) else (lt (jrem (p2 + 4) 8) fun x3 => (f_X8_bit x3 K).bind fun u4 => if ((K b 10) &&& u4) = 0 then (some (-1)) else (some x3))
abbrev rmX0_goalOf : Room := { frames := 1, cells := 0, slots := 0, locals := 20 }
theorem mX0_goalOf_iX8 : Cond.initialized RX8 ∈ wsX0_goalOf := by decide +kernel
theorem mX0_goalOf_sX8_ringOf : Cond.static yX8_ringOf ∈ wsX0_goalOf := by decide +kernel
theorem iX0_goalOf_X0 : ∀ w ∈ u_ws RX0 TX0 16, w ∈ wsX0_goalOf := fun _ h => List.mem_cons_of_mem _ (List.mem_append_right _ h)
theorem mX0_goalOf_f67 : Cond.fieldLink RX0 67 "BarrierLights$Controller" "used" "I" ∈ wsX0_goalOf := by decide +kernel
theorem mX0_goalOf_sX8_bit : Cond.static yX8_bit ∈ wsX0_goalOf := by decide +kernel
set_option maxRecDepth 100000 in
set_option maxHeartbeats 4000000 in
theorem k_X0_goalOf {l : Launch} {D : va_G} {ad : Nat → Nat} {aI aZ aF : ClassId} {b : Nat} {p1 : Int32} {p2 : Int32} (hb : isC b) {K : Mem} {u : Int32} (hf : f_X0_goalOf b p1 p2 K = some u) : cI (EC l D ad aI aZ aF) yX0_goalOf wsX0_goalOf rmX0_goalOf [.ref (ad b), .int p1, .int p2] K u K := by
  rw [f_X0_goalOf] at hf
  refine j_entI (cc := cX0_goalOf) (maxL := 4) (EC_ok l D ad aI aZ aF) (Or.inl rfl) (by decide) rfl (Nat.le_of_ble_eq_true rfl) (fun G C ret => ?_)
  refine j_sub [0, 1, 2] (lv2 := [(0, .ref (ad b)), (1, .int p1), (2, .int p2)]) rfl ?_
  refine j_iload_n C 2 dX0_goalOf_0 rfl rfl ?_
  obtain ⟨u1, h2, hf⟩ := bd hf
  refine j_cNI C [.int p2] gX0_goalOf_X8_ringOf_n147 rfl nm_RX0_147 mX0_goalOf_iX8 mX0_goalOf_sX8_ringOf hdX8_ringOf.2 ⟨⟨rfl, rfl⟩, Nat.le_of_ble_eq_true rfl, Nat.le_of_ble_eq_true rfl⟩ rfl (k_X8_ringOf h2) dX0_goalOf_1 rfl (Nat.le_of_ble_eq_true rfl) ?_
  refine j_iload_n C 1 dX0_goalOf_4 rfl rfl ?_
  refine j_icmp_ne C 10 dX0_goalOf_5 (by decide) hf (fun hf => ?_) (fun hf => ?_)
  · refine j_iload_n C 2 dX0_goalOf_8 rfl rfl ?_
    cases hf
    exact ret _ _ dX0_goalOf_9 (fun h => by cases h)
  · refine j_iload_n C 2 dX0_goalOf_10 rfl rfl ?_
    refine j_iconst C (v := 4) dX0_goalOf_11 (by decide) ?_
    refine j_iadd C dX0_goalOf_12 ?_
    refine j_bipush C (v := 8) dX0_goalOf_13 (by decide) ?_
    refine j_irem C dX0_goalOf_15 (by decide) ?_
    refine j_istore_n C (fun y => [(3, .int y), (0, .ref (ad b)), (1, .int p1), (2, .int p2)]) dX0_goalOf_16 rfl (by decide) (fun _ => rfl) hf (fun x3 hf => ?_)
    refine j_aload_n C 1 dX0_goalOf_17 rfl rfl ?_
    refine j_get C 10 iX0_goalOf_X0 (g_C hb) rfl (by decide) mX0_goalOf_f67 rfl rfl dX0_goalOf_18 ?_
    refine j_iload_n C 0 dX0_goalOf_21 rfl rfl ?_
    obtain ⟨u4, h5, hf⟩ := bd hf
    refine j_cNI C [.int x3] gX0_goalOf_X8_bit_n104 rfl nm_RX0_104 mX0_goalOf_iX8 mX0_goalOf_sX8_bit hdX8_bit.2 ⟨⟨rfl, rfl⟩, Nat.le_of_ble_eq_true rfl, Nat.le_of_ble_eq_true rfl⟩ rfl (k_X8_bit h5) dX0_goalOf_22 rfl (Nat.le_of_ble_eq_true rfl) ?_
    refine j_iand C dX0_goalOf_25 ?_
    refine j_if_eq C 33 dX0_goalOf_26 (by decide) hf (fun hf => ?_) (fun hf => ?_)
    · refine j_iconst C (v := (-1)) dX0_goalOf_33 (by decide) ?_
      cases hf
      exact ret _ _ dX0_goalOf_34 (fun h => by cases h)
    · refine j_iload_n C 0 dX0_goalOf_29 rfl rfl ?_
      refine j_goto C 34 dX0_goalOf_30 (by decide) ?_
      cases hf
      exact ret _ _ dX0_goalOf_34 (fun h => by cases h)
/-- BarrierLights$Ring.mayEnd(I)Z -/
def f_X6_mayEnd (b : Nat) (p1 : Int32) (K : Mem) : Option (Int32) := if (K b 4) = 4 then (if (K b 8) = 0 then (if (K b 5) < p1 then (some 0) else (some 1)) else (some 0)) else (some 0)
abbrev rmX6_mayEnd : Room := { frames := 0, cells := 0, slots := 0, locals := 0 }
theorem iX6_mayEnd_X6 : ∀ w ∈ u_ws RX6 TX6 10, w ∈ wsX6_mayEnd := fun _ h => List.mem_cons_of_mem _ (List.mem_append_right _ h)
theorem mX6_mayEnd_f25 : Cond.fieldLink RX6 25 "BarrierLights$Ring" "lamps" "I" ∈ wsX6_mayEnd := by decide +kernel
theorem mX6_mayEnd_f37 : Cond.fieldLink RX6 37 "BarrierLights$Ring" "walkSign" "I" ∈ wsX6_mayEnd := by decide +kernel
theorem mX6_mayEnd_f28 : Cond.fieldLink RX6 28 "BarrierLights$Ring" "age" "I" ∈ wsX6_mayEnd := by decide +kernel
set_option maxRecDepth 100000 in
set_option maxHeartbeats 4000000 in
theorem k_X6_mayEnd {l : Launch} {D : va_G} {ad : Nat → Nat} {aI aZ aF : ClassId} {b : Nat} {p1 : Int32} (hb : isR b) {K : Mem} {u : Int32} (hf : f_X6_mayEnd b p1 K = some u) : cI (EC l D ad aI aZ aF) yX6_mayEnd wsX6_mayEnd rmX6_mayEnd [.ref (ad b), .int p1] K u K := by
  rw [f_X6_mayEnd] at hf
  refine j_entI (cc := cX6_mayEnd) (maxL := 2) (EC_ok l D ad aI aZ aF) (Or.inr rfl) (by decide) rfl (Nat.le_of_ble_eq_true rfl) (fun G C ret => ?_)
  refine j_sub [0, 1] (lv2 := [(0, .ref (ad b)), (1, .int p1)]) rfl ?_
  refine j_aload_n C 0 dX6_mayEnd_0 rfl rfl ?_
  refine j_get C 4 iX6_mayEnd_X6 (g_R hb) rfl (by decide) mX6_mayEnd_f25 rfl rfl dX6_mayEnd_1 ?_
  refine j_iconst C (v := 4) dX6_mayEnd_4 (by decide) ?_
  refine j_icmp_ne C 27 dX6_mayEnd_5 (by decide) hf (fun hf => ?_) (fun hf => ?_)
  · refine j_aload_n C 0 dX6_mayEnd_8 rfl rfl ?_
    refine j_get C 8 iX6_mayEnd_X6 (g_R hb) rfl (by decide) mX6_mayEnd_f37 rfl rfl dX6_mayEnd_9 ?_
    refine j_if_ne C 27 dX6_mayEnd_12 (by decide) hf (fun hf => ?_) (fun hf => ?_)
    · refine j_aload_n C 0 dX6_mayEnd_15 rfl rfl ?_
      refine j_get C 5 iX6_mayEnd_X6 (g_R hb) rfl (by decide) mX6_mayEnd_f28 rfl rfl dX6_mayEnd_16 ?_
      refine j_iload_n C 1 dX6_mayEnd_19 rfl rfl ?_
      refine j_icmp_lt C 27 dX6_mayEnd_20 (by decide) hf (fun hf => ?_) (fun hf => ?_)
      · refine j_iconst C (v := 0) dX6_mayEnd_27 (by decide) ?_
        cases hf
        exact ret _ _ dX6_mayEnd_28 (fun _ => rfl)
      · refine j_iconst C (v := 1) dX6_mayEnd_23 (by decide) ?_
        refine j_goto C 28 dX6_mayEnd_24 (by decide) ?_
        cases hf
        exact ret _ _ dX6_mayEnd_28 (fun _ => rfl)
    · refine j_iconst C (v := 0) dX6_mayEnd_27 (by decide) ?_
      cases hf
      exact ret _ _ dX6_mayEnd_28 (fun _ => rfl)
  · refine j_iconst C (v := 0) dX6_mayEnd_27 (by decide) ?_
    cases hf
    exact ret _ _ dX6_mayEnd_28 (fun _ => rfl)
/-- BarrierLights$Ring.turnYellow(I)V -/
def f_X6_turnYellow (b : Nat) (p1 : Int32) (K : Mem) : Option (Mem) := st K b 1 p1 fun K1 => (f_X6_show b 2 K1).bind fun u2 => some u2
abbrev rmX6_turnYellow : Room := { frames := 1, cells := 0, slots := 0, locals := 21 }
theorem iX6_turnYellow_X6 : ∀ w ∈ u_ws RX6 TX6 10, w ∈ wsX6_turnYellow := fun _ h => List.mem_cons_of_mem _ (List.mem_append_right _ h)
theorem mX6_turnYellow_f15 : Cond.fieldLink RX6 15 "BarrierLights$Ring" "next" "I" ∈ wsX6_turnYellow := by decide +kernel
set_option maxRecDepth 100000 in
set_option maxHeartbeats 4000000 in
theorem k_X6_turnYellow {l : Launch} {D : va_G} {ad : Nat → Nat} {aI aZ aF : ClassId} {b : Nat} {p1 : Int32} (hb : isR b) {K : Mem} {u : Mem} (hf : f_X6_turnYellow b p1 K = some u) : cV (EC l D ad aI aZ aF) yX6_turnYellow wsX6_turnYellow rmX6_turnYellow [.ref (ad b), .int p1] K u := by
  rw [f_X6_turnYellow] at hf
  refine j_entV (cc := cX6_turnYellow) (maxL := 2) (EC_ok l D ad aI aZ aF) (by decide) rfl (Nat.le_of_ble_eq_true rfl) (fun G C ret => ?_)
  refine j_sub [0, 1] (lv2 := [(0, .ref (ad b)), (1, .int p1)]) rfl ?_
  refine j_aload_n C 0 dX6_turnYellow_0 rfl rfl ?_
  refine j_iload_n C 1 dX6_turnYellow_1 rfl rfl ?_
  refine j_put C (ty := .int) 1 iX6_turnYellow_X6 tyX6 tyX6_ok nmX6 (g_R hb) (s_R_1 hb _) rfl (by decide) mX6_turnYellow_f15 rfl rfl (by decide +kernel) rfl rfl (Nat.le_of_ble_eq_true rfl) dX6_turnYellow_2 hf (fun K1 hf => ?_)
  refine j_aload_n C 0 dX6_turnYellow_5 rfl rfl ?_
  refine j_iconst C (v := 2) dX6_turnYellow_6 (by decide) ?_
  obtain ⟨u2, h3, hf⟩ := bd hf
  refine j_cVV C [.int 2] gX6_turnYellow_X6_show rfl hdX6_show ⟨⟨rfl, rfl⟩, Nat.le_of_ble_eq_true rfl, Nat.le_of_ble_eq_true rfl⟩ rfl (g_R hb) rfl (k_X6_show hb h3) dX6_turnYellow_7 rfl (Nat.le_of_ble_eq_true rfl) ?_
  cases hf
  exact ret _ _ dX6_turnYellow_10
/-- BarrierLights$Controller.giveWay(LBarrierLights$Ring;IZ)V -/
def f_X0_giveWay (b : Nat) (p1 : Nat) (p2 : Int32) (p3 : Int32) (K : Mem) : Option (Mem) := (if (K p1 8) = 4 then ((f_X6_beginClear p1 K).bind fun u4 => some u4) else (some K) : Option (Mem)).bind fun v1 => if p3 = 0 then (some v1) else (if p2 = (-1) then (some v1) else (if (v1 p1 0) = p2 then (some v1) else ((f_X7_at (b + 3) (v1 p1 0) 0 v1).bind fun u6 => (f_X6_mayEnd p1 u6 v1).bind fun u8 => if u8 = 0 then (some v1) else ((f_X6_turnYellow p1 p2 v1).bind fun u10 => some u10))))
abbrev rmX0_giveWay : Room := { frames := 2, cells := 0, slots := 0, locals := 42 }
theorem iX0_giveWay_X6 : ∀ w ∈ u_ws RX6 TX6 10, w ∈ wsX0_giveWay := fun _ h => List.mem_cons_of_mem _ (List.mem_append_left _ (List.mem_append_left _ (List.mem_append_right _ h)))
theorem iX0_giveWay_X0 : ∀ w ∈ u_ws RX0 TX0 16, w ∈ wsX0_giveWay := fun _ h => List.mem_cons_of_mem _ (List.mem_append_left _ (List.mem_append_right _ h))
theorem mX0_giveWay_f18 : Cond.fieldLink RX0 18 "BarrierLights$Controller" "table" "LBarrierLights$Table;" ∈ wsX0_giveWay := by decide +kernel
theorem hdX6_mayEnd : yX6_mayEnd.cls = RX6 ∧ yX6_mayEnd.cls ≠ "java/lang/invoke/MethodHandle" ∧ yX6_mayEnd.cls ≠ "java/lang/invoke/VarHandle" ∧ (parseMethodDescriptor yX6_mayEnd.desc).map (fun d => d.parameters.length) = some 1 := by decide +kernel
theorem hdX6_turnYellow : yX6_turnYellow.cls = RX6 ∧ yX6_turnYellow.cls ≠ "java/lang/invoke/MethodHandle" ∧ yX6_turnYellow.cls ≠ "java/lang/invoke/VarHandle" ∧ (parseMethodDescriptor yX6_turnYellow.desc).map (fun d => d.parameters.length) = some 1 := by decide +kernel
set_option maxRecDepth 100000 in
set_option maxHeartbeats 4000000 in
theorem k_X0_giveWay {l : Launch} {D : va_G} {ad : Nat → Nat} {aI aZ aF : ClassId} {b : Nat} {p1 : Nat} {p2 : Int32} {p3 : Int32} (hb : isC b) (h1 : isR p1) {K : Mem} {u : Mem} (hf : f_X0_giveWay b p1 p2 p3 K = some u) : cV (EC l D ad aI aZ aF) yX0_giveWay wsX0_giveWay rmX0_giveWay [.ref (ad b), .ref (ad p1), .int p2, .int p3] K u := by
  rw [f_X0_giveWay] at hf
  refine j_entV (cc := cX0_giveWay) (maxL := 4) (EC_ok l D ad aI aZ aF) (by decide) rfl (Nat.le_of_ble_eq_true rfl) (fun G C ret => ?_)
  refine j_sub [0, 1, 2, 3] (lv2 := [(0, .ref (ad b)), (1, .ref (ad p1)), (2, .int p2), (3, .int p3)]) rfl ?_
  refine j_aload_n C 1 dX0_giveWay_0 rfl rfl ?_
  refine j_getN C 8 iX0_giveWay_X6 (g_R h1) rfl (by decide) nf_RX0_249 rfl rfl dX0_giveWay_1 ?_
  refine j_iconst C (v := 4) dX0_giveWay_4 (by decide) ?_
  obtain ⟨v1, h2, hf⟩ := bd hf
  have jj3 : jW (EC l D ad aI aZ aF) G v1 12 [(0, .ref (ad b)), (1, .ref (ad p1)), (2, .int p2), (3, .int p3)] [] := by
    refine j_iload_n C 3 dX0_giveWay_12 rfl rfl ?_
    refine j_if_eq C 53 dX0_giveWay_13 (by decide) hf (fun hf => ?_) (fun hf => ?_)
    · cases hf
      exact ret _ _ dX0_giveWay_53
    · refine j_iload_n C 2 dX0_giveWay_16 rfl rfl ?_
      refine j_iconst C (v := (-1)) dX0_giveWay_17 (by decide) ?_
      refine j_icmp_eq C 53 dX0_giveWay_18 (by decide) hf (fun hf => ?_) (fun hf => ?_)
      · cases hf
        exact ret _ _ dX0_giveWay_53
      · refine j_aload_n C 1 dX0_giveWay_21 rfl rfl ?_
        refine j_getN C 0 iX0_giveWay_X6 (g_R h1) rfl (by decide) nf_RX0_157 rfl rfl dX0_giveWay_22 ?_
        refine j_iload_n C 2 dX0_giveWay_25 rfl rfl ?_
        refine j_icmp_eq C 53 dX0_giveWay_26 (by decide) hf (fun hf => ?_) (fun hf => ?_)
        · cases hf
          exact ret _ _ dX0_giveWay_53
        · refine j_aload_n C 1 dX0_giveWay_29 rfl rfl ?_
          refine j_aload_n C 0 dX0_giveWay_30 rfl rfl ?_
          refine j_get C 1 iX0_giveWay_X0 (g_C hb) rfl (by decide) mX0_giveWay_f18 rfl rfl dX0_giveWay_31 ?_
          refine j_aload_n C 1 dX0_giveWay_34 rfl rfl ?_
          refine j_getN C 0 iX0_giveWay_X6 (g_R h1) rfl (by decide) nf_RX0_157 rfl rfl dX0_giveWay_35 ?_
          refine j_iconst C (v := 0) dX0_giveWay_38 (by decide) ?_
          obtain ⟨u6, h7, hf⟩ := bd hf
          refine j_cVI C [.int ((v1 p1 0)), .int 0] gX0_giveWay_X7_at rfl hdX7_at ⟨⟨rfl, rfl⟩, Nat.le_of_ble_eq_true rfl, Nat.le_of_ble_eq_true rfl⟩ rfl (g_T (isC_T3 hb)) rfl (k_X7_at (isC_T3 hb) h7) dX0_giveWay_39 rfl (Nat.le_of_ble_eq_true rfl) ?_
          obtain ⟨u8, h9, hf⟩ := bd hf
          refine j_cVI C [.int u6] gX0_giveWay_X6_mayEnd rfl hdX6_mayEnd ⟨⟨rfl, rfl⟩, Nat.le_of_ble_eq_true rfl, Nat.le_of_ble_eq_true rfl⟩ rfl (g_R h1) rfl (k_X6_mayEnd h1 h9) dX0_giveWay_42 rfl (Nat.le_of_ble_eq_true rfl) ?_
          refine j_if_eq C 53 dX0_giveWay_45 (by decide) hf (fun hf => ?_) (fun hf => ?_)
          · cases hf
            exact ret _ _ dX0_giveWay_53
          · refine j_aload_n C 1 dX0_giveWay_48 rfl rfl ?_
            refine j_iload_n C 2 dX0_giveWay_49 rfl rfl ?_
            obtain ⟨u10, h11, hf⟩ := bd hf
            refine j_cVV C [.int p2] gX0_giveWay_X6_turnYellow rfl hdX6_turnYellow ⟨⟨rfl, rfl⟩, Nat.le_of_ble_eq_true rfl, Nat.le_of_ble_eq_true rfl⟩ rfl (g_R h1) rfl (k_X6_turnYellow h1 h11) dX0_giveWay_50 rfl (Nat.le_of_ble_eq_true rfl) ?_
            cases hf
            exact ret _ _ dX0_giveWay_53
  clear hf
  have hf := h2
  clear h2
  refine j_icmp_ne C 12 dX0_giveWay_5 (by decide) hf (fun hf => ?_) (fun hf => ?_)
  · refine j_aload_n C 1 dX0_giveWay_8 rfl rfl ?_
    obtain ⟨u4, h5, hf⟩ := bd hf
    refine j_cVV C [] gX0_giveWay_X6_beginClear rfl hdX6_beginClear ⟨⟨rfl, rfl⟩, Nat.le_of_ble_eq_true rfl, Nat.le_of_ble_eq_true rfl⟩ rfl (g_R h1) rfl (k_X6_beginClear h1 h5) dX0_giveWay_9 rfl (Nat.le_of_ble_eq_true rfl) ?_
    cases hf
    exact jj3
  · cases hf
    exact jj3
/-- BarrierLights$Controller.mayLeaveByInput(LBarrierLights$Ring;)Z -/
def f_X0_mayLeaveByInput (b : Nat) (p1 : Nat) (K : Mem) : Option (Int32) := (f_X6_waits p1 K).bind fun u1 => if u1 = 0 then ((f_X7_at (b + 3) (K p1 0) 0 K).bind fun u3 => (f_X6_mayEnd p1 u3 K).bind fun u5 => if u5 = 0 then (some 0) else (some 1)) else (some 1)
abbrev rmX0_mayLeaveByInput : Room := { frames := 1, cells := 0, slots := 0, locals := 23 }
theorem iX0_mayLeaveByInput_X0 : ∀ w ∈ u_ws RX0 TX0 16, w ∈ wsX0_mayLeaveByInput := fun _ h => List.mem_cons_of_mem _ (List.mem_append_left _ (List.mem_append_left _ (List.mem_append_right _ h)))
theorem mX0_mayLeaveByInput_f18 : Cond.fieldLink RX0 18 "BarrierLights$Controller" "table" "LBarrierLights$Table;" ∈ wsX0_mayLeaveByInput := by decide +kernel
theorem iX0_mayLeaveByInput_X6 : ∀ w ∈ u_ws RX6 TX6 10, w ∈ wsX0_mayLeaveByInput := fun _ h => List.mem_cons_of_mem _ (List.mem_append_left _ (List.mem_append_right _ h))
set_option maxRecDepth 100000 in
set_option maxHeartbeats 4000000 in
theorem k_X0_mayLeaveByInput {l : Launch} {D : va_G} {ad : Nat → Nat} {aI aZ aF : ClassId} {b : Nat} {p1 : Nat} (hb : isC b) (h1 : isR p1) {K : Mem} {u : Int32} (hf : f_X0_mayLeaveByInput b p1 K = some u) : cI (EC l D ad aI aZ aF) yX0_mayLeaveByInput wsX0_mayLeaveByInput rmX0_mayLeaveByInput [.ref (ad b), .ref (ad p1)] K u K := by
  rw [f_X0_mayLeaveByInput] at hf
  refine j_entI (cc := cX0_mayLeaveByInput) (maxL := 2) (EC_ok l D ad aI aZ aF) (Or.inr rfl) (by decide) rfl (Nat.le_of_ble_eq_true rfl) (fun G C ret => ?_)
  refine j_sub [0, 1] (lv2 := [(0, .ref (ad b)), (1, .ref (ad p1))]) rfl ?_
  refine j_aload_n C 1 dX0_mayLeaveByInput_0 rfl rfl ?_
  obtain ⟨u1, h2, hf⟩ := bd hf
  refine j_cVI C [] gX0_mayLeaveByInput_X6_waits rfl hdX6_waits ⟨⟨rfl, rfl⟩, Nat.le_of_ble_eq_true rfl, Nat.le_of_ble_eq_true rfl⟩ rfl (g_R h1) rfl (k_X6_waits h1 h2) dX0_mayLeaveByInput_1 rfl (Nat.le_of_ble_eq_true rfl) ?_
  refine j_if_ne C 26 dX0_mayLeaveByInput_4 (by decide) hf (fun hf => ?_) (fun hf => ?_)
  · refine j_aload_n C 1 dX0_mayLeaveByInput_7 rfl rfl ?_
    refine j_aload_n C 0 dX0_mayLeaveByInput_8 rfl rfl ?_
    refine j_get C 1 iX0_mayLeaveByInput_X0 (g_C hb) rfl (by decide) mX0_mayLeaveByInput_f18 rfl rfl dX0_mayLeaveByInput_9 ?_
    refine j_aload_n C 1 dX0_mayLeaveByInput_12 rfl rfl ?_
    refine j_getN C 0 iX0_mayLeaveByInput_X6 (g_R h1) rfl (by decide) nf_RX0_157 rfl rfl dX0_mayLeaveByInput_13 ?_
    refine j_iconst C (v := 0) dX0_mayLeaveByInput_16 (by decide) ?_
    obtain ⟨u3, h4, hf⟩ := bd hf
    refine j_cVI C [.int ((K p1 0)), .int 0] gX0_mayLeaveByInput_X7_at rfl hdX7_at ⟨⟨rfl, rfl⟩, Nat.le_of_ble_eq_true rfl, Nat.le_of_ble_eq_true rfl⟩ rfl (g_T (isC_T3 hb)) rfl (k_X7_at (isC_T3 hb) h4) dX0_mayLeaveByInput_17 rfl (Nat.le_of_ble_eq_true rfl) ?_
    obtain ⟨u5, h6, hf⟩ := bd hf
    refine j_cVI C [.int u3] gX0_mayLeaveByInput_X6_mayEnd rfl hdX6_mayEnd ⟨⟨rfl, rfl⟩, Nat.le_of_ble_eq_true rfl, Nat.le_of_ble_eq_true rfl⟩ rfl (g_R h1) rfl (k_X6_mayEnd h1 h6) dX0_mayLeaveByInput_20 rfl (Nat.le_of_ble_eq_true rfl) ?_
    refine j_if_eq C 30 dX0_mayLeaveByInput_23 (by decide) hf (fun hf => ?_) (fun hf => ?_)
    · refine j_iconst C (v := 0) dX0_mayLeaveByInput_30 (by decide) ?_
      cases hf
      exact ret _ _ dX0_mayLeaveByInput_31 (fun _ => rfl)
    · refine j_iconst C (v := 1) dX0_mayLeaveByInput_26 (by decide) ?_
      refine j_goto C 31 dX0_mayLeaveByInput_27 (by decide) ?_
      cases hf
      exact ret _ _ dX0_mayLeaveByInput_31 (fun _ => rfl)
  · refine j_iconst C (v := 1) dX0_mayLeaveByInput_26 (by decide) ?_
    refine j_goto C 31 dX0_mayLeaveByInput_27 (by decide) ?_
    cases hf
    exact ret _ _ dX0_mayLeaveByInput_31 (fun _ => rfl)
/-- BarrierLights$Controller.leaveSide()V -/
def f_X0_leaveSide_L2 (c0 : Nat) : Nat → Int32 → Mem → Option (Int32 × Mem)
  | 0, _, _ => none
  | n + 1, y1, K => if 2 ≤ y1 then (some (y1, K)) else ((f_X0_ring c0 y1 K).bind fun u2 => (f_X6_isGreen u2 K).bind fun u5 => (if u5 = 0 then (some K) else ((f_X6_turnYellow u2 (-1) K).bind fun u10 => some u10) : Option (Mem)).bind fun v7 => lt (y1 + 1) fun x12 => f_X0_leaveSide_L2 c0 n x12 v7)
def f_X0_leaveSide (b : Nat) (K : Mem) : Option (Mem) := lt 0 fun x1 => (f_X0_leaveSide_L2 b 70 x1 K).bind fun v13 => some v13.2
abbrev rmX0_leaveSide : Room := { frames := 2, cells := 0, slots := 0, locals := 42 }
set_option maxRecDepth 100000 in
set_option maxHeartbeats 4000000 in
theorem lp_X0_leaveSide_L2 {l : Launch} {D : va_G} {ad : Nat → Nat} {aI aZ aF : ClassId} {G : jG} {c0 : Nat} (hc0 : isC c0) (C : jC (EC l D ad aI aZ aF) G cX0_leaveSide yX0_leaveSide.cls wsX0_leaveSide rmX0_leaveSide 3) : ∀ (n : Nat) (y1 : Int32) (K : Mem) (v : Int32 × Mem), f_X0_leaveSide_L2 c0 n y1 K = some v → jW (EC l D ad aI aZ aF) G v.2 31 [(0, .ref (ad c0)), (1, .int v.1)] [] → jW (EC l D ad aI aZ aF) G K 2 [(0, .ref (ad c0)), (1, .int y1)] [] := by
  intro n
  induction n with
  | zero =>
    intro y1 K v hf jj
    rw [f_X0_leaveSide_L2] at hf
    cases hf
  | succ n ih =>
    intro y1 K v hf jj
    rw [f_X0_leaveSide_L2] at hf
    refine j_iload_n C 1 dX0_leaveSide_2 rfl rfl ?_
    refine j_iconst C (v := 2) dX0_leaveSide_3 (by decide) ?_
    refine j_icmp_ge C 31 dX0_leaveSide_4 (by decide) hf (fun hf => ?_) (fun hf => ?_)
    · cases hf
      exact jj
    · refine j_aload_n C 0 dX0_leaveSide_7 rfl rfl ?_
      refine j_iload_n C 1 dX0_leaveSide_8 rfl rfl ?_
      obtain ⟨u2, h3, hf⟩ := bd hf
      refine j_cVR C [.int y1] gX0_leaveSide_X0_ring rfl hdX0_ring ⟨⟨rfl, rfl⟩, Nat.le_of_ble_eq_true rfl, Nat.le_of_ble_eq_true rfl⟩ rfl (g_C hc0) rfl (k_X0_ring hc0 h3) dX0_leaveSide_9 rfl (Nat.le_of_ble_eq_true rfl) ?_
      have hk4 := q_X0_ring hc0 h3
      refine j_astore_n C [(2, .ref (ad u2)), (0, .ref (ad c0)), (1, .int y1)] dX0_leaveSide_12 rfl (by decide) rfl ?_
      refine j_aload_n C 0 dX0_leaveSide_13 rfl rfl ?_
      obtain ⟨u5, h6, hf⟩ := bd hf
      refine j_cVI C [] gX0_leaveSide_X6_isGreen rfl hdX6_isGreen ⟨⟨rfl, rfl⟩, Nat.le_of_ble_eq_true rfl, Nat.le_of_ble_eq_true rfl⟩ rfl (g_R hk4) rfl (k_X6_isGreen hk4 h6) dX0_leaveSide_14 rfl (Nat.le_of_ble_eq_true rfl) ?_
      obtain ⟨v7, h8, hf⟩ := bd hf
      have jj9 : jW (EC l D ad aI aZ aF) G v7 25 [(0, .ref (ad c0)), (1, .int y1), (2, .ref (ad u2))] [] := by
        refine j_iinc C (v := (y1 + 1)) 1 (fun y => [(1, .int y), (0, .ref (ad c0)), (2, .ref (ad u2))]) dX0_leaveSide_25 rfl rfl (by decide) (fun _ => rfl) hf (fun x12 hf => ?_)
        refine j_goto C 2 dX0_leaveSide_28 (by decide) ?_
        refine j_sub [1, 0] rfl ?_
        exact ih _ _ _ hf jj
      clear hf
      have hf := h8
      clear h8
      refine j_if_eq C 25 dX0_leaveSide_17 (by decide) hf (fun hf => ?_) (fun hf => ?_)
      · cases hf
        refine j_sub [1, 2, 0] rfl ?_
        exact jj9
      · refine j_aload_n C 0 dX0_leaveSide_20 rfl rfl ?_
        refine j_iconst C (v := (-1)) dX0_leaveSide_21 (by decide) ?_
        obtain ⟨u10, h11, hf⟩ := bd hf
        refine j_cVV C [.int ((-1))] gX0_leaveSide_X6_turnYellow rfl hdX6_turnYellow ⟨⟨rfl, rfl⟩, Nat.le_of_ble_eq_true rfl, Nat.le_of_ble_eq_true rfl⟩ rfl (g_R hk4) rfl (k_X6_turnYellow hk4 h11) dX0_leaveSide_22 rfl (Nat.le_of_ble_eq_true rfl) ?_
        cases hf
        refine j_sub [1, 2, 0] rfl ?_
        exact jj9
set_option maxRecDepth 100000 in
set_option maxHeartbeats 4000000 in
theorem k_X0_leaveSide {l : Launch} {D : va_G} {ad : Nat → Nat} {aI aZ aF : ClassId} {b : Nat} (hb : isC b) {K : Mem} {u : Mem} (hf : f_X0_leaveSide b K = some u) : cV (EC l D ad aI aZ aF) yX0_leaveSide wsX0_leaveSide rmX0_leaveSide [.ref (ad b)] K u := by
  rw [f_X0_leaveSide] at hf
  refine j_entV (cc := cX0_leaveSide) (maxL := 3) (EC_ok l D ad aI aZ aF) (by decide) rfl (Nat.le_of_ble_eq_true rfl) (fun G C ret => ?_)
  refine j_sub [0] (lv2 := [(0, .ref (ad b))]) rfl ?_
  refine j_iconst C (v := 0) dX0_leaveSide_0 (by decide) ?_
  refine j_istore_n C (fun y => [(1, .int y), (0, .ref (ad b))]) dX0_leaveSide_1 rfl (by decide) (fun _ => rfl) hf (fun x1 hf => ?_)
  obtain ⟨v13, h14, hf⟩ := bd hf
  refine j_sub [1, 0] (lv2 := [(0, .ref (ad b)), (1, .int x1)]) rfl ?_
  refine lp_X0_leaveSide_L2 hb C 70 _ _ _ h14 ?_
  cases hf
  exact ret _ _ dX0_leaveSide_31
/-- BarrierLights$Controller.goByInput(I)V -/
def f_X0_goByInput_L24 (c0 : Nat) (c1 : Int32) (c2 : Int32) : Nat → Int32 → Mem → Option (Int32 × Mem)
  | 0, _, _ => none
  | n + 1, y3, K => if 2 ≤ y3 then (some (y3, K)) else ((f_X0_ring c0 y3 K).bind fun u9 => (f_X0_goalOf c0 y3 c1 K).bind fun u12 => (f_X0_giveWay c0 u9 u12 c2 K).bind fun u14 => lt (y3 + 1) fun x16 => f_X0_goByInput_L24 c0 c1 c2 n x16 u14)
def f_X0_goByInput_L111 (c0 : Nat) (c1 : Int32) (c2 : Int32) : Nat → Int32 → Mem → Option (Int32 × Mem)
  | 0, _, _ => none
  | n + 1, y3, K => if 2 ≤ y3 then (some (y3, K)) else ((f_X0_goalOf c0 y3 c1 K).bind fun u39 => lt u39 fun x41 => (f_X0_ring c0 y3 K).bind fun u42 => (f_X6_waits u42 K).bind fun u45 => (if u45 = 0 then (some K) else (if x41 = (-1) then (some K) else ((f_X8_sideOf x41 K).bind fun u50 => if u50 = (K c0 12) then ((f_X0_ring c0 y3 K).bind fun u52 => (f_X0_begin c0 u52 x41 K).bind fun u55 => some u55) else (some K))) : Option (Mem)).bind fun v47 => lt (y3 + 1) fun x57 => f_X0_goByInput_L111 c0 c1 c2 n x57 v47)
def f_X0_goByInput (b : Nat) (p1 : Int32) (K : Mem) : Option (Mem) := st K b 15 1 fun K1 => (f_X8_sideOf p1 K1).bind fun u2 => (if u2 = (K1 b 12) then (some 1) else (some 0) : Option (Int32)).bind fun v4 => lt v4 fun x7 => lt 0 fun x8 => (f_X0_goByInput_L24 b p1 x7 70 x8 K1).bind fun v17 => (if x7 = 0 then ((f_X0_mayLeaveByInput b (b + 16) v17.2).bind fun u22 => if u22 = 0 then (some v17.2) else ((f_X0_mayLeaveByInput b (b + 17) v17.2).bind fun u24 => if u24 = 0 then (some v17.2) else ((f_X0_leaveSide b v17.2).bind fun u26 => some u26))) else (some v17.2) : Option (Mem)).bind fun v19 => (f_X6_waits (b + 16) v19).bind fun u28 => (if u28 = 0 then (some v19) else ((f_X6_waits (b + 17) v19).bind fun u33 => if u33 = 0 then (some v19) else ((f_X8_sideOf p1 v19).bind fun u35 => st v19 b 12 u35 fun K37 => some K37)) : Option (Mem)).bind fun v30 => lt 0 fun x38 => (f_X0_goByInput_L111 b p1 x7 70 x38 v30).bind fun v58 => some v58.2
abbrev rmX0_goByInput : Room := { frames := 3, cells := 0, slots := 0, locals := 67 }
theorem iX0_goByInput_X0 : ∀ w ∈ u_ws RX0 TX0 16, w ∈ wsX0_goByInput := fun _ h => List.mem_cons_of_mem _ (List.mem_append_left _ (List.mem_append_left _ (List.mem_append_left _ (List.mem_append_right _ h))))
theorem mX0_goByInput_f82 : Cond.fieldLink RX0 82 "BarrierLights$Controller" "hadInput" "Z" ∈ wsX0_goByInput := by decide +kernel
theorem mX0_goByInput_iX8 : Cond.initialized RX8 ∈ wsX0_goByInput := by decide +kernel
theorem mX0_goByInput_sX8_sideOf : Cond.static yX8_sideOf ∈ wsX0_goByInput := by decide +kernel
theorem hdX8_sideOf : yX8_sideOf.cls = RX8 ∧ yX8_sideOf.cls ≠ "java/lang/invoke/MethodHandle" ∧ yX8_sideOf.cls ≠ "java/lang/invoke/VarHandle" ∧ (parseMethodDescriptor yX8_sideOf.desc).map (fun d => d.parameters.length) = some 1 := by decide +kernel
theorem mX0_goByInput_f73 : Cond.fieldLink RX0 73 "BarrierLights$Controller" "side" "I" ∈ wsX0_goByInput := by decide +kernel
theorem hdX0_goalOf : yX0_goalOf.cls = RX0 ∧ yX0_goalOf.cls ≠ "java/lang/invoke/MethodHandle" ∧ yX0_goalOf.cls ≠ "java/lang/invoke/VarHandle" ∧ (parseMethodDescriptor yX0_goalOf.desc).map (fun d => d.parameters.length) = some 2 := by decide +kernel
theorem hdX0_giveWay : yX0_giveWay.cls = RX0 ∧ yX0_giveWay.cls ≠ "java/lang/invoke/MethodHandle" ∧ yX0_giveWay.cls ≠ "java/lang/invoke/VarHandle" ∧ (parseMethodDescriptor yX0_giveWay.desc).map (fun d => d.parameters.length) = some 3 := by decide +kernel
theorem mX0_goByInput_f52 : Cond.fieldLink RX0 52 "BarrierLights$Controller" "ring0" "LBarrierLights$Ring;" ∈ wsX0_goByInput := by decide +kernel
theorem hdX0_mayLeaveByInput : yX0_mayLeaveByInput.cls = RX0 ∧ yX0_mayLeaveByInput.cls ≠ "java/lang/invoke/MethodHandle" ∧ yX0_mayLeaveByInput.cls ≠ "java/lang/invoke/VarHandle" ∧ (parseMethodDescriptor yX0_mayLeaveByInput.desc).map (fun d => d.parameters.length) = some 1 := by decide +kernel
theorem mX0_goByInput_f56 : Cond.fieldLink RX0 56 "BarrierLights$Controller" "ring1" "LBarrierLights$Ring;" ∈ wsX0_goByInput := by decide +kernel
theorem hdX0_leaveSide : yX0_leaveSide.cls = RX0 ∧ yX0_leaveSide.cls ≠ "java/lang/invoke/MethodHandle" ∧ yX0_leaveSide.cls ≠ "java/lang/invoke/VarHandle" ∧ (parseMethodDescriptor yX0_leaveSide.desc).map (fun d => d.parameters.length) = some 0 := by decide +kernel
set_option maxRecDepth 100000 in
set_option maxHeartbeats 4000000 in
theorem lp_X0_goByInput_L24 {l : Launch} {D : va_G} {ad : Nat → Nat} {aI aZ aF : ClassId} {G : jG} {c0 : Nat} {c1 : Int32} {c2 : Int32} (hc0 : isC c0) (C : jC (EC l D ad aI aZ aF) G cX0_goByInput yX0_goByInput.cls wsX0_goByInput rmX0_goByInput 5) : ∀ (n : Nat) (y3 : Int32) (K : Mem) (v : Int32 × Mem), f_X0_goByInput_L24 c0 c1 c2 n y3 K = some v → jW (EC l D ad aI aZ aF) G v.2 51 [(0, .ref (ad c0)), (1, .int c1), (2, .int c2), (3, .int v.1)] [] → jW (EC l D ad aI aZ aF) G K 24 [(0, .ref (ad c0)), (1, .int c1), (2, .int c2), (3, .int y3)] [] := by
  intro n
  induction n with
  | zero =>
    intro y3 K v hf jj
    rw [f_X0_goByInput_L24] at hf
    cases hf
  | succ n ih =>
    intro y3 K v hf jj
    rw [f_X0_goByInput_L24] at hf
    refine j_iload_n C 3 dX0_goByInput_24 rfl rfl ?_
    refine j_iconst C (v := 2) dX0_goByInput_25 (by decide) ?_
    refine j_icmp_ge C 51 dX0_goByInput_26 (by decide) hf (fun hf => ?_) (fun hf => ?_)
    · cases hf
      exact jj
    · refine j_aload_n C 0 dX0_goByInput_29 rfl rfl ?_
      refine j_aload_n C 0 dX0_goByInput_30 rfl rfl ?_
      refine j_iload_n C 3 dX0_goByInput_31 rfl rfl ?_
      obtain ⟨u9, h10, hf⟩ := bd hf
      refine j_cVR C [.int y3] gX0_goByInput_X0_ring rfl hdX0_ring ⟨⟨rfl, rfl⟩, Nat.le_of_ble_eq_true rfl, Nat.le_of_ble_eq_true rfl⟩ rfl (g_C hc0) rfl (k_X0_ring hc0 h10) dX0_goByInput_32 rfl (Nat.le_of_ble_eq_true rfl) ?_
      have hk11 := q_X0_ring hc0 h10
      refine j_aload_n C 0 dX0_goByInput_35 rfl rfl ?_
      refine j_iload_n C 3 dX0_goByInput_36 rfl rfl ?_
      refine j_iload_n C 1 dX0_goByInput_37 rfl rfl ?_
      obtain ⟨u12, h13, hf⟩ := bd hf
      refine j_cVI C [.int y3, .int c1] gX0_goByInput_X0_goalOf rfl hdX0_goalOf ⟨⟨rfl, rfl⟩, Nat.le_of_ble_eq_true rfl, Nat.le_of_ble_eq_true rfl⟩ rfl (g_C hc0) rfl (k_X0_goalOf hc0 h13) dX0_goByInput_38 rfl (Nat.le_of_ble_eq_true rfl) ?_
      refine j_iload_n C 2 dX0_goByInput_41 rfl rfl ?_
      obtain ⟨u14, h15, hf⟩ := bd hf
      refine j_cVV C [.ref (ad u9), .int u12, .int c2] gX0_goByInput_X0_giveWay rfl hdX0_giveWay ⟨⟨rfl, rfl⟩, Nat.le_of_ble_eq_true rfl, Nat.le_of_ble_eq_true rfl⟩ rfl (g_C hc0) rfl (k_X0_giveWay hc0 hk11 h15) dX0_goByInput_42 rfl (Nat.le_of_ble_eq_true rfl) ?_
      refine j_iinc C (v := (y3 + 1)) 3 (fun y => [(3, .int y), (0, .ref (ad c0)), (1, .int c1), (2, .int c2)]) dX0_goByInput_45 rfl rfl (by decide) (fun _ => rfl) hf (fun x16 hf => ?_)
      refine j_goto C 24 dX0_goByInput_48 (by decide) ?_
      refine j_sub [1, 2, 3, 0] rfl ?_
      exact ih _ _ _ hf jj
set_option maxRecDepth 100000 in
set_option maxHeartbeats 4000000 in
theorem lp_X0_goByInput_L111 {l : Launch} {D : va_G} {ad : Nat → Nat} {aI aZ aF : ClassId} {G : jG} {c0 : Nat} {c1 : Int32} {c2 : Int32} (hc0 : isC c0) (C : jC (EC l D ad aI aZ aF) G cX0_goByInput yX0_goByInput.cls wsX0_goByInput rmX0_goByInput 5) : ∀ (n : Nat) (y3 : Int32) (K : Mem) (v : Int32 × Mem), f_X0_goByInput_L111 c0 c1 c2 n y3 K = some v → jW (EC l D ad aI aZ aF) G v.2 170 [(0, .ref (ad c0)), (1, .int c1), (2, .int c2), (3, .int v.1)] [] → jW (EC l D ad aI aZ aF) G K 111 [(0, .ref (ad c0)), (1, .int c1), (2, .int c2), (3, .int y3)] [] := by
  intro n
  induction n with
  | zero =>
    intro y3 K v hf jj
    rw [f_X0_goByInput_L111] at hf
    cases hf
  | succ n ih =>
    intro y3 K v hf jj
    rw [f_X0_goByInput_L111] at hf
    refine j_iload_n C 3 dX0_goByInput_111 rfl rfl ?_
    refine j_iconst C (v := 2) dX0_goByInput_112 (by decide) ?_
    refine j_icmp_ge C 170 dX0_goByInput_113 (by decide) hf (fun hf => ?_) (fun hf => ?_)
    · cases hf
      exact jj
    · refine j_aload_n C 0 dX0_goByInput_116 rfl rfl ?_
      refine j_iload_n C 3 dX0_goByInput_117 rfl rfl ?_
      refine j_iload_n C 1 dX0_goByInput_118 rfl rfl ?_
      obtain ⟨u39, h40, hf⟩ := bd hf
      refine j_cVI C [.int y3, .int c1] gX0_goByInput_X0_goalOf rfl hdX0_goalOf ⟨⟨rfl, rfl⟩, Nat.le_of_ble_eq_true rfl, Nat.le_of_ble_eq_true rfl⟩ rfl (g_C hc0) rfl (k_X0_goalOf hc0 h40) dX0_goByInput_119 rfl (Nat.le_of_ble_eq_true rfl) ?_
      refine j_istore C (fun y => [(4, .int y), (0, .ref (ad c0)), (1, .int c1), (2, .int c2), (3, .int y3)]) dX0_goByInput_122 (by decide) (fun _ => rfl) hf (fun x41 hf => ?_)
      refine j_aload_n C 1 dX0_goByInput_124 rfl rfl ?_
      refine j_iload_n C 4 dX0_goByInput_125 rfl rfl ?_
      obtain ⟨u42, h43, hf⟩ := bd hf
      refine j_cVR C [.int y3] gX0_goByInput_X0_ring rfl hdX0_ring ⟨⟨rfl, rfl⟩, Nat.le_of_ble_eq_true rfl, Nat.le_of_ble_eq_true rfl⟩ rfl (g_C hc0) rfl (k_X0_ring hc0 h43) dX0_goByInput_126 rfl (Nat.le_of_ble_eq_true rfl) ?_
      have hk44 := q_X0_ring hc0 h43
      obtain ⟨u45, h46, hf⟩ := bd hf
      refine j_cVI C [] gX0_goByInput_X6_waits rfl hdX6_waits ⟨⟨rfl, rfl⟩, Nat.le_of_ble_eq_true rfl, Nat.le_of_ble_eq_true rfl⟩ rfl (g_R hk44) rfl (k_X6_waits hk44 h46) dX0_goByInput_129 rfl (Nat.le_of_ble_eq_true rfl) ?_
      obtain ⟨v47, h48, hf⟩ := bd hf
      have jj49 : jW (EC l D ad aI aZ aF) G v47 164 [(0, .ref (ad c0)), (1, .int c1), (2, .int c2), (3, .int y3), (4, .int x41)] [] := by
        refine j_iinc C (v := (y3 + 1)) 3 (fun y => [(3, .int y), (0, .ref (ad c0)), (1, .int c1), (2, .int c2), (4, .int x41)]) dX0_goByInput_164 rfl rfl (by decide) (fun _ => rfl) hf (fun x57 hf => ?_)
        refine j_goto C 111 dX0_goByInput_167 (by decide) ?_
        refine j_sub [1, 2, 3, 0] rfl ?_
        exact ih _ _ _ hf jj
      clear hf
      have hf := h48
      clear h48
      refine j_if_eq C 164 dX0_goByInput_132 (by decide) hf (fun hf => ?_) (fun hf => ?_)
      · cases hf
        refine j_sub [1, 2, 3, 4, 0] rfl ?_
        exact jj49
      · refine j_iload C 0 dX0_goByInput_135 rfl ?_
        refine j_iconst C (v := (-1)) dX0_goByInput_137 (by decide) ?_
        refine j_icmp_eq C 164 dX0_goByInput_138 (by decide) hf (fun hf => ?_) (fun hf => ?_)
        · cases hf
          refine j_sub [1, 2, 3, 4, 0] rfl ?_
          exact jj49
        · refine j_iload C 0 dX0_goByInput_141 rfl ?_
          obtain ⟨u50, h51, hf⟩ := bd hf
          refine j_cNI C [.int x41] gX0_goByInput_X8_sideOf_n264 rfl nm_RX0_264 mX0_goByInput_iX8 mX0_goByInput_sX8_sideOf hdX8_sideOf.2 ⟨⟨rfl, rfl⟩, Nat.le_of_ble_eq_true rfl, Nat.le_of_ble_eq_true rfl⟩ rfl (k_X8_sideOf h51) dX0_goByInput_143 rfl (Nat.le_of_ble_eq_true rfl) ?_
          refine j_aload_n C 1 dX0_goByInput_146 rfl rfl ?_
          refine j_get C 12 iX0_goByInput_X0 (g_C hc0) rfl (by decide) mX0_goByInput_f73 rfl rfl dX0_goByInput_147 ?_
          refine j_icmp_ne C 164 dX0_goByInput_150 (by decide) hf (fun hf => ?_) (fun hf => ?_)
          · refine j_aload_n C 1 dX0_goByInput_153 rfl rfl ?_
            refine j_aload_n C 1 dX0_goByInput_154 rfl rfl ?_
            refine j_iload_n C 4 dX0_goByInput_155 rfl rfl ?_
            obtain ⟨u52, h53, hf⟩ := bd hf
            refine j_cVR C [.int y3] gX0_goByInput_X0_ring rfl hdX0_ring ⟨⟨rfl, rfl⟩, Nat.le_of_ble_eq_true rfl, Nat.le_of_ble_eq_true rfl⟩ rfl (g_C hc0) rfl (k_X0_ring hc0 h53) dX0_goByInput_156 rfl (Nat.le_of_ble_eq_true rfl) ?_
            have hk54 := q_X0_ring hc0 h53
            refine j_iload C 0 dX0_goByInput_159 rfl ?_
            obtain ⟨u55, h56, hf⟩ := bd hf
            refine j_cVV C [.ref (ad u52), .int x41] gX0_goByInput_X0_begin rfl hdX0_begin ⟨⟨rfl, rfl⟩, Nat.le_of_ble_eq_true rfl, Nat.le_of_ble_eq_true rfl⟩ rfl (g_C hc0) rfl (k_X0_begin hc0 hk54 h56) dX0_goByInput_161 rfl (Nat.le_of_ble_eq_true rfl) ?_
            cases hf
            refine j_sub [1, 2, 3, 4, 0] rfl ?_
            exact jj49
          · cases hf
            refine j_sub [1, 2, 3, 4, 0] rfl ?_
            exact jj49
set_option maxRecDepth 100000 in
set_option maxHeartbeats 4000000 in
theorem k_X0_goByInput {l : Launch} {D : va_G} {ad : Nat → Nat} {aI aZ aF : ClassId} {b : Nat} {p1 : Int32} (hb : isC b) {K : Mem} {u : Mem} (hf : f_X0_goByInput b p1 K = some u) : cV (EC l D ad aI aZ aF) yX0_goByInput wsX0_goByInput rmX0_goByInput [.ref (ad b), .int p1] K u := by
  rw [f_X0_goByInput] at hf
  refine j_entV (cc := cX0_goByInput) (maxL := 5) (EC_ok l D ad aI aZ aF) (by decide) rfl (Nat.le_of_ble_eq_true rfl) (fun G C ret => ?_)
  refine j_sub [0, 1] (lv2 := [(0, .ref (ad b)), (1, .int p1)]) rfl ?_
  refine j_aload_n C 0 dX0_goByInput_0 rfl rfl ?_
  refine j_iconst C (v := 1) dX0_goByInput_1 (by decide) ?_
  refine j_put C (ty := .boolean) 15 iX0_goByInput_X0 tyX0 tyX0_ok nmX0 (g_C hb) (s_C_15 hb _) rfl (by decide) mX0_goByInput_f82 rfl rfl (by decide +kernel) rfl rfl (Nat.le_of_ble_eq_true rfl) dX0_goByInput_2 hf (fun K1 hf => ?_)
  refine j_iload_n C 1 dX0_goByInput_5 rfl rfl ?_
  obtain ⟨u2, h3, hf⟩ := bd hf
  refine j_cNI C [.int p1] gX0_goByInput_X8_sideOf_n264 rfl nm_RX0_264 mX0_goByInput_iX8 mX0_goByInput_sX8_sideOf hdX8_sideOf.2 ⟨⟨rfl, rfl⟩, Nat.le_of_ble_eq_true rfl, Nat.le_of_ble_eq_true rfl⟩ rfl (k_X8_sideOf h3) dX0_goByInput_6 rfl (Nat.le_of_ble_eq_true rfl) ?_
  refine j_aload_n C 0 dX0_goByInput_9 rfl rfl ?_
  refine j_get C 12 iX0_goByInput_X0 (g_C hb) rfl (by decide) mX0_goByInput_f73 rfl rfl dX0_goByInput_10 ?_
  obtain ⟨v4, h5, hf⟩ := bd hf
  have jj6 : jW (EC l D ad aI aZ aF) G K1 21 [(0, .ref (ad b)), (1, .int p1)] [.int v4] := by
    refine j_istore_n C (fun y => [(2, .int y), (0, .ref (ad b)), (1, .int p1)]) dX0_goByInput_21 rfl (by decide) (fun _ => rfl) hf (fun x7 hf => ?_)
    refine j_iconst C (v := 0) dX0_goByInput_22 (by decide) ?_
    refine j_istore_n C (fun y => [(3, .int y), (2, .int x7), (0, .ref (ad b)), (1, .int p1)]) dX0_goByInput_23 rfl (by decide) (fun _ => rfl) hf (fun x8 hf => ?_)
    obtain ⟨v17, h18, hf⟩ := bd hf
    refine j_sub [2, 3, 1, 0] (lv2 := [(0, .ref (ad b)), (1, .int p1), (2, .int x7), (3, .int x8)]) rfl ?_
    refine lp_X0_goByInput_L24 hb C 70 _ _ _ h18 ?_
    refine j_iload_n C 2 dX0_goByInput_51 rfl rfl ?_
    obtain ⟨v19, h20, hf⟩ := bd hf
    have jj21 : jW (EC l D ad aI aZ aF) G v19 81 [(0, .ref (ad b)), (1, .int p1), (2, .int x7), (3, .int v17.1)] [] := by
      refine j_aload_n C 0 dX0_goByInput_81 rfl rfl ?_
      refine j_get C 6 iX0_goByInput_X0 (g_C hb) rfl (by decide) mX0_goByInput_f52 rfl rfl dX0_goByInput_82 ?_
      obtain ⟨u28, h29, hf⟩ := bd hf
      refine j_cVI C [] gX0_goByInput_X6_waits rfl hdX6_waits ⟨⟨rfl, rfl⟩, Nat.le_of_ble_eq_true rfl, Nat.le_of_ble_eq_true rfl⟩ rfl (g_R (isC_R0 hb)) rfl (k_X6_waits (isC_R0 hb) h29) dX0_goByInput_85 rfl (Nat.le_of_ble_eq_true rfl) ?_
      obtain ⟨v30, h31, hf⟩ := bd hf
      have jj32 : jW (EC l D ad aI aZ aF) G v30 109 [(0, .ref (ad b)), (1, .int p1), (2, .int x7), (3, .int v17.1)] [] := by
        refine j_iconst C (v := 0) dX0_goByInput_109 (by decide) ?_
        refine j_istore_n C (fun y => [(3, .int y), (0, .ref (ad b)), (1, .int p1), (2, .int x7)]) dX0_goByInput_110 rfl (by decide) (fun _ => rfl) hf (fun x38 hf => ?_)
        obtain ⟨v58, h59, hf⟩ := bd hf
        refine j_sub [1, 2, 3, 0] (lv2 := [(0, .ref (ad b)), (1, .int p1), (2, .int x7), (3, .int x38)]) rfl ?_
        refine lp_X0_goByInput_L111 hb C 70 _ _ _ h59 ?_
        cases hf
        exact ret _ _ dX0_goByInput_170
      clear hf
      have hf := h31
      clear h31
      refine j_if_eq C 109 dX0_goByInput_88 (by decide) hf (fun hf => ?_) (fun hf => ?_)
      · cases hf
        exact jj32
      · refine j_aload_n C 0 dX0_goByInput_91 rfl rfl ?_
        refine j_get C 7 iX0_goByInput_X0 (g_C hb) rfl (by decide) mX0_goByInput_f56 rfl rfl dX0_goByInput_92 ?_
        obtain ⟨u33, h34, hf⟩ := bd hf
        refine j_cVI C [] gX0_goByInput_X6_waits rfl hdX6_waits ⟨⟨rfl, rfl⟩, Nat.le_of_ble_eq_true rfl, Nat.le_of_ble_eq_true rfl⟩ rfl (g_R (isC_R1 hb)) rfl (k_X6_waits (isC_R1 hb) h34) dX0_goByInput_95 rfl (Nat.le_of_ble_eq_true rfl) ?_
        refine j_if_eq C 109 dX0_goByInput_98 (by decide) hf (fun hf => ?_) (fun hf => ?_)
        · cases hf
          exact jj32
        · refine j_aload_n C 0 dX0_goByInput_101 rfl rfl ?_
          refine j_iload_n C 1 dX0_goByInput_102 rfl rfl ?_
          obtain ⟨u35, h36, hf⟩ := bd hf
          refine j_cNI C [.int p1] gX0_goByInput_X8_sideOf_n264 rfl nm_RX0_264 mX0_goByInput_iX8 mX0_goByInput_sX8_sideOf hdX8_sideOf.2 ⟨⟨rfl, rfl⟩, Nat.le_of_ble_eq_true rfl, Nat.le_of_ble_eq_true rfl⟩ rfl (k_X8_sideOf h36) dX0_goByInput_103 rfl (Nat.le_of_ble_eq_true rfl) ?_
          refine j_put C (ty := .int) 12 iX0_goByInput_X0 tyX0 tyX0_ok nmX0 (g_C hb) (s_C_12 hb _) rfl (by decide) mX0_goByInput_f73 rfl rfl (by decide +kernel) rfl rfl (Nat.le_of_ble_eq_true rfl) dX0_goByInput_106 hf (fun K37 hf => ?_)
          cases hf
          exact jj32
    clear hf
    have hf := h20
    clear h20
    refine j_if_ne C 81 dX0_goByInput_52 (by decide) hf (fun hf => ?_) (fun hf => ?_)
    · refine j_aload_n C 0 dX0_goByInput_55 rfl rfl ?_
      refine j_aload_n C 0 dX0_goByInput_56 rfl rfl ?_
      refine j_get C 6 iX0_goByInput_X0 (g_C hb) rfl (by decide) mX0_goByInput_f52 rfl rfl dX0_goByInput_57 ?_
      obtain ⟨u22, h23, hf⟩ := bd hf
      refine j_cVI C [.ref (ad (b + 16))] gX0_goByInput_X0_mayLeaveByInput rfl hdX0_mayLeaveByInput ⟨⟨rfl, rfl⟩, Nat.le_of_ble_eq_true rfl, Nat.le_of_ble_eq_true rfl⟩ rfl (g_C hb) rfl (k_X0_mayLeaveByInput hb (isC_R0 hb) h23) dX0_goByInput_60 rfl (Nat.le_of_ble_eq_true rfl) ?_
      refine j_if_eq C 81 dX0_goByInput_63 (by decide) hf (fun hf => ?_) (fun hf => ?_)
      · cases hf
        exact jj21
      · refine j_aload_n C 0 dX0_goByInput_66 rfl rfl ?_
        refine j_aload_n C 0 dX0_goByInput_67 rfl rfl ?_
        refine j_get C 7 iX0_goByInput_X0 (g_C hb) rfl (by decide) mX0_goByInput_f56 rfl rfl dX0_goByInput_68 ?_
        obtain ⟨u24, h25, hf⟩ := bd hf
        refine j_cVI C [.ref (ad (b + 17))] gX0_goByInput_X0_mayLeaveByInput rfl hdX0_mayLeaveByInput ⟨⟨rfl, rfl⟩, Nat.le_of_ble_eq_true rfl, Nat.le_of_ble_eq_true rfl⟩ rfl (g_C hb) rfl (k_X0_mayLeaveByInput hb (isC_R1 hb) h25) dX0_goByInput_71 rfl (Nat.le_of_ble_eq_true rfl) ?_
        refine j_if_eq C 81 dX0_goByInput_74 (by decide) hf (fun hf => ?_) (fun hf => ?_)
        · cases hf
          exact jj21
        · refine j_aload_n C 0 dX0_goByInput_77 rfl rfl ?_
          obtain ⟨u26, h27, hf⟩ := bd hf
          refine j_cVV C [] gX0_goByInput_X0_leaveSide rfl hdX0_leaveSide ⟨⟨rfl, rfl⟩, Nat.le_of_ble_eq_true rfl, Nat.le_of_ble_eq_true rfl⟩ rfl (g_C hb) rfl (k_X0_leaveSide hb h27) dX0_goByInput_78 rfl (Nat.le_of_ble_eq_true rfl) ?_
          cases hf
          exact jj21
    · cases hf
      exact jj21
  clear hf
  have hf := h5
  clear h5
  refine j_icmp_ne C 20 dX0_goByInput_13 (by decide) hf (fun hf => ?_) (fun hf => ?_)
  · refine j_iconst C (v := 1) dX0_goByInput_16 (by decide) ?_
    refine j_goto C 21 dX0_goByInput_17 (by decide) ?_
    cases hf
    exact jj6
  · refine j_iconst C (v := 0) dX0_goByInput_20 (by decide) ?_
    cases hf
    exact jj6
/-- BarrierLights$Plans.splitOf(I)I -/
def f_X5_splitOf (p1 : Int32) (K : Mem) : Option (Int32) := (f_X5_isMade p1 K).bind fun u1 => if u1 = 0 then (some 0) else (if inb p1 4 = true then (some (K 4 (ix p1))) else none)
abbrev rmX5_splitOf : Room := { frames := 1, cells := 0, slots := 0, locals := 21 }
theorem iX5_splitOf_X5 : ∀ w ∈ u_ws RX5 TX5 3, w ∈ wsX5_splitOf := fun _ h => List.mem_cons_of_mem _ (List.mem_append_right _ h)
theorem mX5_splitOf_f18 : Cond.fieldLink RX5 18 "BarrierLights$Plans" "splits" "[I" ∈ wsX5_splitOf := by decide +kernel
set_option maxRecDepth 100000 in
set_option maxHeartbeats 4000000 in
theorem k_X5_splitOf {l : Launch} {D : va_G} {ad : Nat → Nat} {aI aZ aF : ClassId} {p1 : Int32} {K : Mem} {u : Int32} (hf : f_X5_splitOf p1 K = some u) : cI (EC l D ad aI aZ aF) yX5_splitOf wsX5_splitOf rmX5_splitOf [.ref (ad 1), .int p1] K u K := by
  rw [f_X5_splitOf] at hf
  refine j_entI (cc := cX5_splitOf) (maxL := 2) (EC_ok l D ad aI aZ aF) (Or.inl rfl) (by decide) rfl (Nat.le_of_ble_eq_true rfl) (fun G C ret => ?_)
  refine j_sub [0, 1] (lv2 := [(0, .ref (ad 1)), (1, .int p1)]) rfl ?_
  refine j_aload_n C 0 dX5_splitOf_0 rfl rfl ?_
  refine j_iload_n C 1 dX5_splitOf_1 rfl rfl ?_
  obtain ⟨u1, h2, hf⟩ := bd hf
  refine j_cVI C [.int p1] gX5_splitOf_X5_isMade rfl hdX5_isMade ⟨⟨rfl, rfl⟩, Nat.le_of_ble_eq_true rfl, Nat.le_of_ble_eq_true rfl⟩ rfl g_1 rfl (k_X5_isMade h2) dX5_splitOf_2 rfl (Nat.le_of_ble_eq_true rfl) ?_
  refine j_if_eq C 17 dX5_splitOf_5 (by decide) hf (fun hf => ?_) (fun hf => ?_)
  · refine j_iconst C (v := 0) dX5_splitOf_17 (by decide) ?_
    cases hf
    exact ret _ _ dX5_splitOf_18 (fun h => by cases h)
  · refine j_aload_n C 0 dX5_splitOf_8 rfl rfl ?_
    refine j_get C 2 iX5_splitOf_X5 g_1 rfl (by decide) mX5_splitOf_f18 rfl rfl dX5_splitOf_9 ?_
    refine j_iload_n C 1 dX5_splitOf_12 rfl rfl ?_
    refine j_iald C 0 g_4 rfl dX5_splitOf_13 hf (fun hf => ?_)
    refine j_goto C 18 dX5_splitOf_14 (by decide) ?_
    cases hf
    exact ret _ _ dX5_splitOf_18 (fun h => by cases h)
/-- BarrierLights$Link.isBeforeSplit(LBarrierLights$Plans;)Z -/
def f_X3_isBeforeSplit (b : Nat) (K : Mem) : Option (Int32) := if (K b 0) = (-1) then (some 0) else ((f_X5_splitOf (K b 0) K).bind fun u1 => if u1 ≤ (K b 1) then (some 0) else (some 1))
abbrev rmX3_isBeforeSplit : Room := { frames := 2, cells := 0, slots := 0, locals := 42 }
theorem iX3_isBeforeSplit_X3 : ∀ w ∈ u_ws RX3 TX3 4, w ∈ wsX3_isBeforeSplit := fun _ h => List.mem_cons_of_mem _ (List.mem_append_left _ (List.mem_append_right _ h))
theorem mX3_isBeforeSplit_f9 : Cond.fieldLink RX3 9 "BarrierLights$Link" "plan" "I" ∈ wsX3_isBeforeSplit := by decide +kernel
theorem mX3_isBeforeSplit_f15 : Cond.fieldLink RX3 15 "BarrierLights$Link" "localClock" "I" ∈ wsX3_isBeforeSplit := by decide +kernel
theorem hdX5_splitOf : yX5_splitOf.cls = RX5 ∧ yX5_splitOf.cls ≠ "java/lang/invoke/MethodHandle" ∧ yX5_splitOf.cls ≠ "java/lang/invoke/VarHandle" ∧ (parseMethodDescriptor yX5_splitOf.desc).map (fun d => d.parameters.length) = some 1 := by decide +kernel
set_option maxRecDepth 100000 in
set_option maxHeartbeats 4000000 in
theorem k_X3_isBeforeSplit {l : Launch} {D : va_G} {ad : Nat → Nat} {aI aZ aF : ClassId} {b : Nat} (hb : isL b) {K : Mem} {u : Int32} (hf : f_X3_isBeforeSplit b K = some u) : cI (EC l D ad aI aZ aF) yX3_isBeforeSplit wsX3_isBeforeSplit rmX3_isBeforeSplit [.ref (ad b), .ref (ad 1)] K u K := by
  rw [f_X3_isBeforeSplit] at hf
  refine j_entI (cc := cX3_isBeforeSplit) (maxL := 2) (EC_ok l D ad aI aZ aF) (Or.inr rfl) (by decide) rfl (Nat.le_of_ble_eq_true rfl) (fun G C ret => ?_)
  refine j_sub [0, 1] (lv2 := [(0, .ref (ad b)), (1, .ref (ad 1))]) rfl ?_
  refine j_aload_n C 0 dX3_isBeforeSplit_0 rfl rfl ?_
  refine j_get C 0 iX3_isBeforeSplit_X3 (g_L hb) rfl (by decide) mX3_isBeforeSplit_f9 rfl rfl dX3_isBeforeSplit_1 ?_
  refine j_iconst C (v := (-1)) dX3_isBeforeSplit_4 (by decide) ?_
  refine j_icmp_eq C 27 dX3_isBeforeSplit_5 (by decide) hf (fun hf => ?_) (fun hf => ?_)
  · refine j_iconst C (v := 0) dX3_isBeforeSplit_27 (by decide) ?_
    cases hf
    exact ret _ _ dX3_isBeforeSplit_28 (fun _ => rfl)
  · refine j_aload_n C 0 dX3_isBeforeSplit_8 rfl rfl ?_
    refine j_get C 1 iX3_isBeforeSplit_X3 (g_L hb) rfl (by decide) mX3_isBeforeSplit_f15 rfl rfl dX3_isBeforeSplit_9 ?_
    refine j_aload_n C 1 dX3_isBeforeSplit_12 rfl rfl ?_
    refine j_aload_n C 0 dX3_isBeforeSplit_13 rfl rfl ?_
    refine j_get C 0 iX3_isBeforeSplit_X3 (g_L hb) rfl (by decide) mX3_isBeforeSplit_f9 rfl rfl dX3_isBeforeSplit_14 ?_
    obtain ⟨u1, h2, hf⟩ := bd hf
    refine j_cVI C [.int ((K b 0))] gX3_isBeforeSplit_X5_splitOf rfl hdX5_splitOf ⟨⟨rfl, rfl⟩, Nat.le_of_ble_eq_true rfl, Nat.le_of_ble_eq_true rfl⟩ rfl g_1 rfl (k_X5_splitOf h2) dX3_isBeforeSplit_17 rfl (Nat.le_of_ble_eq_true rfl) ?_
    refine j_icmp_ge C 27 dX3_isBeforeSplit_20 (by decide) hf (fun hf => ?_) (fun hf => ?_)
    · refine j_iconst C (v := 0) dX3_isBeforeSplit_27 (by decide) ?_
      cases hf
      exact ret _ _ dX3_isBeforeSplit_28 (fun _ => rfl)
    · refine j_iconst C (v := 1) dX3_isBeforeSplit_23 (by decide) ?_
      refine j_goto C 28 dX3_isBeforeSplit_24 (by decide) ?_
      cases hf
      exact ret _ _ dX3_isBeforeSplit_28 (fun _ => rfl)
/-- BarrierLights$Controller.isDone(LBarrierLights$Ring;Z)Z -/
def f_X0_isDone (b : Nat) (p1 : Nat) (p2 : Int32) (K : Mem) : Option (Int32) := if (K p1 3) = 0 then (some 0) else ((f_X7_at (b + 3) (K p1 0) 0 K).bind fun u1 => (f_X6_mayEnd p1 u1 K).bind fun u3 => if u3 = 0 then (some 0) else (if p2 = 0 then (if (K p1 7) = 0 then (some 1) else ((f_X7_at (b + 3) (K p1 0) 2 K).bind fun u5 => if (K p1 6) < u5 then (some 0) else (some 1))) else (some 1)))
abbrev rmX0_isDone : Room := { frames := 1, cells := 0, slots := 0, locals := 23 }
theorem iX0_isDone_X6 : ∀ w ∈ u_ws RX6 TX6 10, w ∈ wsX0_isDone := fun _ h => List.mem_cons_of_mem _ (List.mem_append_left _ (List.mem_append_left _ (List.mem_append_right _ h)))
theorem iX0_isDone_X0 : ∀ w ∈ u_ws RX0 TX0 16, w ∈ wsX0_isDone := fun _ h => List.mem_cons_of_mem _ (List.mem_append_left _ (List.mem_append_right _ h))
theorem mX0_isDone_f18 : Cond.fieldLink RX0 18 "BarrierLights$Controller" "table" "LBarrierLights$Table;" ∈ wsX0_isDone := by decide +kernel
set_option maxRecDepth 100000 in
set_option maxHeartbeats 4000000 in
theorem k_X0_isDone {l : Launch} {D : va_G} {ad : Nat → Nat} {aI aZ aF : ClassId} {b : Nat} {p1 : Nat} {p2 : Int32} (hb : isC b) (h1 : isR p1) {K : Mem} {u : Int32} (hf : f_X0_isDone b p1 p2 K = some u) : cI (EC l D ad aI aZ aF) yX0_isDone wsX0_isDone rmX0_isDone [.ref (ad b), .ref (ad p1), .int p2] K u K := by
  rw [f_X0_isDone] at hf
  refine j_entI (cc := cX0_isDone) (maxL := 3) (EC_ok l D ad aI aZ aF) (Or.inr rfl) (by decide) rfl (Nat.le_of_ble_eq_true rfl) (fun G C ret => ?_)
  refine j_sub [0, 1, 2] (lv2 := [(0, .ref (ad b)), (1, .ref (ad p1)), (2, .int p2)]) rfl ?_
  refine j_aload_n C 1 dX0_isDone_0 rfl rfl ?_
  refine j_getN C 3 iX0_isDone_X6 (g_R h1) rfl (by decide) nf_RX0_192 rfl rfl dX0_isDone_1 ?_
  refine j_if_eq C 26 dX0_isDone_4 (by decide) hf (fun hf => ?_) (fun hf => ?_)
  · refine j_iconst C (v := 0) dX0_isDone_26 (by decide) ?_
    cases hf
    exact ret _ _ dX0_isDone_27 (fun _ => rfl)
  · refine j_aload_n C 1 dX0_isDone_7 rfl rfl ?_
    refine j_aload_n C 0 dX0_isDone_8 rfl rfl ?_
    refine j_get C 1 iX0_isDone_X0 (g_C hb) rfl (by decide) mX0_isDone_f18 rfl rfl dX0_isDone_9 ?_
    refine j_aload_n C 1 dX0_isDone_12 rfl rfl ?_
    refine j_getN C 0 iX0_isDone_X6 (g_R h1) rfl (by decide) nf_RX0_157 rfl rfl dX0_isDone_13 ?_
    refine j_iconst C (v := 0) dX0_isDone_16 (by decide) ?_
    obtain ⟨u1, h2, hf⟩ := bd hf
    refine j_cVI C [.int ((K p1 0)), .int 0] gX0_isDone_X7_at rfl hdX7_at ⟨⟨rfl, rfl⟩, Nat.le_of_ble_eq_true rfl, Nat.le_of_ble_eq_true rfl⟩ rfl (g_T (isC_T3 hb)) rfl (k_X7_at (isC_T3 hb) h2) dX0_isDone_17 rfl (Nat.le_of_ble_eq_true rfl) ?_
    obtain ⟨u3, h4, hf⟩ := bd hf
    refine j_cVI C [.int u1] gX0_isDone_X6_mayEnd rfl hdX6_mayEnd ⟨⟨rfl, rfl⟩, Nat.le_of_ble_eq_true rfl, Nat.le_of_ble_eq_true rfl⟩ rfl (g_R h1) rfl (k_X6_mayEnd h1 h4) dX0_isDone_20 rfl (Nat.le_of_ble_eq_true rfl) ?_
    refine j_if_ne C 28 dX0_isDone_23 (by decide) hf (fun hf => ?_) (fun hf => ?_)
    · refine j_iconst C (v := 0) dX0_isDone_26 (by decide) ?_
      cases hf
      exact ret _ _ dX0_isDone_27 (fun _ => rfl)
    · refine j_iload_n C 2 dX0_isDone_28 rfl rfl ?_
      refine j_if_ne C 58 dX0_isDone_29 (by decide) hf (fun hf => ?_) (fun hf => ?_)
      · refine j_aload_n C 1 dX0_isDone_32 rfl rfl ?_
        refine j_getN C 7 iX0_isDone_X6 (g_R h1) rfl (by decide) nf_RX0_170 rfl rfl dX0_isDone_33 ?_
        refine j_if_eq C 58 dX0_isDone_36 (by decide) hf (fun hf => ?_) (fun hf => ?_)
        · refine j_iconst C (v := 1) dX0_isDone_58 (by decide) ?_
          refine j_goto C 63 dX0_isDone_59 (by decide) ?_
          cases hf
          exact ret _ _ dX0_isDone_63 (fun _ => rfl)
        · refine j_aload_n C 1 dX0_isDone_39 rfl rfl ?_
          refine j_getN C 6 iX0_isDone_X6 (g_R h1) rfl (by decide) nf_RX0_195 rfl rfl dX0_isDone_40 ?_
          refine j_aload_n C 0 dX0_isDone_43 rfl rfl ?_
          refine j_get C 1 iX0_isDone_X0 (g_C hb) rfl (by decide) mX0_isDone_f18 rfl rfl dX0_isDone_44 ?_
          refine j_aload_n C 1 dX0_isDone_47 rfl rfl ?_
          refine j_getN C 0 iX0_isDone_X6 (g_R h1) rfl (by decide) nf_RX0_157 rfl rfl dX0_isDone_48 ?_
          refine j_iconst C (v := 2) dX0_isDone_51 (by decide) ?_
          obtain ⟨u5, h6, hf⟩ := bd hf
          refine j_cVI C [.int ((K p1 0)), .int 2] gX0_isDone_X7_at rfl hdX7_at ⟨⟨rfl, rfl⟩, Nat.le_of_ble_eq_true rfl, Nat.le_of_ble_eq_true rfl⟩ rfl (g_T (isC_T3 hb)) rfl (k_X7_at (isC_T3 hb) h6) dX0_isDone_52 rfl (Nat.le_of_ble_eq_true rfl) ?_
          refine j_icmp_lt C 62 dX0_isDone_55 (by decide) hf (fun hf => ?_) (fun hf => ?_)
          · refine j_iconst C (v := 0) dX0_isDone_62 (by decide) ?_
            cases hf
            exact ret _ _ dX0_isDone_63 (fun _ => rfl)
          · refine j_iconst C (v := 1) dX0_isDone_58 (by decide) ?_
            refine j_goto C 63 dX0_isDone_59 (by decide) ?_
            cases hf
            exact ret _ _ dX0_isDone_63 (fun _ => rfl)
      · refine j_iconst C (v := 1) dX0_isDone_58 (by decide) ?_
        refine j_goto C 63 dX0_isDone_59 (by decide) ?_
        cases hf
        exact ret _ _ dX0_isDone_63 (fun _ => rfl)
/-- BarrierLights$Controller.goOn(LBarrierLights$Ring;Z)V -/
def f_X0_goOn (b : Nat) (p1 : Nat) (p2 : Int32) (K : Mem) : Option (Mem) := (f_X6_isGreen p1 K).bind fun u1 => (if u1 = 0 then (some 0) else (if (K p1 8) = 0 then (if (K p1 3) = 0 then (some 1) else (some 0)) else (some 0)) : Option (Int32)).bind fun v3 => lt v3 fun x6 => (if x6 = 0 then (some K) else ((f_X8_bit (K p1 0) K).bind fun u10 => if ((K b 14) &&& u10) = 0 then (some K) else ((f_X0_beginWalk b p1 K).bind fun u12 => some u12)) : Option (Mem)).bind fun v7 => (f_X0_isDone b p1 p2 v7).bind fun u14 => if u14 = 0 then (some v7) else (if (v7 p1 2) = (-1) then (some v7) else ((f_X6_turnYellow p1 (v7 p1 2) v7).bind fun u16 => some u16))
abbrev rmX0_goOn : Room := { frames := 2, cells := 0, slots := 0, locals := 45 }
theorem iX0_goOn_X6 : ∀ w ∈ u_ws RX6 TX6 10, w ∈ wsX0_goOn := fun _ h => List.mem_cons_of_mem _ (List.mem_append_left _ (List.mem_append_left _ (List.mem_append_right _ h)))
theorem iX0_goOn_X0 : ∀ w ∈ u_ws RX0 TX0 16, w ∈ wsX0_goOn := fun _ h => List.mem_cons_of_mem _ (List.mem_append_left _ (List.mem_append_right _ h))
theorem mX0_goOn_f79 : Cond.fieldLink RX0 79 "BarrierLights$Controller" "walkCalls" "I" ∈ wsX0_goOn := by decide +kernel
theorem mX0_goOn_iX8 : Cond.initialized RX8 ∈ wsX0_goOn := by decide +kernel
theorem mX0_goOn_sX8_bit : Cond.static yX8_bit ∈ wsX0_goOn := by decide +kernel
theorem hdX0_isDone : yX0_isDone.cls = RX0 ∧ yX0_isDone.cls ≠ "java/lang/invoke/MethodHandle" ∧ yX0_isDone.cls ≠ "java/lang/invoke/VarHandle" ∧ (parseMethodDescriptor yX0_isDone.desc).map (fun d => d.parameters.length) = some 2 := by decide +kernel
set_option maxRecDepth 100000 in
set_option maxHeartbeats 4000000 in
theorem k_X0_goOn {l : Launch} {D : va_G} {ad : Nat → Nat} {aI aZ aF : ClassId} {b : Nat} {p1 : Nat} {p2 : Int32} (hb : isC b) (h1 : isR p1) {K : Mem} {u : Mem} (hf : f_X0_goOn b p1 p2 K = some u) : cV (EC l D ad aI aZ aF) yX0_goOn wsX0_goOn rmX0_goOn [.ref (ad b), .ref (ad p1), .int p2] K u := by
  rw [f_X0_goOn] at hf
  refine j_entV (cc := cX0_goOn) (maxL := 4) (EC_ok l D ad aI aZ aF) (by decide) rfl (Nat.le_of_ble_eq_true rfl) (fun G C ret => ?_)
  refine j_sub [0, 1, 2] (lv2 := [(0, .ref (ad b)), (1, .ref (ad p1)), (2, .int p2)]) rfl ?_
  refine j_aload_n C 1 dX0_goOn_0 rfl rfl ?_
  obtain ⟨u1, h2, hf⟩ := bd hf
  refine j_cVI C [] gX0_goOn_X6_isGreen rfl hdX6_isGreen ⟨⟨rfl, rfl⟩, Nat.le_of_ble_eq_true rfl, Nat.le_of_ble_eq_true rfl⟩ rfl (g_R h1) rfl (k_X6_isGreen h1 h2) dX0_goOn_1 rfl (Nat.le_of_ble_eq_true rfl) ?_
  obtain ⟨v3, h4, hf⟩ := bd hf
  have jj5 : jW (EC l D ad aI aZ aF) G K 26 [(0, .ref (ad b)), (1, .ref (ad p1)), (2, .int p2)] [.int v3] := by
    refine j_istore_n C (fun y => [(3, .int y), (0, .ref (ad b)), (1, .ref (ad p1)), (2, .int p2)]) dX0_goOn_26 rfl (by decide) (fun _ => rfl) hf (fun x6 hf => ?_)
    refine j_iload_n C 0 dX0_goOn_27 rfl rfl ?_
    obtain ⟨v7, h8, hf⟩ := bd hf
    have jj9 : jW (EC l D ad aI aZ aF) G v7 51 [(0, .ref (ad b)), (1, .ref (ad p1)), (2, .int p2), (3, .int x6)] [] := by
      refine j_aload_n C 0 dX0_goOn_51 rfl rfl ?_
      refine j_aload_n C 1 dX0_goOn_52 rfl rfl ?_
      refine j_iload_n C 2 dX0_goOn_53 rfl rfl ?_
      obtain ⟨u14, h15, hf⟩ := bd hf
      refine j_cVI C [.ref (ad p1), .int p2] gX0_goOn_X0_isDone rfl hdX0_isDone ⟨⟨rfl, rfl⟩, Nat.le_of_ble_eq_true rfl, Nat.le_of_ble_eq_true rfl⟩ rfl (g_C hb) rfl (k_X0_isDone hb h1 h15) dX0_goOn_54 rfl (Nat.le_of_ble_eq_true rfl) ?_
      refine j_if_eq C 76 dX0_goOn_57 (by decide) hf (fun hf => ?_) (fun hf => ?_)
      · cases hf
        exact ret _ _ dX0_goOn_76
      · refine j_aload_n C 1 dX0_goOn_60 rfl rfl ?_
        refine j_getN C 2 iX0_goOn_X6 (g_R h1) rfl (by decide) nf_RX0_216 rfl rfl dX0_goOn_61 ?_
        refine j_iconst C (v := (-1)) dX0_goOn_64 (by decide) ?_
        refine j_icmp_eq C 76 dX0_goOn_65 (by decide) hf (fun hf => ?_) (fun hf => ?_)
        · cases hf
          exact ret _ _ dX0_goOn_76
        · refine j_aload_n C 1 dX0_goOn_68 rfl rfl ?_
          refine j_aload_n C 1 dX0_goOn_69 rfl rfl ?_
          refine j_getN C 2 iX0_goOn_X6 (g_R h1) rfl (by decide) nf_RX0_216 rfl rfl dX0_goOn_70 ?_
          obtain ⟨u16, h17, hf⟩ := bd hf
          refine j_cVV C [.int ((v7 p1 2))] gX0_goOn_X6_turnYellow rfl hdX6_turnYellow ⟨⟨rfl, rfl⟩, Nat.le_of_ble_eq_true rfl, Nat.le_of_ble_eq_true rfl⟩ rfl (g_R h1) rfl (k_X6_turnYellow h1 h17) dX0_goOn_73 rfl (Nat.le_of_ble_eq_true rfl) ?_
          cases hf
          exact ret _ _ dX0_goOn_76
    clear hf
    have hf := h8
    clear h8
    refine j_if_eq C 51 dX0_goOn_28 (by decide) hf (fun hf => ?_) (fun hf => ?_)
    · cases hf
      refine j_sub [1, 2, 3, 0] rfl ?_
      exact jj9
    · refine j_aload_n C 1 dX0_goOn_31 rfl rfl ?_
      refine j_get C 14 iX0_goOn_X0 (g_C hb) rfl (by decide) mX0_goOn_f79 rfl rfl dX0_goOn_32 ?_
      refine j_aload_n C 2 dX0_goOn_35 rfl rfl ?_
      refine j_getN C 0 iX0_goOn_X6 (g_R h1) rfl (by decide) nf_RX0_157 rfl rfl dX0_goOn_36 ?_
      obtain ⟨u10, h11, hf⟩ := bd hf
      refine j_cNI C [.int ((K p1 0))] gX0_goOn_X8_bit_n104 rfl nm_RX0_104 mX0_goOn_iX8 mX0_goOn_sX8_bit hdX8_bit.2 ⟨⟨rfl, rfl⟩, Nat.le_of_ble_eq_true rfl, Nat.le_of_ble_eq_true rfl⟩ rfl (k_X8_bit h11) dX0_goOn_39 rfl (Nat.le_of_ble_eq_true rfl) ?_
      refine j_iand C dX0_goOn_42 ?_
      refine j_if_eq C 51 dX0_goOn_43 (by decide) hf (fun hf => ?_) (fun hf => ?_)
      · cases hf
        refine j_sub [1, 2, 3, 0] rfl ?_
        exact jj9
      · refine j_aload_n C 1 dX0_goOn_46 rfl rfl ?_
        refine j_aload_n C 2 dX0_goOn_47 rfl rfl ?_
        obtain ⟨u12, h13, hf⟩ := bd hf
        refine j_cVV C [.ref (ad p1)] gX0_goOn_X0_beginWalk rfl hdX0_beginWalk ⟨⟨rfl, rfl⟩, Nat.le_of_ble_eq_true rfl, Nat.le_of_ble_eq_true rfl⟩ rfl (g_C hb) rfl (k_X0_beginWalk hb h1 h13) dX0_goOn_48 rfl (Nat.le_of_ble_eq_true rfl) ?_
        cases hf
        refine j_sub [1, 2, 3, 0] rfl ?_
        exact jj9
  clear hf
  have hf := h4
  clear h4
  refine j_if_eq C 25 dX0_goOn_4 (by decide) hf (fun hf => ?_) (fun hf => ?_)
  · refine j_iconst C (v := 0) dX0_goOn_25 (by decide) ?_
    cases hf
    exact jj5
  · refine j_aload_n C 1 dX0_goOn_7 rfl rfl ?_
    refine j_getN C 8 iX0_goOn_X6 (g_R h1) rfl (by decide) nf_RX0_249 rfl rfl dX0_goOn_8 ?_
    refine j_if_ne C 25 dX0_goOn_11 (by decide) hf (fun hf => ?_) (fun hf => ?_)
    · refine j_aload_n C 1 dX0_goOn_14 rfl rfl ?_
      refine j_getN C 3 iX0_goOn_X6 (g_R h1) rfl (by decide) nf_RX0_192 rfl rfl dX0_goOn_15 ?_
      refine j_if_ne C 25 dX0_goOn_18 (by decide) hf (fun hf => ?_) (fun hf => ?_)
      · refine j_iconst C (v := 1) dX0_goOn_21 (by decide) ?_
        refine j_goto C 26 dX0_goOn_22 (by decide) ?_
        cases hf
        exact jj5
      · refine j_iconst C (v := 0) dX0_goOn_25 (by decide) ?_
        cases hf
        exact jj5
    · refine j_iconst C (v := 0) dX0_goOn_25 (by decide) ?_
      cases hf
      exact jj5
/-- BarrierLights$Controller.mayLeave(LBarrierLights$Ring;Z)Z -/
def f_X0_mayLeave (b : Nat) (p1 : Nat) (p2 : Int32) (K : Mem) : Option (Int32) := (f_X6_waits p1 K).bind fun u1 => if u1 = 0 then ((f_X0_isDone b p1 p2 K).bind fun u3 => if u3 = 0 then (some 0) else (if (K p1 2) = (-1) then (some 1) else (some 0))) else (some 1)
abbrev rmX0_mayLeave : Room := { frames := 2, cells := 0, slots := 0, locals := 45 }
theorem iX0_mayLeave_X6 : ∀ w ∈ u_ws RX6 TX6 10, w ∈ wsX0_mayLeave := fun _ h => List.mem_cons_of_mem _ (List.mem_append_left _ (List.mem_append_left _ (List.mem_append_right _ h)))
set_option maxRecDepth 100000 in
set_option maxHeartbeats 4000000 in
theorem k_X0_mayLeave {l : Launch} {D : va_G} {ad : Nat → Nat} {aI aZ aF : ClassId} {b : Nat} {p1 : Nat} {p2 : Int32} (hb : isC b) (h1 : isR p1) {K : Mem} {u : Int32} (hf : f_X0_mayLeave b p1 p2 K = some u) : cI (EC l D ad aI aZ aF) yX0_mayLeave wsX0_mayLeave rmX0_mayLeave [.ref (ad b), .ref (ad p1), .int p2] K u K := by
  rw [f_X0_mayLeave] at hf
  refine j_entI (cc := cX0_mayLeave) (maxL := 3) (EC_ok l D ad aI aZ aF) (Or.inr rfl) (by decide) rfl (Nat.le_of_ble_eq_true rfl) (fun G C ret => ?_)
  refine j_sub [0, 1, 2] (lv2 := [(0, .ref (ad b)), (1, .ref (ad p1)), (2, .int p2)]) rfl ?_
  refine j_aload_n C 1 dX0_mayLeave_0 rfl rfl ?_
  obtain ⟨u1, h2, hf⟩ := bd hf
  refine j_cVI C [] gX0_mayLeave_X6_waits rfl hdX6_waits ⟨⟨rfl, rfl⟩, Nat.le_of_ble_eq_true rfl, Nat.le_of_ble_eq_true rfl⟩ rfl (g_R h1) rfl (k_X6_waits h1 h2) dX0_mayLeave_1 rfl (Nat.le_of_ble_eq_true rfl) ?_
  refine j_if_ne C 24 dX0_mayLeave_4 (by decide) hf (fun hf => ?_) (fun hf => ?_)
  · refine j_aload_n C 0 dX0_mayLeave_7 rfl rfl ?_
    refine j_aload_n C 1 dX0_mayLeave_8 rfl rfl ?_
    refine j_iload_n C 2 dX0_mayLeave_9 rfl rfl ?_
    obtain ⟨u3, h4, hf⟩ := bd hf
    refine j_cVI C [.ref (ad p1), .int p2] gX0_mayLeave_X0_isDone rfl hdX0_isDone ⟨⟨rfl, rfl⟩, Nat.le_of_ble_eq_true rfl, Nat.le_of_ble_eq_true rfl⟩ rfl (g_C hb) rfl (k_X0_isDone hb h1 h4) dX0_mayLeave_10 rfl (Nat.le_of_ble_eq_true rfl) ?_
    refine j_if_eq C 28 dX0_mayLeave_13 (by decide) hf (fun hf => ?_) (fun hf => ?_)
    · refine j_iconst C (v := 0) dX0_mayLeave_28 (by decide) ?_
      cases hf
      exact ret _ _ dX0_mayLeave_29 (fun _ => rfl)
    · refine j_aload_n C 1 dX0_mayLeave_16 rfl rfl ?_
      refine j_getN C 2 iX0_mayLeave_X6 (g_R h1) rfl (by decide) nf_RX0_216 rfl rfl dX0_mayLeave_17 ?_
      refine j_iconst C (v := (-1)) dX0_mayLeave_20 (by decide) ?_
      refine j_icmp_ne C 28 dX0_mayLeave_21 (by decide) hf (fun hf => ?_) (fun hf => ?_)
      · refine j_iconst C (v := 1) dX0_mayLeave_24 (by decide) ?_
        refine j_goto C 29 dX0_mayLeave_25 (by decide) ?_
        cases hf
        exact ret _ _ dX0_mayLeave_29 (fun _ => rfl)
      · refine j_iconst C (v := 0) dX0_mayLeave_28 (by decide) ?_
        cases hf
        exact ret _ _ dX0_mayLeave_29 (fun _ => rfl)
  · refine j_iconst C (v := 1) dX0_mayLeave_24 (by decide) ?_
    refine j_goto C 29 dX0_mayLeave_25 (by decide) ?_
    cases hf
    exact ret _ _ dX0_mayLeave_29 (fun _ => rfl)
