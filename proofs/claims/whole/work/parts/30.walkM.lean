/-- BarrierLightsModel.thrown()I -/
def f_X9_thrown (K : Mem) : Option (Int32) := some (K 0 0)
abbrev rmX9_thrown : Room := { frames := 0, cells := 0, slots := 0, locals := 0 }
theorem iX9_thrown_X9 : ∀ w ∈ u_ws RX9 TX9 37, w ∈ wsX9_thrown := fun _ h => List.mem_cons_of_mem _ (List.mem_append_right _ h)
theorem mX9_thrown_f118 : Cond.fieldLink RX9 118 "BarrierLightsModel" "code" "I" ∈ wsX9_thrown := by decide +kernel
set_option maxRecDepth 100000 in
set_option maxHeartbeats 4000000 in
theorem k_X9_thrown {l : Launch} {D : va_G} {ad : Nat → Nat} {aI aZ aS aF : ClassId} {K : Mem} {u : Int32} (hf : f_X9_thrown K = some u) : cI (EM l D ad aI aZ aS aF) yX9_thrown wsX9_thrown rmX9_thrown [.ref (ad 0)] K u K := by
  rw [f_X9_thrown] at hf
  refine j_entI (cc := cX9_thrown) (maxL := 1) (EM_ok l D ad aI aZ aS aF) (Or.inl rfl) (by decide) rfl (Nat.le_of_ble_eq_true rfl) (fun G C ret => ?_)
  refine j_sub [0] (lv2 := [(0, .ref (ad 0))]) rfl ?_
  refine j_aload_n C 0 dX9_thrown_0 rfl rfl ?_
  refine j_get C 0 iX9_thrown_X9 h_0 rfl (by decide) mX9_thrown_f118 rfl rfl dX9_thrown_1 ?_
  cases hf
  exact ret _ _ dX9_thrown_4 (fun h => by cases h)
/-- BarrierLightsModel.isCrossing(I)Z -/
def f_X9_isCrossing (p0 : Int32) (K : Mem) : Option (Int32) := if p0 = 0 then (some 1) else (if p0 = 1 then (some 1) else (some 0))
abbrev rmX9_isCrossing : Room := { frames := 0, cells := 0, slots := 0, locals := 0 }
set_option maxRecDepth 100000 in
set_option maxHeartbeats 4000000 in
theorem k_X9_isCrossing {l : Launch} {D : va_G} {ad : Nat → Nat} {aI aZ aS aF : ClassId} {p0 : Int32} {K : Mem} {u : Int32} (hf : f_X9_isCrossing p0 K = some u) : cI (EM l D ad aI aZ aS aF) yX9_isCrossing wsX9_isCrossing rmX9_isCrossing [.int p0] K u K := by
  rw [f_X9_isCrossing] at hf
  refine j_entI (cc := cX9_isCrossing) (maxL := 1) (EM_ok l D ad aI aZ aS aF) (Or.inr rfl) (by decide) rfl (Nat.le_of_ble_eq_true rfl) (fun G C ret => ?_)
  refine j_sub [0] (lv2 := [(0, .int p0)]) rfl ?_
  refine j_iload_n C 0 dX9_isCrossing_0 rfl rfl ?_
  refine j_if_eq C 9 dX9_isCrossing_1 (by decide) hf (fun hf => ?_) (fun hf => ?_)
  · refine j_iconst C (v := 1) dX9_isCrossing_9 (by decide) ?_
    refine j_goto C 14 dX9_isCrossing_10 (by decide) ?_
    cases hf
    exact ret _ _ dX9_isCrossing_14 (fun _ => rfl)
  · refine j_iload_n C 0 dX9_isCrossing_4 rfl rfl ?_
    refine j_iconst C (v := 1) dX9_isCrossing_5 (by decide) ?_
    refine j_icmp_ne C 13 dX9_isCrossing_6 (by decide) hf (fun hf => ?_) (fun hf => ?_)
    · refine j_iconst C (v := 1) dX9_isCrossing_9 (by decide) ?_
      refine j_goto C 14 dX9_isCrossing_10 (by decide) ?_
      cases hf
      exact ret _ _ dX9_isCrossing_14 (fun _ => rfl)
    · refine j_iconst C (v := 0) dX9_isCrossing_13 (by decide) ?_
      cases hf
      exact ret _ _ dX9_isCrossing_14 (fun _ => rfl)
/-- BarrierLightsModel.isPhase(II)Z -/
def f_X9_isPhase (p0 : Int32) (p1 : Int32) (K : Mem) : Option (Int32) := (f_X9_isCrossing p0 K).bind fun u1 => if u1 = 0 then (some 0) else (if p1 < 0 then (some 0) else (if 8 ≤ p1 then (some 0) else (some 1)))
abbrev rmX9_isPhase : Room := { frames := 1, cells := 0, slots := 0, locals := 20 }
theorem hdX9_isCrossing : yX9_isCrossing.cls = RX9 ∧ yX9_isCrossing.cls ≠ "java/lang/invoke/MethodHandle" ∧ yX9_isCrossing.cls ≠ "java/lang/invoke/VarHandle" ∧ (parseMethodDescriptor yX9_isCrossing.desc).map (fun d => d.parameters.length) = some 1 := by decide +kernel
set_option maxRecDepth 100000 in
set_option maxHeartbeats 4000000 in
theorem k_X9_isPhase {l : Launch} {D : va_G} {ad : Nat → Nat} {aI aZ aS aF : ClassId} {p0 : Int32} {p1 : Int32} {K : Mem} {u : Int32} (hf : f_X9_isPhase p0 p1 K = some u) : cI (EM l D ad aI aZ aS aF) yX9_isPhase wsX9_isPhase rmX9_isPhase [.int p0, .int p1] K u K := by
  rw [f_X9_isPhase] at hf
  refine j_entI (cc := cX9_isPhase) (maxL := 2) (EM_ok l D ad aI aZ aS aF) (Or.inr rfl) (by decide) rfl (Nat.le_of_ble_eq_true rfl) (fun G C ret => ?_)
  refine j_sub [0, 1] (lv2 := [(0, .int p0), (1, .int p1)]) rfl ?_
  refine j_iload_n C 0 dX9_isPhase_0 rfl rfl ?_
  obtain ⟨u1, h2, hf⟩ := bd hf
  refine j_cSI C [.int p0] gX9_isPhase_X9_isCrossing rfl hdX9_isCrossing.2 ⟨⟨rfl, rfl⟩, Nat.le_of_ble_eq_true rfl, Nat.le_of_ble_eq_true rfl⟩ rfl (k_X9_isCrossing h2) dX9_isPhase_1 rfl (Nat.le_of_ble_eq_true rfl) ?_
  refine j_if_eq C 21 dX9_isPhase_4 (by decide) hf (fun hf => ?_) (fun hf => ?_)
  · refine j_iconst C (v := 0) dX9_isPhase_21 (by decide) ?_
    cases hf
    exact ret _ _ dX9_isPhase_22 (fun _ => rfl)
  · refine j_iload_n C 1 dX9_isPhase_7 rfl rfl ?_
    refine j_if_lt C 21 dX9_isPhase_8 (by decide) hf (fun hf => ?_) (fun hf => ?_)
    · refine j_iconst C (v := 0) dX9_isPhase_21 (by decide) ?_
      cases hf
      exact ret _ _ dX9_isPhase_22 (fun _ => rfl)
    · refine j_iload_n C 1 dX9_isPhase_11 rfl rfl ?_
      refine j_bipush C (v := 8) dX9_isPhase_12 (by decide) ?_
      refine j_icmp_ge C 21 dX9_isPhase_14 (by decide) hf (fun hf => ?_) (fun hf => ?_)
      · refine j_iconst C (v := 0) dX9_isPhase_21 (by decide) ?_
        cases hf
        exact ret _ _ dX9_isPhase_22 (fun _ => rfl)
      · refine j_iconst C (v := 1) dX9_isPhase_17 (by decide) ?_
        refine j_goto C 22 dX9_isPhase_18 (by decide) ?_
        cases hf
        exact ret _ _ dX9_isPhase_22 (fun _ => rfl)
/-- BarrierLightsModel.sideOf(I)I -/
def f_X9_sideOf (p0 : Int32) (K : Mem) : Option (Int32) := if 2 ≤ (jrem p0 4) then (some 1) else (some 0)
abbrev rmX9_sideOf : Room := { frames := 0, cells := 0, slots := 0, locals := 0 }
set_option maxRecDepth 100000 in
set_option maxHeartbeats 4000000 in
theorem k_X9_sideOf {l : Launch} {D : va_G} {ad : Nat → Nat} {aI aZ aS aF : ClassId} {p0 : Int32} {K : Mem} {u : Int32} (hf : f_X9_sideOf p0 K = some u) : cI (EM l D ad aI aZ aS aF) yX9_sideOf wsX9_sideOf rmX9_sideOf [.int p0] K u K := by
  rw [f_X9_sideOf] at hf
  refine j_entI (cc := cX9_sideOf) (maxL := 1) (EM_ok l D ad aI aZ aS aF) (Or.inl rfl) (by decide) rfl (Nat.le_of_ble_eq_true rfl) (fun G C ret => ?_)
  refine j_sub [0] (lv2 := [(0, .int p0)]) rfl ?_
  refine j_iload_n C 0 dX9_sideOf_0 rfl rfl ?_
  refine j_iconst C (v := 4) dX9_sideOf_1 (by decide) ?_
  refine j_irem C dX9_sideOf_2 (by decide) ?_
  refine j_iconst C (v := 2) dX9_sideOf_3 (by decide) ?_
  refine j_icmp_ge C 11 dX9_sideOf_4 (by decide) hf (fun hf => ?_) (fun hf => ?_)
  · refine j_iconst C (v := 1) dX9_sideOf_11 (by decide) ?_
    cases hf
    exact ret _ _ dX9_sideOf_12 (fun h => by cases h)
  · refine j_iconst C (v := 0) dX9_sideOf_7 (by decide) ?_
    refine j_goto C 12 dX9_sideOf_8 (by decide) ?_
    cases hf
    exact ret _ _ dX9_sideOf_12 (fun h => by cases h)
/-- BarrierLightsModel.entry(III)I -/
def f_X9_entry (p1 : Int32) (p2 : Int32) (p3 : Int32) (K : Mem) : Option (Int32) := if inb (((64 * p1) + (8 * p2)) + p3) 128 = true then (some (K 2 (ix (((64 * p1) + (8 * p2)) + p3)))) else none
abbrev rmX9_entry : Room := { frames := 0, cells := 0, slots := 0, locals := 0 }
theorem iX9_entry_X9 : ∀ w ∈ u_ws RX9 TX9 37, w ∈ wsX9_entry := fun _ h => List.mem_cons_of_mem _ (List.mem_append_right _ h)
theorem mX9_entry_f13 : Cond.fieldLink RX9 13 "BarrierLightsModel" "table" "[S" ∈ wsX9_entry := by decide +kernel
set_option maxRecDepth 100000 in
set_option maxHeartbeats 4000000 in
theorem k_X9_entry {l : Launch} {D : va_G} {ad : Nat → Nat} {aI aZ aS aF : ClassId} {p1 : Int32} {p2 : Int32} {p3 : Int32} {K : Mem} {u : Int32} (hf : f_X9_entry p1 p2 p3 K = some u) : cI (EM l D ad aI aZ aS aF) yX9_entry wsX9_entry rmX9_entry [.ref (ad 0), .int p1, .int p2, .int p3] K u K := by
  rw [f_X9_entry] at hf
  refine j_entI (cc := cX9_entry) (maxL := 4) (EM_ok l D ad aI aZ aS aF) (Or.inl rfl) (by decide) rfl (Nat.le_of_ble_eq_true rfl) (fun G C ret => ?_)
  refine j_sub [0, 1, 2, 3] (lv2 := [(0, .ref (ad 0)), (1, .int p1), (2, .int p2), (3, .int p3)]) rfl ?_
  refine j_aload_n C 0 dX9_entry_0 rfl rfl ?_
  refine j_get C 3 iX9_entry_X9 h_0 rfl (by decide) mX9_entry_f13 rfl rfl dX9_entry_1 ?_
  refine j_bipush C (v := 64) dX9_entry_4 (by decide) ?_
  refine j_iload_n C 1 dX9_entry_6 rfl rfl ?_
  refine j_imul C dX9_entry_7 ?_
  refine j_bipush C (v := 8) dX9_entry_8 (by decide) ?_
  refine j_iload_n C 2 dX9_entry_10 rfl rfl ?_
  refine j_imul C dX9_entry_11 ?_
  refine j_iadd C dX9_entry_12 ?_
  refine j_iload_n C 3 dX9_entry_13 rfl rfl ?_
  refine j_iadd C dX9_entry_14 ?_
  refine j_sald C 2 h_2 rfl dX9_entry_15 hf (fun hf => ?_)
  cases hf
  exact ret _ _ dX9_entry_16 (fun h => by cases h)
/-- BarrierLightsModel.ringOf(II)I -/
def f_X9_ringOf (p0 : Int32) (p1 : Int32) (K : Mem) : Option (Int32) := if 4 ≤ p1 then (some ((2 * p0) + 1)) else (some ((2 * p0) + 0))
abbrev rmX9_ringOf : Room := { frames := 0, cells := 0, slots := 0, locals := 0 }
set_option maxRecDepth 100000 in
set_option maxHeartbeats 4000000 in
theorem k_X9_ringOf {l : Launch} {D : va_G} {ad : Nat → Nat} {aI aZ aS aF : ClassId} {p0 : Int32} {p1 : Int32} {K : Mem} {u : Int32} (hf : f_X9_ringOf p0 p1 K = some u) : cI (EM l D ad aI aZ aS aF) yX9_ringOf wsX9_ringOf rmX9_ringOf [.int p0, .int p1] K u K := by
  rw [f_X9_ringOf] at hf
  refine j_entI (cc := cX9_ringOf) (maxL := 2) (EM_ok l D ad aI aZ aS aF) (Or.inl rfl) (by decide) rfl (Nat.le_of_ble_eq_true rfl) (fun G C ret => ?_)
  refine j_sub [0, 1] (lv2 := [(0, .int p0), (1, .int p1)]) rfl ?_
  refine j_iconst C (v := 2) dX9_ringOf_0 (by decide) ?_
  refine j_iload_n C 0 dX9_ringOf_1 rfl rfl ?_
  refine j_imul C dX9_ringOf_2 ?_
  refine j_iload_n C 1 dX9_ringOf_3 rfl rfl ?_
  refine j_iconst C (v := 4) dX9_ringOf_4 (by decide) ?_
  refine j_icmp_ge C 12 dX9_ringOf_5 (by decide) hf (fun hf => ?_) (fun hf => ?_)
  · refine j_iconst C (v := 1) dX9_ringOf_12 (by decide) ?_
    refine j_iadd C dX9_ringOf_13 ?_
    cases hf
    exact ret _ _ dX9_ringOf_14 (fun h => by cases h)
  · refine j_iconst C (v := 0) dX9_ringOf_8 (by decide) ?_
    refine j_goto C 13 dX9_ringOf_9 (by decide) ?_
    refine j_iadd C dX9_ringOf_13 ?_
    cases hf
    exact ret _ _ dX9_ringOf_14 (fun h => by cases h)
/-- BarrierLightsModel.isGreen(II)Z -/
def f_X9_isGreen (p1 : Int32) (p2 : Int32) (K : Mem) : Option (Int32) := (f_X9_ringOf p1 p2 K).bind fun u1 => if inb u1 4 = true then (if (K 19 (ix u1)) = 1 then ((f_X9_ringOf p1 p2 K).bind fun u3 => if inb u3 4 = true then (if (K 20 (ix u3)) = p2 then (some 1) else (some 0)) else none) else (some 0)) else none
abbrev rmX9_isGreen : Room := { frames := 1, cells := 0, slots := 0, locals := 21 }
theorem iX9_isGreen_X9 : ∀ w ∈ u_ws RX9 TX9 37, w ∈ wsX9_isGreen := fun _ h => List.mem_cons_of_mem _ (List.mem_append_right _ h)
theorem mX9_isGreen_f67 : Cond.fieldLink RX9 67 "BarrierLightsModel" "state" "[I" ∈ wsX9_isGreen := by decide +kernel
theorem hdX9_ringOf : yX9_ringOf.cls = RX9 ∧ yX9_ringOf.cls ≠ "java/lang/invoke/MethodHandle" ∧ yX9_ringOf.cls ≠ "java/lang/invoke/VarHandle" ∧ (parseMethodDescriptor yX9_ringOf.desc).map (fun d => d.parameters.length) = some 2 := by decide +kernel
theorem mX9_isGreen_f70 : Cond.fieldLink RX9 70 "BarrierLightsModel" "phase" "[I" ∈ wsX9_isGreen := by decide +kernel
set_option maxRecDepth 100000 in
set_option maxHeartbeats 4000000 in
theorem k_X9_isGreen {l : Launch} {D : va_G} {ad : Nat → Nat} {aI aZ aS aF : ClassId} {p1 : Int32} {p2 : Int32} {K : Mem} {u : Int32} (hf : f_X9_isGreen p1 p2 K = some u) : cI (EM l D ad aI aZ aS aF) yX9_isGreen wsX9_isGreen rmX9_isGreen [.ref (ad 0), .int p1, .int p2] K u K := by
  rw [f_X9_isGreen] at hf
  refine j_entI (cc := cX9_isGreen) (maxL := 3) (EM_ok l D ad aI aZ aS aF) (Or.inr rfl) (by decide) rfl (Nat.le_of_ble_eq_true rfl) (fun G C ret => ?_)
  refine j_sub [0, 1, 2] (lv2 := [(0, .ref (ad 0)), (1, .int p1), (2, .int p2)]) rfl ?_
  refine j_aload_n C 0 dX9_isGreen_0 rfl rfl ?_
  refine j_get C 20 iX9_isGreen_X9 h_0 rfl (by decide) mX9_isGreen_f67 rfl rfl dX9_isGreen_1 ?_
  refine j_iload_n C 1 dX9_isGreen_4 rfl rfl ?_
  refine j_iload_n C 2 dX9_isGreen_5 rfl rfl ?_
  obtain ⟨u1, h2, hf⟩ := bd hf
  refine j_cSI C [.int p1, .int p2] gX9_isGreen_X9_ringOf rfl hdX9_ringOf.2 ⟨⟨rfl, rfl⟩, Nat.le_of_ble_eq_true rfl, Nat.le_of_ble_eq_true rfl⟩ rfl (k_X9_ringOf h2) dX9_isGreen_6 rfl (Nat.le_of_ble_eq_true rfl) ?_
  refine j_iald C 0 h_19 rfl dX9_isGreen_9 hf (fun hf => ?_)
  refine j_iconst C (v := 1) dX9_isGreen_10 (by decide) ?_
  refine j_icmp_ne C 32 dX9_isGreen_11 (by decide) hf (fun hf => ?_) (fun hf => ?_)
  · refine j_aload_n C 0 dX9_isGreen_14 rfl rfl ?_
    refine j_get C 21 iX9_isGreen_X9 h_0 rfl (by decide) mX9_isGreen_f70 rfl rfl dX9_isGreen_15 ?_
    refine j_iload_n C 1 dX9_isGreen_18 rfl rfl ?_
    refine j_iload_n C 2 dX9_isGreen_19 rfl rfl ?_
    obtain ⟨u3, h4, hf⟩ := bd hf
    refine j_cSI C [.int p1, .int p2] gX9_isGreen_X9_ringOf rfl hdX9_ringOf.2 ⟨⟨rfl, rfl⟩, Nat.le_of_ble_eq_true rfl, Nat.le_of_ble_eq_true rfl⟩ rfl (k_X9_ringOf h4) dX9_isGreen_20 rfl (Nat.le_of_ble_eq_true rfl) ?_
    refine j_iald C 0 h_20 rfl dX9_isGreen_23 hf (fun hf => ?_)
    refine j_iload_n C 2 dX9_isGreen_24 rfl rfl ?_
    refine j_icmp_ne C 32 dX9_isGreen_25 (by decide) hf (fun hf => ?_) (fun hf => ?_)
    · refine j_iconst C (v := 1) dX9_isGreen_28 (by decide) ?_
      refine j_goto C 33 dX9_isGreen_29 (by decide) ?_
      cases hf
      exact ret _ _ dX9_isGreen_33 (fun _ => rfl)
    · refine j_iconst C (v := 0) dX9_isGreen_32 (by decide) ?_
      cases hf
      exact ret _ _ dX9_isGreen_33 (fun _ => rfl)
  · refine j_iconst C (v := 0) dX9_isGreen_32 (by decide) ?_
    cases hf
    exact ret _ _ dX9_isGreen_33 (fun _ => rfl)
/-- BarrierLightsModel.failed(II)Z -/
def f_X9_failed (p1 : Int32) (p2 : Int32) (K : Mem) : Option (Int32) := if inb ((8 * p1) + p2) 16 = true then (if (K 12 (ix ((8 * p1) + p2))) < 60 then (some 0) else (some 1)) else none
abbrev rmX9_failed : Room := { frames := 0, cells := 0, slots := 0, locals := 0 }
theorem iX9_failed_X9 : ∀ w ∈ u_ws RX9 TX9 37, w ∈ wsX9_failed := fun _ h => List.mem_cons_of_mem _ (List.mem_append_right _ h)
theorem mX9_failed_f45 : Cond.fieldLink RX9 45 "BarrierLightsModel" "onTime" "[S" ∈ wsX9_failed := by decide +kernel
set_option maxRecDepth 100000 in
set_option maxHeartbeats 4000000 in
theorem k_X9_failed {l : Launch} {D : va_G} {ad : Nat → Nat} {aI aZ aS aF : ClassId} {p1 : Int32} {p2 : Int32} {K : Mem} {u : Int32} (hf : f_X9_failed p1 p2 K = some u) : cI (EM l D ad aI aZ aS aF) yX9_failed wsX9_failed rmX9_failed [.ref (ad 0), .int p1, .int p2] K u K := by
  rw [f_X9_failed] at hf
  refine j_entI (cc := cX9_failed) (maxL := 3) (EM_ok l D ad aI aZ aS aF) (Or.inr rfl) (by decide) rfl (Nat.le_of_ble_eq_true rfl) (fun G C ret => ?_)
  refine j_sub [0, 1, 2] (lv2 := [(0, .ref (ad 0)), (1, .int p1), (2, .int p2)]) rfl ?_
  refine j_aload_n C 0 dX9_failed_0 rfl rfl ?_
  refine j_get C 13 iX9_failed_X9 h_0 rfl (by decide) mX9_failed_f45 rfl rfl dX9_failed_1 ?_
  refine j_bipush C (v := 8) dX9_failed_4 (by decide) ?_
  refine j_iload_n C 1 dX9_failed_6 rfl rfl ?_
  refine j_imul C dX9_failed_7 ?_
  refine j_iload_n C 2 dX9_failed_8 rfl rfl ?_
  refine j_iadd C dX9_failed_9 ?_
  refine j_sald C 2 h_12 rfl dX9_failed_10 hf (fun hf => ?_)
  refine j_bipush C (v := 60) dX9_failed_11 (by decide) ?_
  refine j_icmp_lt C 20 dX9_failed_13 (by decide) hf (fun hf => ?_) (fun hf => ?_)
  · refine j_iconst C (v := 0) dX9_failed_20 (by decide) ?_
    cases hf
    exact ret _ _ dX9_failed_21 (fun _ => rfl)
  · refine j_iconst C (v := 1) dX9_failed_16 (by decide) ?_
    refine j_goto C 21 dX9_failed_17 (by decide) ?_
    cases hf
    exact ret _ _ dX9_failed_21 (fun _ => rfl)
/-- BarrierLightsModel.runs(I)Z -/
def f_X9_runs (p1 : Int32) (K : Mem) : Option (Int32) := if inb p1 2 = true then (if (K 4 (ix p1)) = 0 then (if inb p1 2 = true then (if (K 5 (ix p1)) = 0 then (some 1) else (some 0)) else none) else (some 0)) else none
abbrev rmX9_runs : Room := { frames := 0, cells := 0, slots := 0, locals := 0 }
theorem iX9_runs_X9 : ∀ w ∈ u_ws RX9 TX9 37, w ∈ wsX9_runs := fun _ h => List.mem_cons_of_mem _ (List.mem_append_right _ h)
theorem mX9_runs_f20 : Cond.fieldLink RX9 20 "BarrierLightsModel" "off" "[Z" ∈ wsX9_runs := by decide +kernel
theorem mX9_runs_f24 : Cond.fieldLink RX9 24 "BarrierLightsModel" "why" "[I" ∈ wsX9_runs := by decide +kernel
set_option maxRecDepth 100000 in
set_option maxHeartbeats 4000000 in
theorem k_X9_runs {l : Launch} {D : va_G} {ad : Nat → Nat} {aI aZ aS aF : ClassId} {p1 : Int32} {K : Mem} {u : Int32} (hf : f_X9_runs p1 K = some u) : cI (EM l D ad aI aZ aS aF) yX9_runs wsX9_runs rmX9_runs [.ref (ad 0), .int p1] K u K := by
  rw [f_X9_runs] at hf
  refine j_entI (cc := cX9_runs) (maxL := 2) (EM_ok l D ad aI aZ aS aF) (Or.inr rfl) (by decide) rfl (Nat.le_of_ble_eq_true rfl) (fun G C ret => ?_)
  refine j_sub [0, 1] (lv2 := [(0, .ref (ad 0)), (1, .int p1)]) rfl ?_
  refine j_aload_n C 0 dX9_runs_0 rfl rfl ?_
  refine j_get C 5 iX9_runs_X9 h_0 rfl (by decide) mX9_runs_f20 rfl rfl dX9_runs_1 ?_
  refine j_iload_n C 1 dX9_runs_4 rfl rfl ?_
  refine j_zald C 1 h_4 rfl dX9_runs_5 hf (fun hf => ?_)
  refine j_if_ne C 22 dX9_runs_6 (by decide) hf (fun hf => ?_) (fun hf => ?_)
  · refine j_aload_n C 0 dX9_runs_9 rfl rfl ?_
    refine j_get C 6 iX9_runs_X9 h_0 rfl (by decide) mX9_runs_f24 rfl rfl dX9_runs_10 ?_
    refine j_iload_n C 1 dX9_runs_13 rfl rfl ?_
    refine j_iald C 0 h_5 rfl dX9_runs_14 hf (fun hf => ?_)
    refine j_if_ne C 22 dX9_runs_15 (by decide) hf (fun hf => ?_) (fun hf => ?_)
    · refine j_iconst C (v := 1) dX9_runs_18 (by decide) ?_
      refine j_goto C 23 dX9_runs_19 (by decide) ?_
      cases hf
      exact ret _ _ dX9_runs_23 (fun _ => rfl)
    · refine j_iconst C (v := 0) dX9_runs_22 (by decide) ?_
      cases hf
      exact ret _ _ dX9_runs_23 (fun _ => rfl)
  · refine j_iconst C (v := 0) dX9_runs_22 (by decide) ?_
    cases hf
    exact ret _ _ dX9_runs_23 (fun _ => rfl)
/-- BarrierLightsModel.put(IIII)Z -/
def f_X9_put (p1 : Int32) (p2 : Int32) (p3 : Int32) (p4 : Int32) (K : Mem) : Option (Int32 × Mem) := st K 0 0 0 fun K1 => (f_X9_isPhase p1 p2 K1).bind fun u2 => if u2 = 0 then (some (0, K1)) else (if p3 < 0 then (some (0, K1)) else (if 7 < p3 then (some (0, K1)) else (if p4 < 0 then (some (0, K1)) else (if p4 ≤ 99 then (if inb (((64 * p1) + (8 * p2)) + p3) 128 = true then (st K1 1 (ix (((64 * p1) + (8 * p2)) + p3)) (vp_nar .short (js16 p4)) fun K4 => some (1, K4)) else none) else (some (0, K1))))))
abbrev rmX9_put : Room := { frames := 2, cells := 0, slots := 0, locals := 41 }
theorem iX9_put_X9 : ∀ w ∈ u_ws RX9 TX9 37, w ∈ wsX9_put := fun _ h => List.mem_cons_of_mem _ (List.mem_append_right _ h)
theorem mX9_put_f118 : Cond.fieldLink RX9 118 "BarrierLightsModel" "code" "I" ∈ wsX9_put := by decide +kernel
theorem hdX9_isPhase : yX9_isPhase.cls = RX9 ∧ yX9_isPhase.cls ≠ "java/lang/invoke/MethodHandle" ∧ yX9_isPhase.cls ≠ "java/lang/invoke/VarHandle" ∧ (parseMethodDescriptor yX9_isPhase.desc).map (fun d => d.parameters.length) = some 2 := by decide +kernel
theorem mX9_put_f7 : Cond.fieldLink RX9 7 "BarrierLightsModel" "draft" "[S" ∈ wsX9_put := by decide +kernel
set_option maxRecDepth 100000 in
set_option maxHeartbeats 4000000 in
theorem k_X9_put {l : Launch} {D : va_G} {ad : Nat → Nat} {aI aZ aS aF : ClassId} {p1 : Int32} {p2 : Int32} {p3 : Int32} {p4 : Int32} {K : Mem} {u : Int32 × Mem} (hf : f_X9_put p1 p2 p3 p4 K = some u) : cI (EM l D ad aI aZ aS aF) yX9_put wsX9_put rmX9_put [.ref (ad 0), .int p1, .int p2, .int p3, .int p4] K u.1 u.2 := by
  rw [f_X9_put] at hf
  refine j_entI (cc := cX9_put) (maxL := 5) (EM_ok l D ad aI aZ aS aF) (Or.inr rfl) (by decide) rfl (Nat.le_of_ble_eq_true rfl) (fun G C ret => ?_)
  refine j_sub [0, 1, 2, 3, 4] (lv2 := [(0, .ref (ad 0)), (1, .int p1), (2, .int p2), (3, .int p3), (4, .int p4)]) rfl ?_
  refine j_aload_n C 0 dX9_put_0 rfl rfl ?_
  refine j_iconst C (v := 0) dX9_put_1 (by decide) ?_
  refine j_put C (ty := .int) 0 iX9_put_X9 tyX9 tyX9_ok nmX9 h_0 (t_0_0 _) rfl (by decide) mX9_put_f118 rfl rfl (by decide +kernel) rfl rfl (Nat.le_of_ble_eq_true rfl) dX9_put_2 hf (fun K1 hf => ?_)
  refine j_iload_n C 1 dX9_put_5 rfl rfl ?_
  refine j_iload_n C 2 dX9_put_6 rfl rfl ?_
  obtain ⟨u2, h3, hf⟩ := bd hf
  refine j_cSI C [.int p1, .int p2] gX9_put_X9_isPhase rfl hdX9_isPhase.2 ⟨⟨rfl, rfl⟩, Nat.le_of_ble_eq_true rfl, Nat.le_of_ble_eq_true rfl⟩ rfl (k_X9_isPhase h3) dX9_put_7 rfl (Nat.le_of_ble_eq_true rfl) ?_
  refine j_if_eq C 35 dX9_put_10 (by decide) hf (fun hf => ?_) (fun hf => ?_)
  · refine j_iconst C (v := 0) dX9_put_35 (by decide) ?_
    cases hf
    exact ret _ _ dX9_put_36 (fun _ => rfl)
  · refine j_iload_n C 3 dX9_put_13 rfl rfl ?_
    refine j_if_lt C 35 dX9_put_14 (by decide) hf (fun hf => ?_) (fun hf => ?_)
    · refine j_iconst C (v := 0) dX9_put_35 (by decide) ?_
      cases hf
      exact ret _ _ dX9_put_36 (fun _ => rfl)
    · refine j_iload_n C 3 dX9_put_17 rfl rfl ?_
      refine j_bipush C (v := 7) dX9_put_18 (by decide) ?_
      refine j_icmp_gt C 35 dX9_put_20 (by decide) hf (fun hf => ?_) (fun hf => ?_)
      · refine j_iconst C (v := 0) dX9_put_35 (by decide) ?_
        cases hf
        exact ret _ _ dX9_put_36 (fun _ => rfl)
      · refine j_iload C 4 dX9_put_23 rfl ?_
        refine j_if_lt C 35 dX9_put_25 (by decide) hf (fun hf => ?_) (fun hf => ?_)
        · refine j_iconst C (v := 0) dX9_put_35 (by decide) ?_
          cases hf
          exact ret _ _ dX9_put_36 (fun _ => rfl)
        · refine j_iload C 4 dX9_put_28 rfl ?_
          refine j_bipush C (v := 99) dX9_put_30 (by decide) ?_
          refine j_icmp_le C 37 dX9_put_32 (by decide) hf (fun hf => ?_) (fun hf => ?_)
          · refine j_aload_n C 0 dX9_put_37 rfl rfl ?_
            refine j_get C 2 iX9_put_X9 h_0 rfl (by decide) mX9_put_f7 rfl rfl dX9_put_38 ?_
            refine j_bipush C (v := 64) dX9_put_41 (by decide) ?_
            refine j_iload_n C 1 dX9_put_43 rfl rfl ?_
            refine j_imul C dX9_put_44 ?_
            refine j_bipush C (v := 8) dX9_put_45 (by decide) ?_
            refine j_iload_n C 2 dX9_put_47 rfl rfl ?_
            refine j_imul C dX9_put_48 ?_
            refine j_iadd C dX9_put_49 ?_
            refine j_iload_n C 3 dX9_put_50 rfl rfl ?_
            refine j_iadd C dX9_put_51 ?_
            refine j_iload C 4 dX9_put_52 rfl ?_
            refine j_i2s C dX9_put_54 ?_
            refine j_sast C 2 h_1 (t_1 _ _) rfl dX9_put_55 hf (fun K4 hf => ?_)
            refine j_iconst C (v := 1) dX9_put_56 (by decide) ?_
            cases hf
            exact ret _ _ dX9_put_57 (fun _ => rfl)
          · refine j_iconst C (v := 0) dX9_put_35 (by decide) ?_
            cases hf
            exact ret _ _ dX9_put_36 (fun _ => rfl)
/-- BarrierLightsModel.isWrong(II)Z -/
def f_X9_isWrong (p1 : Int32) (p2 : Int32) (K : Mem) : Option (Int32) := if inb (p1 + p2) 128 = true then (lt (K 1 (ix (p1 + p2))) fun x1 => if inb (p1 + 5) 128 = true then (lt (K 1 (ix (p1 + 5))) fun x2 => if p2 = 0 then (if x1 ≤ 30 then (some 0) else (some 1)) else (if p2 = 1 then (if x1 ≤ 10 then (some 0) else (some 1)) else (if p2 = 2 then (if inb p1 128 = true then (if x1 < (K 1 (ix p1)) then (some 1) else (if x1 ≤ 60 then (some 0) else (some 1))) else none) else (if p2 = 3 then (if x1 < 3 then (some 1) else (if x1 ≤ 6 then (some 0) else (some 1))) else (if p2 = 4 then (if x1 ≤ 4 then (some 0) else (some 1)) else (if p2 = 5 then (if x1 ≤ 20 then (some 0) else (some 1)) else (if p2 = 6 then (if x2 = 0 then (if x1 = 0 then (some 0) else (some 1)) else (if x1 = 0 then (some 1) else (if x1 ≤ 20 then (some 0) else (some 1)))) else (if 3 < x1 then (some 1) else (if x1 = 3 then (if x2 = 0 then (some 1) else (some 0)) else (some 0)))))))))) else none) else none
abbrev rmX9_isWrong : Room := { frames := 0, cells := 0, slots := 0, locals := 0 }
theorem iX9_isWrong_X9 : ∀ w ∈ u_ws RX9 TX9 37, w ∈ wsX9_isWrong := fun _ h => List.mem_cons_of_mem _ (List.mem_append_right _ h)
theorem mX9_isWrong_f7 : Cond.fieldLink RX9 7 "BarrierLightsModel" "draft" "[S" ∈ wsX9_isWrong := by decide +kernel
set_option maxRecDepth 100000 in
set_option maxHeartbeats 4000000 in
theorem k_X9_isWrong {l : Launch} {D : va_G} {ad : Nat → Nat} {aI aZ aS aF : ClassId} {p1 : Int32} {p2 : Int32} {K : Mem} {u : Int32} (hf : f_X9_isWrong p1 p2 K = some u) : cI (EM l D ad aI aZ aS aF) yX9_isWrong wsX9_isWrong rmX9_isWrong [.ref (ad 0), .int p1, .int p2] K u K := by
  rw [f_X9_isWrong] at hf
  refine j_entI (cc := cX9_isWrong) (maxL := 5) (EM_ok l D ad aI aZ aS aF) (Or.inr rfl) (by decide) rfl (Nat.le_of_ble_eq_true rfl) (fun G C ret => ?_)
  refine j_sub [0, 1, 2] (lv2 := [(0, .ref (ad 0)), (1, .int p1), (2, .int p2)]) rfl ?_
  refine j_aload_n C 0 dX9_isWrong_0 rfl rfl ?_
  refine j_get C 2 iX9_isWrong_X9 h_0 rfl (by decide) mX9_isWrong_f7 rfl rfl dX9_isWrong_1 ?_
  refine j_iload_n C 1 dX9_isWrong_4 rfl rfl ?_
  refine j_iload_n C 2 dX9_isWrong_5 rfl rfl ?_
  refine j_iadd C dX9_isWrong_6 ?_
  refine j_sald C 2 h_1 rfl dX9_isWrong_7 hf (fun hf => ?_)
  refine j_istore_n C (fun y => [(3, .int y), (0, .ref (ad 0)), (1, .int p1), (2, .int p2)]) dX9_isWrong_8 rfl (by decide) (fun _ => rfl) hf (fun x1 hf => ?_)
  refine j_aload_n C 1 dX9_isWrong_9 rfl rfl ?_
  refine j_get C 2 iX9_isWrong_X9 h_0 rfl (by decide) mX9_isWrong_f7 rfl rfl dX9_isWrong_10 ?_
  refine j_iload_n C 2 dX9_isWrong_13 rfl rfl ?_
  refine j_iconst C (v := 5) dX9_isWrong_14 (by decide) ?_
  refine j_iadd C dX9_isWrong_15 ?_
  refine j_sald C 2 h_1 rfl dX9_isWrong_16 hf (fun hf => ?_)
  refine j_istore C (fun y => [(4, .int y), (3, .int x1), (0, .ref (ad 0)), (1, .int p1), (2, .int p2)]) dX9_isWrong_17 (by decide) (fun _ => rfl) hf (fun x2 hf => ?_)
  refine j_iload_n C 4 dX9_isWrong_19 rfl rfl ?_
  refine j_case hf (fun c3 hf => ?_) (fun c3 hf => ?_)
  · refine j_tabIn C 64 dX9_isWrong_20 (by rw [c3]; decide) (by rw [c3]; decide) (by rw [c3]; rfl) (by decide) ?_
    refine j_iload_n C 1 dX9_isWrong_64 rfl rfl ?_
    refine j_bipush C (v := 30) dX9_isWrong_65 (by decide) ?_
    refine j_icmp_le C 74 dX9_isWrong_67 (by decide) hf (fun hf => ?_) (fun hf => ?_)
    · refine j_iconst C (v := 0) dX9_isWrong_74 (by decide) ?_
      cases hf
      exact ret _ _ dX9_isWrong_75 (fun _ => rfl)
    · refine j_iconst C (v := 1) dX9_isWrong_70 (by decide) ?_
      refine j_goto C 75 dX9_isWrong_71 (by decide) ?_
      cases hf
      exact ret _ _ dX9_isWrong_75 (fun _ => rfl)
  refine j_case hf (fun c4 hf => ?_) (fun c4 hf => ?_)
  · refine j_tabIn C 76 dX9_isWrong_20 (by rw [c4]; decide) (by rw [c4]; decide) (by rw [c4]; rfl) (by decide) ?_
    refine j_iload_n C 1 dX9_isWrong_76 rfl rfl ?_
    refine j_bipush C (v := 10) dX9_isWrong_77 (by decide) ?_
    refine j_icmp_le C 86 dX9_isWrong_79 (by decide) hf (fun hf => ?_) (fun hf => ?_)
    · refine j_iconst C (v := 0) dX9_isWrong_86 (by decide) ?_
      cases hf
      exact ret _ _ dX9_isWrong_87 (fun _ => rfl)
    · refine j_iconst C (v := 1) dX9_isWrong_82 (by decide) ?_
      refine j_goto C 87 dX9_isWrong_83 (by decide) ?_
      cases hf
      exact ret _ _ dX9_isWrong_87 (fun _ => rfl)
  refine j_case hf (fun c5 hf => ?_) (fun c5 hf => ?_)
  · refine j_tabIn C 88 dX9_isWrong_20 (by rw [c5]; decide) (by rw [c5]; decide) (by rw [c5]; rfl) (by decide) ?_
    refine j_iload_n C 1 dX9_isWrong_88 rfl rfl ?_
    refine j_aload_n C 2 dX9_isWrong_89 rfl rfl ?_
    refine j_get C 2 iX9_isWrong_X9 h_0 rfl (by decide) mX9_isWrong_f7 rfl rfl dX9_isWrong_90 ?_
    refine j_iload_n C 3 dX9_isWrong_93 rfl rfl ?_
    refine j_sald C 2 h_1 rfl dX9_isWrong_94 hf (fun hf => ?_)
    refine j_icmp_lt C 104 dX9_isWrong_95 (by decide) hf (fun hf => ?_) (fun hf => ?_)
    · refine j_iconst C (v := 1) dX9_isWrong_104 (by decide) ?_
      refine j_goto C 109 dX9_isWrong_105 (by decide) ?_
      cases hf
      exact ret _ _ dX9_isWrong_109 (fun _ => rfl)
    · refine j_iload_n C 1 dX9_isWrong_98 rfl rfl ?_
      refine j_bipush C (v := 60) dX9_isWrong_99 (by decide) ?_
      refine j_icmp_le C 108 dX9_isWrong_101 (by decide) hf (fun hf => ?_) (fun hf => ?_)
      · refine j_iconst C (v := 0) dX9_isWrong_108 (by decide) ?_
        cases hf
        exact ret _ _ dX9_isWrong_109 (fun _ => rfl)
      · refine j_iconst C (v := 1) dX9_isWrong_104 (by decide) ?_
        refine j_goto C 109 dX9_isWrong_105 (by decide) ?_
        cases hf
        exact ret _ _ dX9_isWrong_109 (fun _ => rfl)
  refine j_case hf (fun c6 hf => ?_) (fun c6 hf => ?_)
  · refine j_tabIn C 110 dX9_isWrong_20 (by rw [c6]; decide) (by rw [c6]; decide) (by rw [c6]; rfl) (by decide) ?_
    refine j_iload_n C 1 dX9_isWrong_110 rfl rfl ?_
    refine j_iconst C (v := 3) dX9_isWrong_111 (by decide) ?_
    refine j_icmp_lt C 121 dX9_isWrong_112 (by decide) hf (fun hf => ?_) (fun hf => ?_)
    · refine j_iconst C (v := 1) dX9_isWrong_121 (by decide) ?_
      refine j_goto C 126 dX9_isWrong_122 (by decide) ?_
      cases hf
      exact ret _ _ dX9_isWrong_126 (fun _ => rfl)
    · refine j_iload_n C 1 dX9_isWrong_115 rfl rfl ?_
      refine j_bipush C (v := 6) dX9_isWrong_116 (by decide) ?_
      refine j_icmp_le C 125 dX9_isWrong_118 (by decide) hf (fun hf => ?_) (fun hf => ?_)
      · refine j_iconst C (v := 0) dX9_isWrong_125 (by decide) ?_
        cases hf
        exact ret _ _ dX9_isWrong_126 (fun _ => rfl)
      · refine j_iconst C (v := 1) dX9_isWrong_121 (by decide) ?_
        refine j_goto C 126 dX9_isWrong_122 (by decide) ?_
        cases hf
        exact ret _ _ dX9_isWrong_126 (fun _ => rfl)
  refine j_case hf (fun c7 hf => ?_) (fun c7 hf => ?_)
  · refine j_tabIn C 127 dX9_isWrong_20 (by rw [c7]; decide) (by rw [c7]; decide) (by rw [c7]; rfl) (by decide) ?_
    refine j_iload_n C 1 dX9_isWrong_127 rfl rfl ?_
    refine j_iconst C (v := 4) dX9_isWrong_128 (by decide) ?_
    refine j_icmp_le C 136 dX9_isWrong_129 (by decide) hf (fun hf => ?_) (fun hf => ?_)
    · refine j_iconst C (v := 0) dX9_isWrong_136 (by decide) ?_
      cases hf
      exact ret _ _ dX9_isWrong_137 (fun _ => rfl)
    · refine j_iconst C (v := 1) dX9_isWrong_132 (by decide) ?_
      refine j_goto C 137 dX9_isWrong_133 (by decide) ?_
      cases hf
      exact ret _ _ dX9_isWrong_137 (fun _ => rfl)
  refine j_case hf (fun c8 hf => ?_) (fun c8 hf => ?_)
  · refine j_tabIn C 138 dX9_isWrong_20 (by rw [c8]; decide) (by rw [c8]; decide) (by rw [c8]; rfl) (by decide) ?_
    refine j_iload_n C 1 dX9_isWrong_138 rfl rfl ?_
    refine j_bipush C (v := 20) dX9_isWrong_139 (by decide) ?_
    refine j_icmp_le C 148 dX9_isWrong_141 (by decide) hf (fun hf => ?_) (fun hf => ?_)
    · refine j_iconst C (v := 0) dX9_isWrong_148 (by decide) ?_
      cases hf
      exact ret _ _ dX9_isWrong_149 (fun _ => rfl)
    · refine j_iconst C (v := 1) dX9_isWrong_144 (by decide) ?_
      refine j_goto C 149 dX9_isWrong_145 (by decide) ?_
      cases hf
      exact ret _ _ dX9_isWrong_149 (fun _ => rfl)
  refine j_case hf (fun c9 hf => ?_) (fun c9 hf => ?_)
  · refine j_tabIn C 150 dX9_isWrong_20 (by rw [c9]; decide) (by rw [c9]; decide) (by rw [c9]; rfl) (by decide) ?_
    refine j_iload C 0 dX9_isWrong_150 rfl ?_
    refine j_if_ne C 167 dX9_isWrong_152 (by decide) hf (fun hf => ?_) (fun hf => ?_)
    · refine j_iload_n C 1 dX9_isWrong_155 rfl rfl ?_
      refine j_if_eq C 163 dX9_isWrong_156 (by decide) hf (fun hf => ?_) (fun hf => ?_)
      · refine j_iconst C (v := 0) dX9_isWrong_163 (by decide) ?_
        refine j_goto C 182 dX9_isWrong_164 (by decide) ?_
        cases hf
        exact ret _ _ dX9_isWrong_182 (fun _ => rfl)
      · refine j_iconst C (v := 1) dX9_isWrong_159 (by decide) ?_
        refine j_goto C 182 dX9_isWrong_160 (by decide) ?_
        cases hf
        exact ret _ _ dX9_isWrong_182 (fun _ => rfl)
    · refine j_iload_n C 1 dX9_isWrong_167 rfl rfl ?_
      refine j_if_eq C 177 dX9_isWrong_168 (by decide) hf (fun hf => ?_) (fun hf => ?_)
      · refine j_iconst C (v := 1) dX9_isWrong_177 (by decide) ?_
        refine j_goto C 182 dX9_isWrong_178 (by decide) ?_
        cases hf
        exact ret _ _ dX9_isWrong_182 (fun _ => rfl)
      · refine j_iload_n C 1 dX9_isWrong_171 rfl rfl ?_
        refine j_bipush C (v := 20) dX9_isWrong_172 (by decide) ?_
        refine j_icmp_le C 181 dX9_isWrong_174 (by decide) hf (fun hf => ?_) (fun hf => ?_)
        · refine j_iconst C (v := 0) dX9_isWrong_181 (by decide) ?_
          cases hf
          exact ret _ _ dX9_isWrong_182 (fun _ => rfl)
        · refine j_iconst C (v := 1) dX9_isWrong_177 (by decide) ?_
          refine j_goto C 182 dX9_isWrong_178 (by decide) ?_
          cases hf
          exact ret _ _ dX9_isWrong_182 (fun _ => rfl)
  refine j_tabOut C 183 dX9_isWrong_20 (by have ec3 := lv_neT c3 (a := 0) (by decide); have ec4 := lv_neT c4 (a := 1) (by decide); have ec5 := lv_neT c5 (a := 2) (by decide); have ec6 := lv_neT c6 (a := 3) (by decide); have ec7 := lv_neT c7 (a := 4) (by decide); have ec8 := lv_neT c8 (a := 5) (by decide); have ec9 := lv_neT c9 (a := 6) (by decide); omega) (by decide) ?_
  refine j_iload_n C 1 dX9_isWrong_183 rfl rfl ?_
  refine j_iconst C (v := 3) dX9_isWrong_184 (by decide) ?_
  refine j_icmp_gt C 198 dX9_isWrong_185 (by decide) hf (fun hf => ?_) (fun hf => ?_)
  · refine j_iconst C (v := 1) dX9_isWrong_198 (by decide) ?_
    refine j_goto C 203 dX9_isWrong_199 (by decide) ?_
    cases hf
    exact ret _ _ dX9_isWrong_203 (fun _ => rfl)
  · refine j_iload_n C 1 dX9_isWrong_188 rfl rfl ?_
    refine j_iconst C (v := 3) dX9_isWrong_189 (by decide) ?_
    refine j_icmp_ne C 202 dX9_isWrong_190 (by decide) hf (fun hf => ?_) (fun hf => ?_)
    · refine j_iload C 0 dX9_isWrong_193 rfl ?_
      refine j_if_ne C 202 dX9_isWrong_195 (by decide) hf (fun hf => ?_) (fun hf => ?_)
      · refine j_iconst C (v := 1) dX9_isWrong_198 (by decide) ?_
        refine j_goto C 203 dX9_isWrong_199 (by decide) ?_
        cases hf
        exact ret _ _ dX9_isWrong_203 (fun _ => rfl)
      · refine j_iconst C (v := 0) dX9_isWrong_202 (by decide) ?_
        cases hf
        exact ret _ _ dX9_isWrong_203 (fun _ => rfl)
    · refine j_iconst C (v := 0) dX9_isWrong_202 (by decide) ?_
      cases hf
      exact ret _ _ dX9_isWrong_203 (fun _ => rfl)
/-- BarrierLightsModel.wrongPlace(I)I -/
def f_X9_wrongPlace_L42 (cont : Int32 → Option (Int32)) (c1 : Int32) (c2 : Int32) (c3 : Int32) (c4 : Int32) (c5 : Int32) : Nat → Int32 → Mem → Option (Int32)
  | 0, _, _ => none
  | n + 1, y6, K => if 8 ≤ y6 then (cont y6) else ((f_X9_isWrong c5 y6 K).bind fun u7 => if u7 = 0 then (lt (y6 + 1) fun x9 => f_X9_wrongPlace_L42 cont c1 c2 c3 c4 c5 n x9 K) else (some ((8 * c4) + y6)))
def f_X9_wrongPlace_L7 (cont : Int32 × Int32 × Int32 → Option (Int32)) (c1 : Int32) : Nat → Int32 → Int32 → Int32 → Mem → Option (Int32)
  | 0, _, _, _, _ => none
  | n + 1, y2, y3, y4, K => if 8 ≤ y4 then (cont (y2, y3, y4)) else (lt ((64 * c1) + (8 * y4)) fun x4 => if inb x4 128 = true then (if (K 1 (ix x4)) = 0 then (lt (y4 + 1) fun x5 => f_X9_wrongPlace_L7 cont c1 n y2 y3 x5 K) else (lt 0 fun x6 => f_X9_wrongPlace_L42 (fun v10 => (f_X9_sideOf y4 K).bind fun u11 => (if u11 = 0 then (lt 1 fun x16 => some (x16, y3)) else (lt 1 fun x17 => some (y2, x17)) : Option (Int32 × Int32)).bind fun v13 => lt (y4 + 1) fun x18 => f_X9_wrongPlace_L7 cont c1 n v13.1 v13.2 x18 K) c1 y2 y3 y4 x4 70 x6 K)) else none)
def f_X9_wrongPlace (p1 : Int32) (K : Mem) : Option (Int32) := lt 0 fun x1 => lt 0 fun x2 => lt 0 fun x3 => f_X9_wrongPlace_L7 (fun v19 => if v19.1 = 0 then (some 64) else (if v19.2.1 = 0 then (some 65) else (some (-1)))) p1 70 x1 x2 x3 K
abbrev rmX9_wrongPlace : Room := { frames := 1, cells := 0, slots := 0, locals := 24 }
theorem iX9_wrongPlace_X9 : ∀ w ∈ u_ws RX9 TX9 37, w ∈ wsX9_wrongPlace := fun _ h => List.mem_cons_of_mem _ (List.mem_append_right _ h)
theorem mX9_wrongPlace_f7 : Cond.fieldLink RX9 7 "BarrierLightsModel" "draft" "[S" ∈ wsX9_wrongPlace := by decide +kernel
theorem hdX9_isWrong : yX9_isWrong.cls = RX9 ∧ yX9_isWrong.cls ≠ "java/lang/invoke/MethodHandle" ∧ yX9_isWrong.cls ≠ "java/lang/invoke/VarHandle" ∧ (parseMethodDescriptor yX9_isWrong.desc).map (fun d => d.parameters.length) = some 2 := by decide +kernel
theorem hdX9_sideOf : yX9_sideOf.cls = RX9 ∧ yX9_sideOf.cls ≠ "java/lang/invoke/MethodHandle" ∧ yX9_sideOf.cls ≠ "java/lang/invoke/VarHandle" ∧ (parseMethodDescriptor yX9_sideOf.desc).map (fun d => d.parameters.length) = some 1 := by decide +kernel
set_option maxRecDepth 100000 in
set_option maxHeartbeats 4000000 in
theorem lp_X9_wrongPlace_L42 {l : Launch} {D : va_G} {ad : Nat → Nat} {aI aZ aS aF : ClassId} {G : jG} {c1 : Int32} {c2 : Int32} {c3 : Int32} {c4 : Int32} {c5 : Int32} {K0 : Mem} {u : Int32} (C : jC (EM l D ad aI aZ aS aF) G cX9_wrongPlace yX9_wrongPlace.cls wsX9_wrongPlace rmX9_wrongPlace 7) (ret : ∀ (pc : Nat) (lv : List (Nat × Value)), decode cX9_wrongPlace pc = .ok (.ireturn, 1) → (.int = FieldType.boolean → bb u = true) → jW (EM l D ad aI aZ aS aF) G K0 pc lv [.int u]) {cont : Int32 → Option (Int32)} (hcont : ∀ v , cont v = some u → jW (EM l D ad aI aZ aS aF) G K0 75 [(0, .ref (ad 0)), (1, .int c1), (2, .int c2), (3, .int c3), (4, .int c4), (5, .int c5), (6, .int v)] []) : ∀ (n : Nat) (y6 : Int32) (K : Mem), K = K0 → f_X9_wrongPlace_L42 cont c1 c2 c3 c4 c5 n y6 K = some u → jW (EM l D ad aI aZ aS aF) G K 42 [(0, .ref (ad 0)), (1, .int c1), (2, .int c2), (3, .int c3), (4, .int c4), (5, .int c5), (6, .int y6)] [] := by
  intro n
  induction n with
  | zero =>
    intro y6 K hK hf
    rw [f_X9_wrongPlace_L42] at hf
    cases hf
  | succ n ih =>
    intro y6 K hK hf
    subst hK
    rw [f_X9_wrongPlace_L42] at hf
    refine j_iload C 6 dX9_wrongPlace_42 rfl ?_
    refine j_bipush C (v := 8) dX9_wrongPlace_44 (by decide) ?_
    refine j_icmp_ge C 75 dX9_wrongPlace_46 (by decide) hf (fun hf => ?_) (fun hf => ?_)
    · exact hcont _ hf
    · refine j_aload_n C 0 dX9_wrongPlace_49 rfl rfl ?_
      refine j_iload C 5 dX9_wrongPlace_50 rfl ?_
      refine j_iload C 6 dX9_wrongPlace_52 rfl ?_
      obtain ⟨u7, h8, hf⟩ := bd hf
      refine j_cVI C [.int c5, .int y6] gX9_wrongPlace_X9_isWrong rfl hdX9_isWrong ⟨⟨rfl, rfl⟩, Nat.le_of_ble_eq_true rfl, Nat.le_of_ble_eq_true rfl⟩ rfl h_0 rfl (k_X9_isWrong h8) dX9_wrongPlace_54 rfl (Nat.le_of_ble_eq_true rfl) ?_
      refine j_if_eq C 69 dX9_wrongPlace_57 (by decide) hf (fun hf => ?_) (fun hf => ?_)
      · refine j_iinc C (v := (y6 + 1)) 6 (fun y => [(6, .int y), (0, .ref (ad 0)), (1, .int c1), (2, .int c2), (3, .int c3), (4, .int c4), (5, .int c5)]) dX9_wrongPlace_69 rfl rfl (by decide) (fun _ => rfl) hf (fun x9 hf => ?_)
        refine j_goto C 42 dX9_wrongPlace_72 (by decide) ?_
        refine j_sub [1, 2, 3, 4, 5, 6, 0] rfl ?_
        exact ih _ _ rfl hf
      · refine j_bipush C (v := 8) dX9_wrongPlace_60 (by decide) ?_
        refine j_iload C 4 dX9_wrongPlace_62 rfl ?_
        refine j_imul C dX9_wrongPlace_64 ?_
        refine j_iload C 6 dX9_wrongPlace_65 rfl ?_
        refine j_iadd C dX9_wrongPlace_67 ?_
        cases hf
        exact ret _ _ dX9_wrongPlace_68 (fun h => by cases h)
set_option maxRecDepth 100000 in
set_option maxHeartbeats 4000000 in
theorem lp_X9_wrongPlace_L7 {l : Launch} {D : va_G} {ad : Nat → Nat} {aI aZ aS aF : ClassId} {G : jG} {c1 : Int32} {K0 : Mem} {u : Int32} (C : jC (EM l D ad aI aZ aS aF) G cX9_wrongPlace yX9_wrongPlace.cls wsX9_wrongPlace rmX9_wrongPlace 7) (ret : ∀ (pc : Nat) (lv : List (Nat × Value)), decode cX9_wrongPlace pc = .ok (.ireturn, 1) → (.int = FieldType.boolean → bb u = true) → jW (EM l D ad aI aZ aS aF) G K0 pc lv [.int u]) {cont : Int32 × Int32 × Int32 → Option (Int32)} (hcont : ∀ v , cont v = some u → jW (EM l D ad aI aZ aS aF) G K0 96 [(0, .ref (ad 0)), (1, .int c1), (2, .int v.1), (3, .int v.2.1), (4, .int v.2.2)] []) : ∀ (n : Nat) (y2 y3 y4 : Int32) (K : Mem), K = K0 → f_X9_wrongPlace_L7 cont c1 n y2 y3 y4 K = some u → jW (EM l D ad aI aZ aS aF) G K 7 [(0, .ref (ad 0)), (1, .int c1), (2, .int y2), (3, .int y3), (4, .int y4)] [] := by
  intro n
  induction n with
  | zero =>
    intro y2 y3 y4 K hK hf
    rw [f_X9_wrongPlace_L7] at hf
    cases hf
  | succ n ih =>
    intro y2 y3 y4 K hK hf
    subst hK
    rw [f_X9_wrongPlace_L7] at hf
    refine j_iload C 4 dX9_wrongPlace_7 rfl ?_
    refine j_bipush C (v := 8) dX9_wrongPlace_9 (by decide) ?_
    refine j_icmp_ge C 96 dX9_wrongPlace_11 (by decide) hf (fun hf => ?_) (fun hf => ?_)
    · exact hcont _ hf
    · refine j_bipush C (v := 64) dX9_wrongPlace_14 (by decide) ?_
      refine j_iload_n C 1 dX9_wrongPlace_16 rfl rfl ?_
      refine j_imul C dX9_wrongPlace_17 ?_
      refine j_bipush C (v := 8) dX9_wrongPlace_18 (by decide) ?_
      refine j_iload C 4 dX9_wrongPlace_20 rfl ?_
      refine j_imul C dX9_wrongPlace_22 ?_
      refine j_iadd C dX9_wrongPlace_23 ?_
      refine j_istore C (fun y => [(5, .int y), (0, .ref (ad 0)), (1, .int c1), (2, .int y2), (3, .int y3), (4, .int y4)]) dX9_wrongPlace_24 (by decide) (fun _ => rfl) hf (fun x4 hf => ?_)
      refine j_aload_n C 1 dX9_wrongPlace_26 rfl rfl ?_
      refine j_get C 2 iX9_wrongPlace_X9 h_0 rfl (by decide) mX9_wrongPlace_f7 rfl rfl dX9_wrongPlace_27 ?_
      refine j_iload C 0 dX9_wrongPlace_30 rfl ?_
      refine j_sald C 2 h_1 rfl dX9_wrongPlace_32 hf (fun hf => ?_)
      refine j_if_ne C 39 dX9_wrongPlace_33 (by decide) hf (fun hf => ?_) (fun hf => ?_)
      · refine j_goto C 90 dX9_wrongPlace_36 (by decide) ?_
        refine j_iinc C (v := (y4 + 1)) 5 (fun y => [(4, .int y), (5, .int x4), (0, .ref (ad 0)), (1, .int c1), (2, .int y2), (3, .int y3)]) dX9_wrongPlace_90 rfl rfl (by decide) (fun _ => rfl) hf (fun x5 hf => ?_)
        refine j_goto C 7 dX9_wrongPlace_93 (by decide) ?_
        refine j_sub [2, 3, 4, 5, 0] rfl ?_
        exact ih _ _ _ _ rfl hf
      · refine j_iconst C (v := 0) dX9_wrongPlace_39 (by decide) ?_
        refine j_istore C (fun y => [(6, .int y), (5, .int x4), (0, .ref (ad 0)), (1, .int c1), (2, .int y2), (3, .int y3), (4, .int y4)]) dX9_wrongPlace_40 (by decide) (fun _ => rfl) hf (fun x6 hf => ?_)
        refine j_sub [2, 3, 4, 5, 6, 1, 0] (lv2 := [(0, .ref (ad 0)), (1, .int c1), (2, .int y2), (3, .int y3), (4, .int y4), (5, .int x4), (6, .int x6)]) rfl ?_
        refine lp_X9_wrongPlace_L42 C ret (fun v10 hf => ?_) 70 _ _ rfl hf
        refine j_iload C 4 dX9_wrongPlace_75 rfl ?_
        obtain ⟨u11, h12, hf⟩ := bd hf
        refine j_cSI C [.int y4] gX9_wrongPlace_X9_sideOf rfl hdX9_sideOf.2 ⟨⟨rfl, rfl⟩, Nat.le_of_ble_eq_true rfl, Nat.le_of_ble_eq_true rfl⟩ rfl (k_X9_sideOf h12) dX9_wrongPlace_77 rfl (Nat.le_of_ble_eq_true rfl) ?_
        obtain ⟨v13, h14, hf⟩ := bd hf
        have jj15 : jW (EM l D ad aI aZ aS aF) G K 90 [(0, .ref (ad 0)), (1, .int c1), (2, .int v13.1), (3, .int v13.2), (4, .int y4), (5, .int x4), (6, .int v10)] [] := by
          refine j_iinc C (v := (y4 + 1)) 4 (fun y => [(4, .int y), (0, .ref (ad 0)), (1, .int c1), (2, .int v13.1), (3, .int v13.2), (5, .int x4), (6, .int v10)]) dX9_wrongPlace_90 rfl rfl (by decide) (fun _ => rfl) hf (fun x18 hf => ?_)
          refine j_goto C 7 dX9_wrongPlace_93 (by decide) ?_
          refine j_sub [1, 2, 3, 4, 0] rfl ?_
          exact ih _ _ _ _ rfl hf
        clear hf
        have hf := h14
        clear h14
        refine j_if_ne C 88 dX9_wrongPlace_80 (by decide) hf (fun hf => ?_) (fun hf => ?_)
        · refine j_iconst C (v := 1) dX9_wrongPlace_83 (by decide) ?_
          refine j_istore_n C (fun y => [(2, .int y), (0, .ref (ad 0)), (1, .int c1), (3, .int y3), (4, .int y4), (5, .int x4), (6, .int v10)]) dX9_wrongPlace_84 rfl (by decide) (fun _ => rfl) hf (fun x16 hf => ?_)
          refine j_goto C 90 dX9_wrongPlace_85 (by decide) ?_
          cases hf
          refine j_sub [1, 2, 0, 3, 4, 5, 6] rfl ?_
          exact jj15
        · refine j_iconst C (v := 1) dX9_wrongPlace_88 (by decide) ?_
          refine j_istore_n C (fun y => [(3, .int y), (0, .ref (ad 0)), (1, .int c1), (2, .int y2), (4, .int y4), (5, .int x4), (6, .int v10)]) dX9_wrongPlace_89 rfl (by decide) (fun _ => rfl) hf (fun x17 hf => ?_)
          cases hf
          refine j_sub [1, 2, 3, 0, 4, 5, 6] rfl ?_
          exact jj15
set_option maxRecDepth 100000 in
set_option maxHeartbeats 4000000 in
theorem k_X9_wrongPlace {l : Launch} {D : va_G} {ad : Nat → Nat} {aI aZ aS aF : ClassId} {p1 : Int32} {K : Mem} {u : Int32} (hf : f_X9_wrongPlace p1 K = some u) : cI (EM l D ad aI aZ aS aF) yX9_wrongPlace wsX9_wrongPlace rmX9_wrongPlace [.ref (ad 0), .int p1] K u K := by
  rw [f_X9_wrongPlace] at hf
  refine j_entI (cc := cX9_wrongPlace) (maxL := 7) (EM_ok l D ad aI aZ aS aF) (Or.inl rfl) (by decide) rfl (Nat.le_of_ble_eq_true rfl) (fun G C ret => ?_)
  refine j_sub [0, 1] (lv2 := [(0, .ref (ad 0)), (1, .int p1)]) rfl ?_
  refine j_iconst C (v := 0) dX9_wrongPlace_0 (by decide) ?_
  refine j_istore_n C (fun y => [(2, .int y), (0, .ref (ad 0)), (1, .int p1)]) dX9_wrongPlace_1 rfl (by decide) (fun _ => rfl) hf (fun x1 hf => ?_)
  refine j_iconst C (v := 0) dX9_wrongPlace_2 (by decide) ?_
  refine j_istore_n C (fun y => [(3, .int y), (2, .int x1), (0, .ref (ad 0)), (1, .int p1)]) dX9_wrongPlace_3 rfl (by decide) (fun _ => rfl) hf (fun x2 hf => ?_)
  refine j_iconst C (v := 0) dX9_wrongPlace_4 (by decide) ?_
  refine j_istore C (fun y => [(4, .int y), (3, .int x2), (2, .int x1), (0, .ref (ad 0)), (1, .int p1)]) dX9_wrongPlace_5 (by decide) (fun _ => rfl) hf (fun x3 hf => ?_)
  refine j_sub [3, 4, 2, 1, 0] (lv2 := [(0, .ref (ad 0)), (1, .int p1), (2, .int x1), (3, .int x2), (4, .int x3)]) rfl ?_
  refine lp_X9_wrongPlace_L7 C ret (fun v19 hf => ?_) 70 _ _ _ _ rfl hf
  refine j_iload_n C 2 dX9_wrongPlace_96 rfl rfl ?_
  refine j_if_ne C 105 dX9_wrongPlace_97 (by decide) hf (fun hf => ?_) (fun hf => ?_)
  · refine j_bipush C (v := 64) dX9_wrongPlace_100 (by decide) ?_
    refine j_goto C 115 dX9_wrongPlace_102 (by decide) ?_
    cases hf
    exact ret _ _ dX9_wrongPlace_115 (fun h => by cases h)
  · refine j_iload_n C 3 dX9_wrongPlace_105 rfl rfl ?_
    refine j_if_ne C 114 dX9_wrongPlace_106 (by decide) hf (fun hf => ?_) (fun hf => ?_)
    · refine j_bipush C (v := 65) dX9_wrongPlace_109 (by decide) ?_
      refine j_goto C 115 dX9_wrongPlace_111 (by decide) ?_
      cases hf
      exact ret _ _ dX9_wrongPlace_115 (fun h => by cases h)
    · refine j_iconst C (v := (-1)) dX9_wrongPlace_114 (by decide) ?_
      cases hf
      exact ret _ _ dX9_wrongPlace_115 (fun h => by cases h)
/-- BarrierLightsModel.stopRing(I)V -/
def f_X9_stopRing (p1 : Int32) (K : Mem) : Option (Mem) := if inb p1 4 = true then (st K 19 (ix p1) 0 fun K1 => if inb p1 4 = true then (st K1 20 (ix p1) (-1) fun K2 => if inb p1 4 = true then (st K2 21 (ix p1) (-1) fun K3 => if inb p1 4 = true then (st K3 25 (ix p1) 0 fun K4 => some K4) else none) else none) else none) else none
abbrev rmX9_stopRing : Room := { frames := 0, cells := 0, slots := 0, locals := 0 }
theorem iX9_stopRing_X9 : ∀ w ∈ u_ws RX9 TX9 37, w ∈ wsX9_stopRing := fun _ h => List.mem_cons_of_mem _ (List.mem_append_right _ h)
theorem mX9_stopRing_f67 : Cond.fieldLink RX9 67 "BarrierLightsModel" "state" "[I" ∈ wsX9_stopRing := by decide +kernel
theorem mX9_stopRing_f70 : Cond.fieldLink RX9 70 "BarrierLightsModel" "phase" "[I" ∈ wsX9_stopRing := by decide +kernel
theorem mX9_stopRing_f73 : Cond.fieldLink RX9 73 "BarrierLightsModel" "follows" "[I" ∈ wsX9_stopRing := by decide +kernel
theorem mX9_stopRing_f85 : Cond.fieldLink RX9 85 "BarrierLightsModel" "walker" "[I" ∈ wsX9_stopRing := by decide +kernel
set_option maxRecDepth 100000 in
set_option maxHeartbeats 4000000 in
theorem k_X9_stopRing {l : Launch} {D : va_G} {ad : Nat → Nat} {aI aZ aS aF : ClassId} {p1 : Int32} {K : Mem} {u : Mem} (hf : f_X9_stopRing p1 K = some u) : cV (EM l D ad aI aZ aS aF) yX9_stopRing wsX9_stopRing rmX9_stopRing [.ref (ad 0), .int p1] K u := by
  rw [f_X9_stopRing] at hf
  refine j_entV (cc := cX9_stopRing) (maxL := 2) (EM_ok l D ad aI aZ aS aF) (by decide) rfl (Nat.le_of_ble_eq_true rfl) (fun G C ret => ?_)
  refine j_sub [0, 1] (lv2 := [(0, .ref (ad 0)), (1, .int p1)]) rfl ?_
  refine j_aload_n C 0 dX9_stopRing_0 rfl rfl ?_
  refine j_get C 20 iX9_stopRing_X9 h_0 rfl (by decide) mX9_stopRing_f67 rfl rfl dX9_stopRing_1 ?_
  refine j_iload_n C 1 dX9_stopRing_4 rfl rfl ?_
  refine j_iconst C (v := 0) dX9_stopRing_5 (by decide) ?_
  refine j_iast C 0 h_19 (t_19 _ _) rfl dX9_stopRing_6 hf (fun K1 hf => ?_)
  refine j_aload_n C 0 dX9_stopRing_7 rfl rfl ?_
  refine j_get C 21 iX9_stopRing_X9 h_0 rfl (by decide) mX9_stopRing_f70 rfl rfl dX9_stopRing_8 ?_
  refine j_iload_n C 1 dX9_stopRing_11 rfl rfl ?_
  refine j_iconst C (v := (-1)) dX9_stopRing_12 (by decide) ?_
  refine j_iast C 0 h_20 (t_20 _ _) rfl dX9_stopRing_13 hf (fun K2 hf => ?_)
  refine j_aload_n C 0 dX9_stopRing_14 rfl rfl ?_
  refine j_get C 22 iX9_stopRing_X9 h_0 rfl (by decide) mX9_stopRing_f73 rfl rfl dX9_stopRing_15 ?_
  refine j_iload_n C 1 dX9_stopRing_18 rfl rfl ?_
  refine j_iconst C (v := (-1)) dX9_stopRing_19 (by decide) ?_
  refine j_iast C 0 h_21 (t_21 _ _) rfl dX9_stopRing_20 hf (fun K3 hf => ?_)
  refine j_aload_n C 0 dX9_stopRing_21 rfl rfl ?_
  refine j_get C 26 iX9_stopRing_X9 h_0 rfl (by decide) mX9_stopRing_f85 rfl rfl dX9_stopRing_22 ?_
  refine j_iload_n C 1 dX9_stopRing_25 rfl rfl ?_
  refine j_iconst C (v := 0) dX9_stopRing_26 (by decide) ?_
  refine j_iast C 0 h_25 (t_25 _ _) rfl dX9_stopRing_27 hf (fun K4 hf => ?_)
  cases hf
  exact ret _ _ dX9_stopRing_28
/-- BarrierLightsModel.start(I)V -/
def f_X9_start_L49 (c1 : Int32) : Nat → Int32 → Mem → Option (Int32 × Mem)
  | 0, _, _ => none
  | n + 1, y2, K => if ((8 * c1) + 8) ≤ y2 then (some (y2, K)) else (if inb y2 16 = true then (if inb y2 16 = true then (st K 9 (ix y2) (vp_nar .boolean (K 8 (ix y2))) fun K10 => if inb y2 16 = true then (st K10 10 (ix y2) (vp_nar .boolean 0) fun K11 => if inb y2 16 = true then (st K11 16 (ix y2) 0 fun K12 => if inb y2 16 = true then (st K12 17 (ix y2) (vp_nar .boolean 0) fun K13 => if inb y2 16 = true then (st K13 18 (ix y2) 0 fun K14 => lt (y2 + 1) fun x15 => f_X9_start_L49 c1 n x15 K14) else none) else none) else none) else none) else none) else none)
def f_X9_start (p1 : Int32) (K : Mem) : Option (Mem) := if inb p1 2 = true then (st K 4 (ix p1) (vp_nar .boolean 0) fun K1 => if inb p1 2 = true then (st K1 5 (ix p1) 0 fun K2 => if inb p1 2 = true then (st K2 6 (ix p1) 1 fun K3 => if inb p1 2 = true then (st K3 7 (ix p1) (vp_nar .boolean 0) fun K4 => (f_X9_stopRing (2 * p1) K4).bind fun u5 => (f_X9_stopRing ((2 * p1) + 1) u5).bind fun u7 => lt (8 * p1) fun x9 => (f_X9_start_L49 p1 70 x9 u7).bind fun v16 => some v16.2) else none) else none) else none) else none
abbrev rmX9_start : Room := { frames := 1, cells := 0, slots := 0, locals := 21 }
theorem iX9_start_X9 : ∀ w ∈ u_ws RX9 TX9 37, w ∈ wsX9_start := fun _ h => List.mem_cons_of_mem _ (List.mem_append_right _ h)
theorem mX9_start_f20 : Cond.fieldLink RX9 20 "BarrierLightsModel" "off" "[Z" ∈ wsX9_start := by decide +kernel
theorem mX9_start_f24 : Cond.fieldLink RX9 24 "BarrierLightsModel" "why" "[I" ∈ wsX9_start := by decide +kernel
theorem mX9_start_f27 : Cond.fieldLink RX9 27 "BarrierLightsModel" "side" "[I" ∈ wsX9_start := by decide +kernel
theorem mX9_start_f30 : Cond.fieldLink RX9 30 "BarrierLightsModel" "greater" "[Z" ∈ wsX9_start := by decide +kernel
theorem hdX9_stopRing : yX9_stopRing.cls = RX9 ∧ yX9_stopRing.cls ≠ "java/lang/invoke/MethodHandle" ∧ yX9_stopRing.cls ≠ "java/lang/invoke/VarHandle" ∧ (parseMethodDescriptor yX9_stopRing.desc).map (fun d => d.parameters.length) = some 1 := by decide +kernel
theorem mX9_start_f36 : Cond.fieldLink RX9 36 "BarrierLightsModel" "calls" "[Z" ∈ wsX9_start := by decide +kernel
theorem mX9_start_f33 : Cond.fieldLink RX9 33 "BarrierLightsModel" "used" "[Z" ∈ wsX9_start := by decide +kernel
theorem mX9_start_f39 : Cond.fieldLink RX9 39 "BarrierLightsModel" "walkCalls" "[Z" ∈ wsX9_start := by decide +kernel
theorem mX9_start_f58 : Cond.fieldLink RX9 58 "BarrierLightsModel" "darks" "[I" ∈ wsX9_start := by decide +kernel
theorem mX9_start_f61 : Cond.fieldLink RX9 61 "BarrierLightsModel" "went" "[Z" ∈ wsX9_start := by decide +kernel
theorem mX9_start_f64 : Cond.fieldLink RX9 64 "BarrierLightsModel" "yellows" "[I" ∈ wsX9_start := by decide +kernel
set_option maxRecDepth 100000 in
set_option maxHeartbeats 4000000 in
theorem lp_X9_start_L49 {l : Launch} {D : va_G} {ad : Nat → Nat} {aI aZ aS aF : ClassId} {G : jG} {c1 : Int32} (C : jC (EM l D ad aI aZ aS aF) G cX9_start yX9_start.cls wsX9_start rmX9_start 3) : ∀ (n : Nat) (y2 : Int32) (K : Mem) (v : Int32 × Mem), f_X9_start_L49 c1 n y2 K = some v → jW (EM l D ad aI aZ aS aF) G v.2 106 [(0, .ref (ad 0)), (1, .int c1), (2, .int v.1)] [] → jW (EM l D ad aI aZ aS aF) G K 49 [(0, .ref (ad 0)), (1, .int c1), (2, .int y2)] [] := by
  intro n
  induction n with
  | zero =>
    intro y2 K v hf jj
    rw [f_X9_start_L49] at hf
    cases hf
  | succ n ih =>
    intro y2 K v hf jj
    rw [f_X9_start_L49] at hf
    refine j_iload_n C 2 dX9_start_49 rfl rfl ?_
    refine j_bipush C (v := 8) dX9_start_50 (by decide) ?_
    refine j_iload_n C 1 dX9_start_52 rfl rfl ?_
    refine j_imul C dX9_start_53 ?_
    refine j_bipush C (v := 8) dX9_start_54 (by decide) ?_
    refine j_iadd C dX9_start_56 ?_
    refine j_icmp_ge C 106 dX9_start_57 (by decide) hf (fun hf => ?_) (fun hf => ?_)
    · cases hf
      exact jj
    · refine j_aload_n C 0 dX9_start_60 rfl rfl ?_
      refine j_get C 10 iX9_start_X9 h_0 rfl (by decide) mX9_start_f36 rfl rfl dX9_start_61 ?_
      refine j_iload_n C 2 dX9_start_64 rfl rfl ?_
      refine j_aload_n C 0 dX9_start_65 rfl rfl ?_
      refine j_get C 9 iX9_start_X9 h_0 rfl (by decide) mX9_start_f33 rfl rfl dX9_start_66 ?_
      refine j_iload_n C 2 dX9_start_69 rfl rfl ?_
      refine j_zald C 1 h_8 rfl dX9_start_70 hf (fun hf => ?_)
      refine j_zast C 1 h_9 (t_9 _ _) rfl dX9_start_71 hf (fun K10 hf => ?_)
      refine j_aload_n C 0 dX9_start_72 rfl rfl ?_
      refine j_get C 11 iX9_start_X9 h_0 rfl (by decide) mX9_start_f39 rfl rfl dX9_start_73 ?_
      refine j_iload_n C 2 dX9_start_76 rfl rfl ?_
      refine j_iconst C (v := 0) dX9_start_77 (by decide) ?_
      refine j_zast C 1 h_10 (t_10 _ _) rfl dX9_start_78 hf (fun K11 hf => ?_)
      refine j_aload_n C 0 dX9_start_79 rfl rfl ?_
      refine j_get C 17 iX9_start_X9 h_0 rfl (by decide) mX9_start_f58 rfl rfl dX9_start_80 ?_
      refine j_iload_n C 2 dX9_start_83 rfl rfl ?_
      refine j_iconst C (v := 0) dX9_start_84 (by decide) ?_
      refine j_iast C 0 h_16 (t_16 _ _) rfl dX9_start_85 hf (fun K12 hf => ?_)
      refine j_aload_n C 0 dX9_start_86 rfl rfl ?_
      refine j_get C 18 iX9_start_X9 h_0 rfl (by decide) mX9_start_f61 rfl rfl dX9_start_87 ?_
      refine j_iload_n C 2 dX9_start_90 rfl rfl ?_
      refine j_iconst C (v := 0) dX9_start_91 (by decide) ?_
      refine j_zast C 1 h_17 (t_17 _ _) rfl dX9_start_92 hf (fun K13 hf => ?_)
      refine j_aload_n C 0 dX9_start_93 rfl rfl ?_
      refine j_get C 19 iX9_start_X9 h_0 rfl (by decide) mX9_start_f64 rfl rfl dX9_start_94 ?_
      refine j_iload_n C 2 dX9_start_97 rfl rfl ?_
      refine j_iconst C (v := 0) dX9_start_98 (by decide) ?_
      refine j_iast C 0 h_18 (t_18 _ _) rfl dX9_start_99 hf (fun K14 hf => ?_)
      refine j_iinc C (v := (y2 + 1)) 2 (fun y => [(2, .int y), (0, .ref (ad 0)), (1, .int c1)]) dX9_start_100 rfl rfl (by decide) (fun _ => rfl) hf (fun x15 hf => ?_)
      refine j_goto C 49 dX9_start_103 (by decide) ?_
      refine j_sub [1, 2, 0] rfl ?_
      exact ih _ _ _ hf jj
set_option maxRecDepth 100000 in
set_option maxHeartbeats 4000000 in
theorem k_X9_start {l : Launch} {D : va_G} {ad : Nat → Nat} {aI aZ aS aF : ClassId} {p1 : Int32} {K : Mem} {u : Mem} (hf : f_X9_start p1 K = some u) : cV (EM l D ad aI aZ aS aF) yX9_start wsX9_start rmX9_start [.ref (ad 0), .int p1] K u := by
  rw [f_X9_start] at hf
  refine j_entV (cc := cX9_start) (maxL := 3) (EM_ok l D ad aI aZ aS aF) (by decide) rfl (Nat.le_of_ble_eq_true rfl) (fun G C ret => ?_)
  refine j_sub [0, 1] (lv2 := [(0, .ref (ad 0)), (1, .int p1)]) rfl ?_
  refine j_aload_n C 0 dX9_start_0 rfl rfl ?_
  refine j_get C 5 iX9_start_X9 h_0 rfl (by decide) mX9_start_f20 rfl rfl dX9_start_1 ?_
  refine j_iload_n C 1 dX9_start_4 rfl rfl ?_
  refine j_iconst C (v := 0) dX9_start_5 (by decide) ?_
  refine j_zast C 1 h_4 (t_4 _ _) rfl dX9_start_6 hf (fun K1 hf => ?_)
  refine j_aload_n C 0 dX9_start_7 rfl rfl ?_
  refine j_get C 6 iX9_start_X9 h_0 rfl (by decide) mX9_start_f24 rfl rfl dX9_start_8 ?_
  refine j_iload_n C 1 dX9_start_11 rfl rfl ?_
  refine j_iconst C (v := 0) dX9_start_12 (by decide) ?_
  refine j_iast C 0 h_5 (t_5 _ _) rfl dX9_start_13 hf (fun K2 hf => ?_)
  refine j_aload_n C 0 dX9_start_14 rfl rfl ?_
  refine j_get C 7 iX9_start_X9 h_0 rfl (by decide) mX9_start_f27 rfl rfl dX9_start_15 ?_
  refine j_iload_n C 1 dX9_start_18 rfl rfl ?_
  refine j_iconst C (v := 1) dX9_start_19 (by decide) ?_
  refine j_iast C 0 h_6 (t_6 _ _) rfl dX9_start_20 hf (fun K3 hf => ?_)
  refine j_aload_n C 0 dX9_start_21 rfl rfl ?_
  refine j_get C 8 iX9_start_X9 h_0 rfl (by decide) mX9_start_f30 rfl rfl dX9_start_22 ?_
  refine j_iload_n C 1 dX9_start_25 rfl rfl ?_
  refine j_iconst C (v := 0) dX9_start_26 (by decide) ?_
  refine j_zast C 1 h_7 (t_7 _ _) rfl dX9_start_27 hf (fun K4 hf => ?_)
  refine j_aload_n C 0 dX9_start_28 rfl rfl ?_
  refine j_iconst C (v := 2) dX9_start_29 (by decide) ?_
  refine j_iload_n C 1 dX9_start_30 rfl rfl ?_
  refine j_imul C dX9_start_31 ?_
  obtain ⟨u5, h6, hf⟩ := bd hf
  refine j_cVV C [.int ((2 * p1))] gX9_start_X9_stopRing rfl hdX9_stopRing ⟨⟨rfl, rfl⟩, Nat.le_of_ble_eq_true rfl, Nat.le_of_ble_eq_true rfl⟩ rfl h_0 rfl (k_X9_stopRing h6) dX9_start_32 rfl (Nat.le_of_ble_eq_true rfl) ?_
  refine j_aload_n C 0 dX9_start_35 rfl rfl ?_
  refine j_iconst C (v := 2) dX9_start_36 (by decide) ?_
  refine j_iload_n C 1 dX9_start_37 rfl rfl ?_
  refine j_imul C dX9_start_38 ?_
  refine j_iconst C (v := 1) dX9_start_39 (by decide) ?_
  refine j_iadd C dX9_start_40 ?_
  obtain ⟨u7, h8, hf⟩ := bd hf
  refine j_cVV C [.int (((2 * p1) + 1))] gX9_start_X9_stopRing rfl hdX9_stopRing ⟨⟨rfl, rfl⟩, Nat.le_of_ble_eq_true rfl, Nat.le_of_ble_eq_true rfl⟩ rfl h_0 rfl (k_X9_stopRing h8) dX9_start_41 rfl (Nat.le_of_ble_eq_true rfl) ?_
  refine j_bipush C (v := 8) dX9_start_44 (by decide) ?_
  refine j_iload_n C 1 dX9_start_46 rfl rfl ?_
  refine j_imul C dX9_start_47 ?_
  refine j_istore_n C (fun y => [(2, .int y), (0, .ref (ad 0)), (1, .int p1)]) dX9_start_48 rfl (by decide) (fun _ => rfl) hf (fun x9 hf => ?_)
  obtain ⟨v16, h17, hf⟩ := bd hf
  refine j_sub [1, 2, 0] (lv2 := [(0, .ref (ad 0)), (1, .int p1), (2, .int x9)]) rfl ?_
  refine lp_X9_start_L49 C 70 _ _ _ h17 ?_
  cases hf
  exact ret _ _ dX9_start_106
/-- BarrierLightsModel.enact(I)I -/
def f_X9_enact_L74 (c1 : Int32) (c2 : Int32) (c3 : Int32) : Nat → Int32 → Mem → Option (Int32 × Mem)
  | 0, _, _ => none
  | n + 1, y4, K => if (((64 * c1) + (8 * c3)) + 8) ≤ y4 then (some (y4, K)) else (if inb y4 128 = true then (if inb y4 128 = true then (st K 2 (ix y4) (vp_nar .short (K 1 (ix y4))) fun K13 => lt (y4 + 1) fun x14 => f_X9_enact_L74 c1 c2 c3 n x14 K13) else none) else none)
def f_X9_enact_L57 (c1 : Int32) : Nat → Int32 → Int32 → Mem → Option (Int32 × Int32 × Mem)
  | 0, _, _, _ => none
  | n + 1, y2, y3, K => if 8 ≤ y3 then (some (y2, y3, K)) else (lt ((64 * c1) + (8 * y3)) fun x12 => (f_X9_enact_L74 c1 y2 y3 70 x12 K).bind fun v15 => (f_X9_entry c1 y3 0 v15.2).bind fun u17 => (if u17 ≤ 0 then (some 0) else (some 1) : Option (Int32)).bind fun v19 => if inb ((8 * c1) + y3) 16 = true then (st v15.2 8 (ix ((8 * c1) + y3)) (vp_nar .boolean v19) fun K22 => if inb ((8 * c1) + y3) 16 = true then ((if (K22 8 (ix ((8 * c1) + y3))) = 0 then (some y2) else (lt (y2 + 1) fun x26 => some x26) : Option (Int32)).bind fun v23 => lt (y3 + 1) fun x27 => f_X9_enact_L57 c1 n v23 x27 K22) else none) else none)
def f_X9_enact (p1 : Int32) (K : Mem) : Option (Int32 × Mem) := (f_X9_isCrossing p1 K).bind fun u1 => (if u1 = 0 then (some 1) else (some 0) : Option (Int32)).bind fun v3 => st K 0 0 v3 fun K6 => if (K6 0 0) = 0 then ((f_X9_wrongPlace p1 K6).bind fun u7 => if inb p1 2 = true then (st K6 3 (ix p1) u7 fun K9 => if inb p1 2 = true then (if (K9 3 (ix p1)) = (-1) then (lt 0 fun x10 => lt 0 fun x11 => (f_X9_enact_L57 p1 70 x10 x11 K9).bind fun v28 => (f_X9_start p1 v28.2.2).bind fun u30 => some (v28.1, u30)) else (st K9 0 0 2 fun K32 => some (0, K32))) else none) else none) else (some (0, K6))
abbrev rmX9_enact : Room := { frames := 2, cells := 0, slots := 0, locals := 50 }
theorem iX9_enact_X9 : ∀ w ∈ u_ws RX9 TX9 37, w ∈ wsX9_enact := fun _ h => List.mem_cons_of_mem _ (List.mem_append_right _ h)
theorem mX9_enact_f118 : Cond.fieldLink RX9 118 "BarrierLightsModel" "code" "I" ∈ wsX9_enact := by decide +kernel
theorem mX9_enact_f16 : Cond.fieldLink RX9 16 "BarrierLightsModel" "wrong" "[I" ∈ wsX9_enact := by decide +kernel
theorem hdX9_wrongPlace : yX9_wrongPlace.cls = RX9 ∧ yX9_wrongPlace.cls ≠ "java/lang/invoke/MethodHandle" ∧ yX9_wrongPlace.cls ≠ "java/lang/invoke/VarHandle" ∧ (parseMethodDescriptor yX9_wrongPlace.desc).map (fun d => d.parameters.length) = some 1 := by decide +kernel
theorem mX9_enact_f13 : Cond.fieldLink RX9 13 "BarrierLightsModel" "table" "[S" ∈ wsX9_enact := by decide +kernel
theorem mX9_enact_f7 : Cond.fieldLink RX9 7 "BarrierLightsModel" "draft" "[S" ∈ wsX9_enact := by decide +kernel
theorem mX9_enact_f33 : Cond.fieldLink RX9 33 "BarrierLightsModel" "used" "[Z" ∈ wsX9_enact := by decide +kernel
theorem hdX9_entry : yX9_entry.cls = RX9 ∧ yX9_entry.cls ≠ "java/lang/invoke/MethodHandle" ∧ yX9_entry.cls ≠ "java/lang/invoke/VarHandle" ∧ (parseMethodDescriptor yX9_entry.desc).map (fun d => d.parameters.length) = some 3 := by decide +kernel
theorem hdX9_start : yX9_start.cls = RX9 ∧ yX9_start.cls ≠ "java/lang/invoke/MethodHandle" ∧ yX9_start.cls ≠ "java/lang/invoke/VarHandle" ∧ (parseMethodDescriptor yX9_start.desc).map (fun d => d.parameters.length) = some 1 := by decide +kernel
set_option maxRecDepth 100000 in
set_option maxHeartbeats 4000000 in
theorem lp_X9_enact_L74 {l : Launch} {D : va_G} {ad : Nat → Nat} {aI aZ aS aF : ClassId} {G : jG} {c1 : Int32} {c2 : Int32} {c3 : Int32} (C : jC (EM l D ad aI aZ aS aF) G cX9_enact yX9_enact.cls wsX9_enact rmX9_enact 5) : ∀ (n : Nat) (y4 : Int32) (K : Mem) (v : Int32 × Mem), f_X9_enact_L74 c1 c2 c3 n y4 K = some v → jW (EM l D ad aI aZ aS aF) G v.2 111 [(0, .ref (ad 0)), (1, .int c1), (2, .int c2), (3, .int c3), (4, .int v.1)] [] → jW (EM l D ad aI aZ aS aF) G K 74 [(0, .ref (ad 0)), (1, .int c1), (2, .int c2), (3, .int c3), (4, .int y4)] [] := by
  intro n
  induction n with
  | zero =>
    intro y4 K v hf jj
    rw [f_X9_enact_L74] at hf
    cases hf
  | succ n ih =>
    intro y4 K v hf jj
    rw [f_X9_enact_L74] at hf
    refine j_iload C 4 dX9_enact_74 rfl ?_
    refine j_bipush C (v := 64) dX9_enact_76 (by decide) ?_
    refine j_iload_n C 1 dX9_enact_78 rfl rfl ?_
    refine j_imul C dX9_enact_79 ?_
    refine j_bipush C (v := 8) dX9_enact_80 (by decide) ?_
    refine j_iload_n C 3 dX9_enact_82 rfl rfl ?_
    refine j_imul C dX9_enact_83 ?_
    refine j_iadd C dX9_enact_84 ?_
    refine j_bipush C (v := 8) dX9_enact_85 (by decide) ?_
    refine j_iadd C dX9_enact_87 ?_
    refine j_icmp_ge C 111 dX9_enact_88 (by decide) hf (fun hf => ?_) (fun hf => ?_)
    · cases hf
      exact jj
    · refine j_aload_n C 0 dX9_enact_91 rfl rfl ?_
      refine j_get C 3 iX9_enact_X9 h_0 rfl (by decide) mX9_enact_f13 rfl rfl dX9_enact_92 ?_
      refine j_iload C 4 dX9_enact_95 rfl ?_
      refine j_aload_n C 0 dX9_enact_97 rfl rfl ?_
      refine j_get C 2 iX9_enact_X9 h_0 rfl (by decide) mX9_enact_f7 rfl rfl dX9_enact_98 ?_
      refine j_iload C 4 dX9_enact_101 rfl ?_
      refine j_sald C 2 h_1 rfl dX9_enact_103 hf (fun hf => ?_)
      refine j_sast C 2 h_2 (t_2 _ _) rfl dX9_enact_104 hf (fun K13 hf => ?_)
      refine j_iinc C (v := (y4 + 1)) 4 (fun y => [(4, .int y), (0, .ref (ad 0)), (1, .int c1), (2, .int c2), (3, .int c3)]) dX9_enact_105 rfl rfl (by decide) (fun _ => rfl) hf (fun x14 hf => ?_)
      refine j_goto C 74 dX9_enact_108 (by decide) ?_
      refine j_sub [1, 2, 3, 4, 0] rfl ?_
      exact ih _ _ _ hf jj
set_option maxRecDepth 100000 in
set_option maxHeartbeats 4000000 in
theorem lp_X9_enact_L57 {l : Launch} {D : va_G} {ad : Nat → Nat} {aI aZ aS aF : ClassId} {G : jG} {c1 : Int32} (C : jC (EM l D ad aI aZ aS aF) G cX9_enact yX9_enact.cls wsX9_enact rmX9_enact 5) : ∀ (n : Nat) (y2 y3 : Int32) (K : Mem) (v : Int32 × Int32 × Mem), f_X9_enact_L57 c1 n y2 y3 K = some v → jW (EM l D ad aI aZ aS aF) G v.2.2 160 [(0, .ref (ad 0)), (1, .int c1), (2, .int v.1), (3, .int v.2.1)] [] → jW (EM l D ad aI aZ aS aF) G K 57 [(0, .ref (ad 0)), (1, .int c1), (2, .int y2), (3, .int y3)] [] := by
  intro n
  induction n with
  | zero =>
    intro y2 y3 K v hf jj
    rw [f_X9_enact_L57] at hf
    cases hf
  | succ n ih =>
    intro y2 y3 K v hf jj
    rw [f_X9_enact_L57] at hf
    refine j_iload_n C 3 dX9_enact_57 rfl rfl ?_
    refine j_bipush C (v := 8) dX9_enact_58 (by decide) ?_
    refine j_icmp_ge C 160 dX9_enact_60 (by decide) hf (fun hf => ?_) (fun hf => ?_)
    · cases hf
      exact jj
    · refine j_bipush C (v := 64) dX9_enact_63 (by decide) ?_
      refine j_iload_n C 1 dX9_enact_65 rfl rfl ?_
      refine j_imul C dX9_enact_66 ?_
      refine j_bipush C (v := 8) dX9_enact_67 (by decide) ?_
      refine j_iload_n C 3 dX9_enact_69 rfl rfl ?_
      refine j_imul C dX9_enact_70 ?_
      refine j_iadd C dX9_enact_71 ?_
      refine j_istore C (fun y => [(4, .int y), (0, .ref (ad 0)), (1, .int c1), (2, .int y2), (3, .int y3)]) dX9_enact_72 (by decide) (fun _ => rfl) hf (fun x12 hf => ?_)
      obtain ⟨v15, h16, hf⟩ := bd hf
      refine j_sub [1, 2, 3, 4, 0] (lv2 := [(0, .ref (ad 0)), (1, .int c1), (2, .int y2), (3, .int y3), (4, .int x12)]) rfl ?_
      refine lp_X9_enact_L74 C 70 _ _ _ h16 ?_
      refine j_aload_n C 0 dX9_enact_111 rfl rfl ?_
      refine j_get C 9 iX9_enact_X9 h_0 rfl (by decide) mX9_enact_f33 rfl rfl dX9_enact_112 ?_
      refine j_bipush C (v := 8) dX9_enact_115 (by decide) ?_
      refine j_iload_n C 1 dX9_enact_117 rfl rfl ?_
      refine j_imul C dX9_enact_118 ?_
      refine j_iload_n C 3 dX9_enact_119 rfl rfl ?_
      refine j_iadd C dX9_enact_120 ?_
      refine j_aload_n C 0 dX9_enact_121 rfl rfl ?_
      refine j_iload_n C 1 dX9_enact_122 rfl rfl ?_
      refine j_iload_n C 3 dX9_enact_123 rfl rfl ?_
      refine j_iconst C (v := 0) dX9_enact_124 (by decide) ?_
      obtain ⟨u17, h18, hf⟩ := bd hf
      refine j_cVI C [.int c1, .int y3, .int 0] gX9_enact_X9_entry rfl hdX9_entry ⟨⟨rfl, rfl⟩, Nat.le_of_ble_eq_true rfl, Nat.le_of_ble_eq_true rfl⟩ rfl h_0 rfl (k_X9_entry h18) dX9_enact_125 rfl (Nat.le_of_ble_eq_true rfl) ?_
      obtain ⟨v19, h20, hf⟩ := bd hf
      have jj21 : jW (EM l D ad aI aZ aS aF) G v15.2 136 [(0, .ref (ad 0)), (1, .int c1), (2, .int y2), (3, .int y3), (4, .int v15.1)] [.int v19, .int (((8 * c1) + y3)), .ref (ad 8)] := by
        refine j_zast C 1 h_8 (t_8 _ _) rfl dX9_enact_136 hf (fun K22 hf => ?_)
        refine j_aload_n C 0 dX9_enact_137 rfl rfl ?_
        refine j_get C 9 iX9_enact_X9 h_0 rfl (by decide) mX9_enact_f33 rfl rfl dX9_enact_138 ?_
        refine j_bipush C (v := 8) dX9_enact_141 (by decide) ?_
        refine j_iload_n C 1 dX9_enact_143 rfl rfl ?_
        refine j_imul C dX9_enact_144 ?_
        refine j_iload_n C 3 dX9_enact_145 rfl rfl ?_
        refine j_iadd C dX9_enact_146 ?_
        refine j_zald C 1 h_8 rfl dX9_enact_147 hf (fun hf => ?_)
        obtain ⟨v23, h24, hf⟩ := bd hf
        have jj25 : jW (EM l D ad aI aZ aS aF) G K22 154 [(0, .ref (ad 0)), (1, .int c1), (2, .int v23), (3, .int y3), (4, .int v15.1)] [] := by
          refine j_iinc C (v := (y3 + 1)) 3 (fun y => [(3, .int y), (0, .ref (ad 0)), (1, .int c1), (2, .int v23), (4, .int v15.1)]) dX9_enact_154 rfl rfl (by decide) (fun _ => rfl) hf (fun x27 hf => ?_)
          refine j_goto C 57 dX9_enact_157 (by decide) ?_
          refine j_sub [1, 2, 3, 0] rfl ?_
          exact ih _ _ _ _ hf jj
        clear hf
        have hf := h24
        clear h24
        refine j_if_eq C 154 dX9_enact_148 (by decide) hf (fun hf => ?_) (fun hf => ?_)
        · cases hf
          exact jj25
        · refine j_iinc C (v := (y2 + 1)) 2 (fun y => [(2, .int y), (0, .ref (ad 0)), (1, .int c1), (3, .int y3), (4, .int v15.1)]) dX9_enact_151 rfl rfl (by decide) (fun _ => rfl) hf (fun x26 hf => ?_)
          cases hf
          refine j_sub [1, 2, 0, 3, 4] rfl ?_
          exact jj25
      clear hf
      have hf := h20
      clear h20
      refine j_if_le C 135 dX9_enact_128 (by decide) hf (fun hf => ?_) (fun hf => ?_)
      · refine j_iconst C (v := 0) dX9_enact_135 (by decide) ?_
        cases hf
        exact jj21
      · refine j_iconst C (v := 1) dX9_enact_131 (by decide) ?_
        refine j_goto C 136 dX9_enact_132 (by decide) ?_
        cases hf
        exact jj21
set_option maxRecDepth 100000 in
set_option maxHeartbeats 4000000 in
theorem k_X9_enact {l : Launch} {D : va_G} {ad : Nat → Nat} {aI aZ aS aF : ClassId} {p1 : Int32} {K : Mem} {u : Int32 × Mem} (hf : f_X9_enact p1 K = some u) : cI (EM l D ad aI aZ aS aF) yX9_enact wsX9_enact rmX9_enact [.ref (ad 0), .int p1] K u.1 u.2 := by
  rw [f_X9_enact] at hf
  refine j_entI (cc := cX9_enact) (maxL := 5) (EM_ok l D ad aI aZ aS aF) (Or.inl rfl) (by decide) rfl (Nat.le_of_ble_eq_true rfl) (fun G C ret => ?_)
  refine j_sub [0, 1] (lv2 := [(0, .ref (ad 0)), (1, .int p1)]) rfl ?_
  refine j_aload_n C 0 dX9_enact_0 rfl rfl ?_
  refine j_iload_n C 1 dX9_enact_1 rfl rfl ?_
  obtain ⟨u1, h2, hf⟩ := bd hf
  refine j_cSI C [.int p1] gX9_enact_X9_isCrossing rfl hdX9_isCrossing.2 ⟨⟨rfl, rfl⟩, Nat.le_of_ble_eq_true rfl, Nat.le_of_ble_eq_true rfl⟩ rfl (k_X9_isCrossing h2) dX9_enact_2 rfl (Nat.le_of_ble_eq_true rfl) ?_
  obtain ⟨v3, h4, hf⟩ := bd hf
  have jj5 : jW (EM l D ad aI aZ aS aF) G K 13 [(0, .ref (ad 0)), (1, .int p1)] [.int v3, .ref (ad 0)] := by
    refine j_put C (ty := .int) 0 iX9_enact_X9 tyX9 tyX9_ok nmX9 h_0 (t_0_0 _) rfl (by decide) mX9_enact_f118 rfl rfl (by decide +kernel) rfl rfl (Nat.le_of_ble_eq_true rfl) dX9_enact_13 hf (fun K6 hf => ?_)
    refine j_aload_n C 0 dX9_enact_16 rfl rfl ?_
    refine j_get C 0 iX9_enact_X9 h_0 rfl (by decide) mX9_enact_f118 rfl rfl dX9_enact_17 ?_
    refine j_if_eq C 25 dX9_enact_20 (by decide) hf (fun hf => ?_) (fun hf => ?_)
    · refine j_aload_n C 0 dX9_enact_25 rfl rfl ?_
      refine j_get C 4 iX9_enact_X9 h_0 rfl (by decide) mX9_enact_f16 rfl rfl dX9_enact_26 ?_
      refine j_iload_n C 1 dX9_enact_29 rfl rfl ?_
      refine j_aload_n C 0 dX9_enact_30 rfl rfl ?_
      refine j_iload_n C 1 dX9_enact_31 rfl rfl ?_
      obtain ⟨u7, h8, hf⟩ := bd hf
      refine j_cVI C [.int p1] gX9_enact_X9_wrongPlace rfl hdX9_wrongPlace ⟨⟨rfl, rfl⟩, Nat.le_of_ble_eq_true rfl, Nat.le_of_ble_eq_true rfl⟩ rfl h_0 rfl (k_X9_wrongPlace h8) dX9_enact_32 rfl (Nat.le_of_ble_eq_true rfl) ?_
      refine j_iast C 0 h_3 (t_3 _ _) rfl dX9_enact_35 hf (fun K9 hf => ?_)
      refine j_aload_n C 0 dX9_enact_36 rfl rfl ?_
      refine j_get C 4 iX9_enact_X9 h_0 rfl (by decide) mX9_enact_f16 rfl rfl dX9_enact_37 ?_
      refine j_iload_n C 1 dX9_enact_40 rfl rfl ?_
      refine j_iald C 0 h_3 rfl dX9_enact_41 hf (fun hf => ?_)
      refine j_iconst C (v := (-1)) dX9_enact_42 (by decide) ?_
      refine j_icmp_eq C 53 dX9_enact_43 (by decide) hf (fun hf => ?_) (fun hf => ?_)
      · refine j_iconst C (v := 0) dX9_enact_53 (by decide) ?_
        refine j_istore_n C (fun y => [(2, .int y), (0, .ref (ad 0)), (1, .int p1)]) dX9_enact_54 rfl (by decide) (fun _ => rfl) hf (fun x10 hf => ?_)
        refine j_iconst C (v := 0) dX9_enact_55 (by decide) ?_
        refine j_istore_n C (fun y => [(3, .int y), (2, .int x10), (0, .ref (ad 0)), (1, .int p1)]) dX9_enact_56 rfl (by decide) (fun _ => rfl) hf (fun x11 hf => ?_)
        obtain ⟨v28, h29, hf⟩ := bd hf
        refine j_sub [2, 3, 1, 0] (lv2 := [(0, .ref (ad 0)), (1, .int p1), (2, .int x10), (3, .int x11)]) rfl ?_
        refine lp_X9_enact_L57 C 70 _ _ _ _ h29 ?_
        refine j_aload_n C 0 dX9_enact_160 rfl rfl ?_
        refine j_iload_n C 1 dX9_enact_161 rfl rfl ?_
        obtain ⟨u30, h31, hf⟩ := bd hf
        refine j_cVV C [.int p1] gX9_enact_X9_start rfl hdX9_start ⟨⟨rfl, rfl⟩, Nat.le_of_ble_eq_true rfl, Nat.le_of_ble_eq_true rfl⟩ rfl h_0 rfl (k_X9_start h31) dX9_enact_162 rfl (Nat.le_of_ble_eq_true rfl) ?_
        refine j_iload_n C 2 dX9_enact_165 rfl rfl ?_
        cases hf
        exact ret _ _ dX9_enact_166 (fun h => by cases h)
      · refine j_aload_n C 0 dX9_enact_46 rfl rfl ?_
        refine j_iconst C (v := 2) dX9_enact_47 (by decide) ?_
        refine j_put C (ty := .int) 0 iX9_enact_X9 tyX9 tyX9_ok nmX9 h_0 (t_0_0 _) rfl (by decide) mX9_enact_f118 rfl rfl (by decide +kernel) rfl rfl (Nat.le_of_ble_eq_true rfl) dX9_enact_48 hf (fun K32 hf => ?_)
        refine j_iconst C (v := 0) dX9_enact_51 (by decide) ?_
        cases hf
        exact ret _ _ dX9_enact_52 (fun h => by cases h)
    · refine j_iconst C (v := 0) dX9_enact_23 (by decide) ?_
      cases hf
      exact ret _ _ dX9_enact_24 (fun h => by cases h)
  clear hf
  have hf := h4
  clear h4
  refine j_if_eq C 12 dX9_enact_5 (by decide) hf (fun hf => ?_) (fun hf => ?_)
  · refine j_iconst C (v := 1) dX9_enact_12 (by decide) ?_
    cases hf
    exact jj5
  · refine j_iconst C (v := 0) dX9_enact_8 (by decide) ?_
    refine j_goto C 13 dX9_enact_9 (by decide) ?_
    cases hf
    exact jj5
/-- BarrierLightsModel.called(II)Z -/
def f_X9_called (p1 : Int32) (p2 : Int32) (K : Mem) : Option (Int32) := if inb ((8 * p1) + p2) 16 = true then (if (K 9 (ix ((8 * p1) + p2))) = 0 then (if inb ((8 * p1) + p2) 16 = true then (if (K 10 (ix ((8 * p1) + p2))) = 0 then (some 0) else ((f_X9_isGreen p1 p2 K).bind fun u1 => if u1 = 0 then (some 1) else (some 0))) else none) else ((f_X9_isGreen p1 p2 K).bind fun u3 => if u3 = 0 then (some 1) else (some 0))) else none
abbrev rmX9_called : Room := { frames := 2, cells := 0, slots := 0, locals := 43 }
theorem iX9_called_X9 : ∀ w ∈ u_ws RX9 TX9 37, w ∈ wsX9_called := fun _ h => List.mem_cons_of_mem _ (List.mem_append_right _ h)
theorem mX9_called_f36 : Cond.fieldLink RX9 36 "BarrierLightsModel" "calls" "[Z" ∈ wsX9_called := by decide +kernel
theorem mX9_called_f39 : Cond.fieldLink RX9 39 "BarrierLightsModel" "walkCalls" "[Z" ∈ wsX9_called := by decide +kernel
theorem hdX9_isGreen : yX9_isGreen.cls = RX9 ∧ yX9_isGreen.cls ≠ "java/lang/invoke/MethodHandle" ∧ yX9_isGreen.cls ≠ "java/lang/invoke/VarHandle" ∧ (parseMethodDescriptor yX9_isGreen.desc).map (fun d => d.parameters.length) = some 2 := by decide +kernel
set_option maxRecDepth 100000 in
set_option maxHeartbeats 4000000 in
theorem k_X9_called {l : Launch} {D : va_G} {ad : Nat → Nat} {aI aZ aS aF : ClassId} {p1 : Int32} {p2 : Int32} {K : Mem} {u : Int32} (hf : f_X9_called p1 p2 K = some u) : cI (EM l D ad aI aZ aS aF) yX9_called wsX9_called rmX9_called [.ref (ad 0), .int p1, .int p2] K u K := by
  rw [f_X9_called] at hf
  refine j_entI (cc := cX9_called) (maxL := 3) (EM_ok l D ad aI aZ aS aF) (Or.inr rfl) (by decide) rfl (Nat.le_of_ble_eq_true rfl) (fun G C ret => ?_)
  refine j_sub [0, 1, 2] (lv2 := [(0, .ref (ad 0)), (1, .int p1), (2, .int p2)]) rfl ?_
  refine j_aload_n C 0 dX9_called_0 rfl rfl ?_
  refine j_get C 10 iX9_called_X9 h_0 rfl (by decide) mX9_called_f36 rfl rfl dX9_called_1 ?_
  refine j_bipush C (v := 8) dX9_called_4 (by decide) ?_
  refine j_iload_n C 1 dX9_called_6 rfl rfl ?_
  refine j_imul C dX9_called_7 ?_
  refine j_iload_n C 2 dX9_called_8 rfl rfl ?_
  refine j_iadd C dX9_called_9 ?_
  refine j_zald C 1 h_9 rfl dX9_called_10 hf (fun hf => ?_)
  refine j_if_ne C 28 dX9_called_11 (by decide) hf (fun hf => ?_) (fun hf => ?_)
  · refine j_aload_n C 0 dX9_called_14 rfl rfl ?_
    refine j_get C 11 iX9_called_X9 h_0 rfl (by decide) mX9_called_f39 rfl rfl dX9_called_15 ?_
    refine j_bipush C (v := 8) dX9_called_18 (by decide) ?_
    refine j_iload_n C 1 dX9_called_20 rfl rfl ?_
    refine j_imul C dX9_called_21 ?_
    refine j_iload_n C 2 dX9_called_22 rfl rfl ?_
    refine j_iadd C dX9_called_23 ?_
    refine j_zald C 1 h_10 rfl dX9_called_24 hf (fun hf => ?_)
    refine j_if_eq C 41 dX9_called_25 (by decide) hf (fun hf => ?_) (fun hf => ?_)
    · refine j_iconst C (v := 0) dX9_called_41 (by decide) ?_
      cases hf
      exact ret _ _ dX9_called_42 (fun _ => rfl)
    · refine j_aload_n C 0 dX9_called_28 rfl rfl ?_
      refine j_iload_n C 1 dX9_called_29 rfl rfl ?_
      refine j_iload_n C 2 dX9_called_30 rfl rfl ?_
      obtain ⟨u1, h2, hf⟩ := bd hf
      refine j_cVI C [.int p1, .int p2] gX9_called_X9_isGreen rfl hdX9_isGreen ⟨⟨rfl, rfl⟩, Nat.le_of_ble_eq_true rfl, Nat.le_of_ble_eq_true rfl⟩ rfl h_0 rfl (k_X9_isGreen h2) dX9_called_31 rfl (Nat.le_of_ble_eq_true rfl) ?_
      refine j_if_ne C 41 dX9_called_34 (by decide) hf (fun hf => ?_) (fun hf => ?_)
      · refine j_iconst C (v := 1) dX9_called_37 (by decide) ?_
        refine j_goto C 42 dX9_called_38 (by decide) ?_
        cases hf
        exact ret _ _ dX9_called_42 (fun _ => rfl)
      · refine j_iconst C (v := 0) dX9_called_41 (by decide) ?_
        cases hf
        exact ret _ _ dX9_called_42 (fun _ => rfl)
  · refine j_aload_n C 0 dX9_called_28 rfl rfl ?_
    refine j_iload_n C 1 dX9_called_29 rfl rfl ?_
    refine j_iload_n C 2 dX9_called_30 rfl rfl ?_
    obtain ⟨u3, h4, hf⟩ := bd hf
    refine j_cVI C [.int p1, .int p2] gX9_called_X9_isGreen rfl hdX9_isGreen ⟨⟨rfl, rfl⟩, Nat.le_of_ble_eq_true rfl, Nat.le_of_ble_eq_true rfl⟩ rfl h_0 rfl (k_X9_isGreen h4) dX9_called_31 rfl (Nat.le_of_ble_eq_true rfl) ?_
    refine j_if_ne C 41 dX9_called_34 (by decide) hf (fun hf => ?_) (fun hf => ?_)
    · refine j_iconst C (v := 1) dX9_called_37 (by decide) ?_
      refine j_goto C 42 dX9_called_38 (by decide) ?_
      cases hf
      exact ret _ _ dX9_called_42 (fun _ => rfl)
    · refine j_iconst C (v := 0) dX9_called_41 (by decide) ?_
      cases hf
      exact ret _ _ dX9_called_42 (fun _ => rfl)
/-- BarrierLightsModel.calledOn(II)Z -/
def f_X9_calledOn_L5 (c1 : Int32) (c2 : Int32) : Nat → Int32 → Int32 → Mem → Option (Int32 × Int32)
  | 0, _, _, _ => none
  | n + 1, y3, y4, K => if 8 ≤ y4 then (some (y3, y4)) else ((if y3 = 0 then ((f_X9_sideOf y4 K).bind fun u6 => if u6 = c2 then ((f_X9_called c1 y4 K).bind fun u8 => if u8 = 0 then (some 0) else (some 1)) else (some 0)) else (some 1) : Option (Int32)).bind fun v3 => lt v3 fun x10 => lt (y4 + 1) fun x11 => f_X9_calledOn_L5 c1 c2 n x10 x11 K)
def f_X9_calledOn (p1 : Int32) (p2 : Int32) (K : Mem) : Option (Int32) := lt 0 fun x1 => lt 0 fun x2 => (f_X9_calledOn_L5 p1 p2 70 x1 x2 K).bind fun v12 => if bb v12.1 = true then some v12.1 else none
abbrev rmX9_calledOn : Room := { frames := 3, cells := 0, slots := 0, locals := 65 }
theorem hdX9_called : yX9_called.cls = RX9 ∧ yX9_called.cls ≠ "java/lang/invoke/MethodHandle" ∧ yX9_called.cls ≠ "java/lang/invoke/VarHandle" ∧ (parseMethodDescriptor yX9_called.desc).map (fun d => d.parameters.length) = some 2 := by decide +kernel
set_option maxRecDepth 100000 in
set_option maxHeartbeats 4000000 in
theorem lp_X9_calledOn_L5 {l : Launch} {D : va_G} {ad : Nat → Nat} {aI aZ aS aF : ClassId} {G : jG} {c1 : Int32} {c2 : Int32} (C : jC (EM l D ad aI aZ aS aF) G cX9_calledOn yX9_calledOn.cls wsX9_calledOn rmX9_calledOn 5) : ∀ (n : Nat) (y3 y4 : Int32) (K : Mem) (v : Int32 × Int32), f_X9_calledOn_L5 c1 c2 n y3 y4 K = some v → jW (EM l D ad aI aZ aS aF) G K 47 [(0, .ref (ad 0)), (1, .int c1), (2, .int c2), (3, .int v.1), (4, .int v.2)] [] → jW (EM l D ad aI aZ aS aF) G K 5 [(0, .ref (ad 0)), (1, .int c1), (2, .int c2), (3, .int y3), (4, .int y4)] [] := by
  intro n
  induction n with
  | zero =>
    intro y3 y4 K v hf jj
    rw [f_X9_calledOn_L5] at hf
    cases hf
  | succ n ih =>
    intro y3 y4 K v hf jj
    rw [f_X9_calledOn_L5] at hf
    refine j_iload C 4 dX9_calledOn_5 rfl ?_
    refine j_bipush C (v := 8) dX9_calledOn_7 (by decide) ?_
    refine j_icmp_ge C 47 dX9_calledOn_9 (by decide) hf (fun hf => ?_) (fun hf => ?_)
    · cases hf
      exact jj
    · refine j_iload_n C 3 dX9_calledOn_12 rfl rfl ?_
      obtain ⟨v3, h4, hf⟩ := bd hf
      have jj5 : jW (EM l D ad aI aZ aS aF) G K 40 [(0, .ref (ad 0)), (1, .int c1), (2, .int c2), (3, .int y3), (4, .int y4)] [.int v3] := by
        refine j_istore_n C (fun y => [(3, .int y), (0, .ref (ad 0)), (1, .int c1), (2, .int c2), (4, .int y4)]) dX9_calledOn_40 rfl (by decide) (fun _ => rfl) hf (fun x10 hf => ?_)
        refine j_iinc C (v := (y4 + 1)) 4 (fun y => [(4, .int y), (3, .int x10), (0, .ref (ad 0)), (1, .int c1), (2, .int c2)]) dX9_calledOn_41 rfl rfl (by decide) (fun _ => rfl) hf (fun x11 hf => ?_)
        refine j_goto C 5 dX9_calledOn_44 (by decide) ?_
        refine j_sub [2, 3, 4, 1, 0] rfl ?_
        exact ih _ _ _ _ hf jj
      clear hf
      have hf := h4
      clear h4
      refine j_if_ne C 35 dX9_calledOn_13 (by decide) hf (fun hf => ?_) (fun hf => ?_)
      · refine j_iload C 4 dX9_calledOn_16 rfl ?_
        obtain ⟨u6, h7, hf⟩ := bd hf
        refine j_cSI C [.int y4] gX9_calledOn_X9_sideOf rfl hdX9_sideOf.2 ⟨⟨rfl, rfl⟩, Nat.le_of_ble_eq_true rfl, Nat.le_of_ble_eq_true rfl⟩ rfl (k_X9_sideOf h7) dX9_calledOn_18 rfl (Nat.le_of_ble_eq_true rfl) ?_
        refine j_iload_n C 2 dX9_calledOn_21 rfl rfl ?_
        refine j_icmp_ne C 39 dX9_calledOn_22 (by decide) hf (fun hf => ?_) (fun hf => ?_)
        · refine j_aload_n C 0 dX9_calledOn_25 rfl rfl ?_
          refine j_iload_n C 1 dX9_calledOn_26 rfl rfl ?_
          refine j_iload C 4 dX9_calledOn_27 rfl ?_
          obtain ⟨u8, h9, hf⟩ := bd hf
          refine j_cVI C [.int c1, .int y4] gX9_calledOn_X9_called rfl hdX9_called ⟨⟨rfl, rfl⟩, Nat.le_of_ble_eq_true rfl, Nat.le_of_ble_eq_true rfl⟩ rfl h_0 rfl (k_X9_called h9) dX9_calledOn_29 rfl (Nat.le_of_ble_eq_true rfl) ?_
          refine j_if_eq C 39 dX9_calledOn_32 (by decide) hf (fun hf => ?_) (fun hf => ?_)
          · refine j_iconst C (v := 0) dX9_calledOn_39 (by decide) ?_
            cases hf
            exact jj5
          · refine j_iconst C (v := 1) dX9_calledOn_35 (by decide) ?_
            refine j_goto C 40 dX9_calledOn_36 (by decide) ?_
            cases hf
            exact jj5
        · refine j_iconst C (v := 0) dX9_calledOn_39 (by decide) ?_
          cases hf
          exact jj5
      · refine j_iconst C (v := 1) dX9_calledOn_35 (by decide) ?_
        refine j_goto C 40 dX9_calledOn_36 (by decide) ?_
        cases hf
        exact jj5
set_option maxRecDepth 100000 in
set_option maxHeartbeats 4000000 in
theorem k_X9_calledOn {l : Launch} {D : va_G} {ad : Nat → Nat} {aI aZ aS aF : ClassId} {p1 : Int32} {p2 : Int32} {K : Mem} {u : Int32} (hf : f_X9_calledOn p1 p2 K = some u) : cI (EM l D ad aI aZ aS aF) yX9_calledOn wsX9_calledOn rmX9_calledOn [.ref (ad 0), .int p1, .int p2] K u K := by
  rw [f_X9_calledOn] at hf
  refine j_entI (cc := cX9_calledOn) (maxL := 5) (EM_ok l D ad aI aZ aS aF) (Or.inr rfl) (by decide) rfl (Nat.le_of_ble_eq_true rfl) (fun G C ret => ?_)
  refine j_sub [0, 1, 2] (lv2 := [(0, .ref (ad 0)), (1, .int p1), (2, .int p2)]) rfl ?_
  refine j_iconst C (v := 0) dX9_calledOn_0 (by decide) ?_
  refine j_istore_n C (fun y => [(3, .int y), (0, .ref (ad 0)), (1, .int p1), (2, .int p2)]) dX9_calledOn_1 rfl (by decide) (fun _ => rfl) hf (fun x1 hf => ?_)
  refine j_iconst C (v := 0) dX9_calledOn_2 (by decide) ?_
  refine j_istore C (fun y => [(4, .int y), (3, .int x1), (0, .ref (ad 0)), (1, .int p1), (2, .int p2)]) dX9_calledOn_3 (by decide) (fun _ => rfl) hf (fun x2 hf => ?_)
  obtain ⟨v12, h13, hf⟩ := bd hf
  refine j_sub [2, 3, 4, 1, 0] (lv2 := [(0, .ref (ad 0)), (1, .int p1), (2, .int p2), (3, .int x1), (4, .int x2)]) rfl ?_
  refine lp_X9_calledOn_L5 C 70 _ _ _ _ h13 ?_
  refine j_iload_n C 3 dX9_calledOn_47 rfl rfl ?_
  refine j_chk hf (fun hb14 hf => ?_)
  cases hf
  exact ret _ _ dX9_calledOn_48 (fun _ => hb14)
/-- BarrierLightsModel.needed(I)Z -/
def f_X9_needed_L16 (c1 : Int32) : Nat → Int32 → Int32 → Mem → Option (Int32 × Int32)
  | 0, _, _, _ => none
  | n + 1, y2, y3, K => if 8 ≤ y3 then (some (y2, y3)) else ((f_X9_ringOf c1 y3 K).bind fun u5 => lt u5 fun x7 => (if y2 = 0 then (if inb x7 4 = true then (if (K 19 (ix x7)) = 0 then (some 0) else (if inb x7 4 = true then (if (K 20 (ix x7)) ≤ y3 then (some 0) else ((f_X9_sideOf y3 K).bind fun u11 => if inb c1 2 = true then (if u11 = (K 6 (ix c1)) then ((f_X9_called c1 y3 K).bind fun u13 => if u13 = 0 then (some 0) else (some 1)) else (some 0)) else none)) else none)) else none) else (some 1) : Option (Int32)).bind fun v8 => lt v8 fun x15 => lt (y3 + 1) fun x16 => f_X9_needed_L16 c1 n x15 x16 K)
def f_X9_needed (p1 : Int32) (K : Mem) : Option (Int32) := if inb p1 2 = true then ((f_X9_calledOn p1 (1 - (K 6 (ix p1))) K).bind fun u1 => lt u1 fun x3 => lt 0 fun x4 => (f_X9_needed_L16 p1 70 x3 x4 K).bind fun v17 => if bb v17.1 = true then some v17.1 else none) else none
abbrev rmX9_needed : Room := { frames := 4, cells := 0, slots := 0, locals := 89 }
theorem iX9_needed_X9 : ∀ w ∈ u_ws RX9 TX9 37, w ∈ wsX9_needed := fun _ h => List.mem_cons_of_mem _ (List.mem_append_right _ h)
theorem mX9_needed_f27 : Cond.fieldLink RX9 27 "BarrierLightsModel" "side" "[I" ∈ wsX9_needed := by decide +kernel
theorem hdX9_calledOn : yX9_calledOn.cls = RX9 ∧ yX9_calledOn.cls ≠ "java/lang/invoke/MethodHandle" ∧ yX9_calledOn.cls ≠ "java/lang/invoke/VarHandle" ∧ (parseMethodDescriptor yX9_calledOn.desc).map (fun d => d.parameters.length) = some 2 := by decide +kernel
theorem mX9_needed_f67 : Cond.fieldLink RX9 67 "BarrierLightsModel" "state" "[I" ∈ wsX9_needed := by decide +kernel
theorem mX9_needed_f70 : Cond.fieldLink RX9 70 "BarrierLightsModel" "phase" "[I" ∈ wsX9_needed := by decide +kernel
set_option maxRecDepth 100000 in
set_option maxHeartbeats 4000000 in
theorem lp_X9_needed_L16 {l : Launch} {D : va_G} {ad : Nat → Nat} {aI aZ aS aF : ClassId} {G : jG} {c1 : Int32} (C : jC (EM l D ad aI aZ aS aF) G cX9_needed yX9_needed.cls wsX9_needed rmX9_needed 5) : ∀ (n : Nat) (y2 y3 : Int32) (K : Mem) (v : Int32 × Int32), f_X9_needed_L16 c1 n y2 y3 K = some v → jW (EM l D ad aI aZ aS aF) G K 88 [(0, .ref (ad 0)), (1, .int c1), (2, .int v.1), (3, .int v.2)] [] → jW (EM l D ad aI aZ aS aF) G K 16 [(0, .ref (ad 0)), (1, .int c1), (2, .int y2), (3, .int y3)] [] := by
  intro n
  induction n with
  | zero =>
    intro y2 y3 K v hf jj
    rw [f_X9_needed_L16] at hf
    cases hf
  | succ n ih =>
    intro y2 y3 K v hf jj
    rw [f_X9_needed_L16] at hf
    refine j_iload_n C 3 dX9_needed_16 rfl rfl ?_
    refine j_bipush C (v := 8) dX9_needed_17 (by decide) ?_
    refine j_icmp_ge C 88 dX9_needed_19 (by decide) hf (fun hf => ?_) (fun hf => ?_)
    · cases hf
      exact jj
    · refine j_iload_n C 1 dX9_needed_22 rfl rfl ?_
      refine j_iload_n C 3 dX9_needed_23 rfl rfl ?_
      obtain ⟨u5, h6, hf⟩ := bd hf
      refine j_cSI C [.int c1, .int y3] gX9_needed_X9_ringOf rfl hdX9_ringOf.2 ⟨⟨rfl, rfl⟩, Nat.le_of_ble_eq_true rfl, Nat.le_of_ble_eq_true rfl⟩ rfl (k_X9_ringOf h6) dX9_needed_24 rfl (Nat.le_of_ble_eq_true rfl) ?_
      refine j_istore C (fun y => [(4, .int y), (0, .ref (ad 0)), (1, .int c1), (2, .int y2), (3, .int y3)]) dX9_needed_27 (by decide) (fun _ => rfl) hf (fun x7 hf => ?_)
      refine j_iload_n C 3 dX9_needed_29 rfl rfl ?_
      obtain ⟨v8, h9, hf⟩ := bd hf
      have jj10 : jW (EM l D ad aI aZ aS aF) G K 81 [(0, .ref (ad 0)), (1, .int c1), (2, .int y2), (3, .int y3), (4, .int x7)] [.int v8] := by
        refine j_istore_n C (fun y => [(2, .int y), (0, .ref (ad 0)), (1, .int c1), (3, .int y3), (4, .int x7)]) dX9_needed_81 rfl (by decide) (fun _ => rfl) hf (fun x15 hf => ?_)
        refine j_iinc C (v := (y3 + 1)) 3 (fun y => [(3, .int y), (2, .int x15), (0, .ref (ad 0)), (1, .int c1), (4, .int x7)]) dX9_needed_82 rfl rfl (by decide) (fun _ => rfl) hf (fun x16 hf => ?_)
        refine j_goto C 16 dX9_needed_85 (by decide) ?_
        refine j_sub [2, 3, 1, 0] rfl ?_
        exact ih _ _ _ _ hf jj
      clear hf
      have hf := h9
      clear h9
      refine j_if_ne C 76 dX9_needed_30 (by decide) hf (fun hf => ?_) (fun hf => ?_)
      · refine j_aload_n C 1 dX9_needed_33 rfl rfl ?_
        refine j_get C 20 iX9_needed_X9 h_0 rfl (by decide) mX9_needed_f67 rfl rfl dX9_needed_34 ?_
        refine j_iload C 0 dX9_needed_37 rfl ?_
        refine j_iald C 0 h_19 rfl dX9_needed_39 hf (fun hf => ?_)
        refine j_if_eq C 80 dX9_needed_40 (by decide) hf (fun hf => ?_) (fun hf => ?_)
        · refine j_iconst C (v := 0) dX9_needed_80 (by decide) ?_
          cases hf
          refine j_sub [1, 2, 3, 4, 0] rfl ?_
          exact jj10
        · refine j_iload_n C 4 dX9_needed_43 rfl rfl ?_
          refine j_aload_n C 1 dX9_needed_44 rfl rfl ?_
          refine j_get C 21 iX9_needed_X9 h_0 rfl (by decide) mX9_needed_f70 rfl rfl dX9_needed_45 ?_
          refine j_iload C 0 dX9_needed_48 rfl ?_
          refine j_iald C 0 h_20 rfl dX9_needed_50 hf (fun hf => ?_)
          refine j_icmp_ge C 80 dX9_needed_51 (by decide) hf (fun hf => ?_) (fun hf => ?_)
          · refine j_iconst C (v := 0) dX9_needed_80 (by decide) ?_
            cases hf
            refine j_sub [1, 2, 3, 4, 0] rfl ?_
            exact jj10
          · refine j_iload_n C 4 dX9_needed_54 rfl rfl ?_
            obtain ⟨u11, h12, hf⟩ := bd hf
            refine j_cSI C [.int y3] gX9_needed_X9_sideOf rfl hdX9_sideOf.2 ⟨⟨rfl, rfl⟩, Nat.le_of_ble_eq_true rfl, Nat.le_of_ble_eq_true rfl⟩ rfl (k_X9_sideOf h12) dX9_needed_55 rfl (Nat.le_of_ble_eq_true rfl) ?_
            refine j_aload_n C 1 dX9_needed_58 rfl rfl ?_
            refine j_get C 7 iX9_needed_X9 h_0 rfl (by decide) mX9_needed_f27 rfl rfl dX9_needed_59 ?_
            refine j_iload_n C 2 dX9_needed_62 rfl rfl ?_
            refine j_iald C 0 h_6 rfl dX9_needed_63 hf (fun hf => ?_)
            refine j_icmp_ne C 80 dX9_needed_64 (by decide) hf (fun hf => ?_) (fun hf => ?_)
            · refine j_aload_n C 1 dX9_needed_67 rfl rfl ?_
              refine j_iload_n C 2 dX9_needed_68 rfl rfl ?_
              refine j_iload_n C 4 dX9_needed_69 rfl rfl ?_
              obtain ⟨u13, h14, hf⟩ := bd hf
              refine j_cVI C [.int c1, .int y3] gX9_needed_X9_called rfl hdX9_called ⟨⟨rfl, rfl⟩, Nat.le_of_ble_eq_true rfl, Nat.le_of_ble_eq_true rfl⟩ rfl h_0 rfl (k_X9_called h14) dX9_needed_70 rfl (Nat.le_of_ble_eq_true rfl) ?_
              refine j_if_eq C 80 dX9_needed_73 (by decide) hf (fun hf => ?_) (fun hf => ?_)
              · refine j_iconst C (v := 0) dX9_needed_80 (by decide) ?_
                cases hf
                refine j_sub [1, 2, 3, 4, 0] rfl ?_
                exact jj10
              · refine j_iconst C (v := 1) dX9_needed_76 (by decide) ?_
                refine j_goto C 81 dX9_needed_77 (by decide) ?_
                cases hf
                refine j_sub [1, 2, 3, 4, 0] rfl ?_
                exact jj10
            · refine j_iconst C (v := 0) dX9_needed_80 (by decide) ?_
              cases hf
              refine j_sub [1, 2, 3, 4, 0] rfl ?_
              exact jj10
      · refine j_iconst C (v := 1) dX9_needed_76 (by decide) ?_
        refine j_goto C 81 dX9_needed_77 (by decide) ?_
        cases hf
        refine j_sub [1, 2, 3, 4, 0] rfl ?_
        exact jj10
set_option maxRecDepth 100000 in
set_option maxHeartbeats 4000000 in
theorem k_X9_needed {l : Launch} {D : va_G} {ad : Nat → Nat} {aI aZ aS aF : ClassId} {p1 : Int32} {K : Mem} {u : Int32} (hf : f_X9_needed p1 K = some u) : cI (EM l D ad aI aZ aS aF) yX9_needed wsX9_needed rmX9_needed [.ref (ad 0), .int p1] K u K := by
  rw [f_X9_needed] at hf
  refine j_entI (cc := cX9_needed) (maxL := 5) (EM_ok l D ad aI aZ aS aF) (Or.inr rfl) (by decide) rfl (Nat.le_of_ble_eq_true rfl) (fun G C ret => ?_)
  refine j_sub [0, 1] (lv2 := [(0, .ref (ad 0)), (1, .int p1)]) rfl ?_
  refine j_aload_n C 0 dX9_needed_0 rfl rfl ?_
  refine j_iload_n C 1 dX9_needed_1 rfl rfl ?_
  refine j_iconst C (v := 1) dX9_needed_2 (by decide) ?_
  refine j_aload_n C 0 dX9_needed_3 rfl rfl ?_
  refine j_get C 7 iX9_needed_X9 h_0 rfl (by decide) mX9_needed_f27 rfl rfl dX9_needed_4 ?_
  refine j_iload_n C 1 dX9_needed_7 rfl rfl ?_
  refine j_iald C 0 h_6 rfl dX9_needed_8 hf (fun hf => ?_)
  refine j_isub C dX9_needed_9 ?_
  obtain ⟨u1, h2, hf⟩ := bd hf
  refine j_cVI C [.int p1, .int ((1 - (K 6 (ix p1))))] gX9_needed_X9_calledOn rfl hdX9_calledOn ⟨⟨rfl, rfl⟩, Nat.le_of_ble_eq_true rfl, Nat.le_of_ble_eq_true rfl⟩ rfl h_0 rfl (k_X9_calledOn h2) dX9_needed_10 rfl (Nat.le_of_ble_eq_true rfl) ?_
  refine j_istore_n C (fun y => [(2, .int y), (0, .ref (ad 0)), (1, .int p1)]) dX9_needed_13 rfl (by decide) (fun _ => rfl) hf (fun x3 hf => ?_)
  refine j_iconst C (v := 0) dX9_needed_14 (by decide) ?_
  refine j_istore_n C (fun y => [(3, .int y), (2, .int x3), (0, .ref (ad 0)), (1, .int p1)]) dX9_needed_15 rfl (by decide) (fun _ => rfl) hf (fun x4 hf => ?_)
  obtain ⟨v17, h18, hf⟩ := bd hf
  refine j_sub [2, 3, 1, 0] (lv2 := [(0, .ref (ad 0)), (1, .int p1), (2, .int x3), (3, .int x4)]) rfl ?_
  refine lp_X9_needed_L16 C 70 _ _ _ _ h18 ?_
  refine j_iload_n C 2 dX9_needed_88 rfl rfl ?_
  refine j_chk hf (fun hb19 hf => ?_)
  cases hf
  exact ret _ _ dX9_needed_89 (fun _ => hb19)
/-- BarrierLightsModel.forward(II)I -/
def f_X9_forward (p1 : Int32) (p2 : Int32) (K : Mem) : Option (Int32) := if inb p2 4 = true then (if (K 19 (ix p2)) = 0 then (some (-1)) else (if inb p2 4 = true then (if (jrem (K 20 (ix p2)) 2) = 1 then (some (-1)) else (if inb p2 4 = true then ((f_X9_called p1 ((K 20 (ix p2)) + 1) K).bind fun u1 => if u1 = 0 then (some (-1)) else (if inb p2 4 = true then (some ((K 20 (ix p2)) + 1)) else none)) else none)) else none)) else none
abbrev rmX9_forward : Room := { frames := 3, cells := 0, slots := 0, locals := 65 }
theorem iX9_forward_X9 : ∀ w ∈ u_ws RX9 TX9 37, w ∈ wsX9_forward := fun _ h => List.mem_cons_of_mem _ (List.mem_append_right _ h)
theorem mX9_forward_f67 : Cond.fieldLink RX9 67 "BarrierLightsModel" "state" "[I" ∈ wsX9_forward := by decide +kernel
theorem mX9_forward_f70 : Cond.fieldLink RX9 70 "BarrierLightsModel" "phase" "[I" ∈ wsX9_forward := by decide +kernel
set_option maxRecDepth 100000 in
set_option maxHeartbeats 4000000 in
theorem k_X9_forward {l : Launch} {D : va_G} {ad : Nat → Nat} {aI aZ aS aF : ClassId} {p1 : Int32} {p2 : Int32} {K : Mem} {u : Int32} (hf : f_X9_forward p1 p2 K = some u) : cI (EM l D ad aI aZ aS aF) yX9_forward wsX9_forward rmX9_forward [.ref (ad 0), .int p1, .int p2] K u K := by
  rw [f_X9_forward] at hf
  refine j_entI (cc := cX9_forward) (maxL := 3) (EM_ok l D ad aI aZ aS aF) (Or.inl rfl) (by decide) rfl (Nat.le_of_ble_eq_true rfl) (fun G C ret => ?_)
  refine j_sub [0, 1, 2] (lv2 := [(0, .ref (ad 0)), (1, .int p1), (2, .int p2)]) rfl ?_
  refine j_aload_n C 0 dX9_forward_0 rfl rfl ?_
  refine j_get C 20 iX9_forward_X9 h_0 rfl (by decide) mX9_forward_f67 rfl rfl dX9_forward_1 ?_
  refine j_iload_n C 2 dX9_forward_4 rfl rfl ?_
  refine j_iald C 0 h_19 rfl dX9_forward_5 hf (fun hf => ?_)
  refine j_if_eq C 21 dX9_forward_6 (by decide) hf (fun hf => ?_) (fun hf => ?_)
  · refine j_iconst C (v := (-1)) dX9_forward_21 (by decide) ?_
    cases hf
    exact ret _ _ dX9_forward_22 (fun h => by cases h)
  · refine j_aload_n C 0 dX9_forward_9 rfl rfl ?_
    refine j_get C 21 iX9_forward_X9 h_0 rfl (by decide) mX9_forward_f70 rfl rfl dX9_forward_10 ?_
    refine j_iload_n C 2 dX9_forward_13 rfl rfl ?_
    refine j_iald C 0 h_20 rfl dX9_forward_14 hf (fun hf => ?_)
    refine j_iconst C (v := 2) dX9_forward_15 (by decide) ?_
    refine j_irem C dX9_forward_16 (by decide) ?_
    refine j_iconst C (v := 1) dX9_forward_17 (by decide) ?_
    refine j_icmp_ne C 23 dX9_forward_18 (by decide) hf (fun hf => ?_) (fun hf => ?_)
    · refine j_iconst C (v := (-1)) dX9_forward_21 (by decide) ?_
      cases hf
      exact ret _ _ dX9_forward_22 (fun h => by cases h)
    · refine j_aload_n C 0 dX9_forward_23 rfl rfl ?_
      refine j_iload_n C 1 dX9_forward_24 rfl rfl ?_
      refine j_aload_n C 0 dX9_forward_25 rfl rfl ?_
      refine j_get C 21 iX9_forward_X9 h_0 rfl (by decide) mX9_forward_f70 rfl rfl dX9_forward_26 ?_
      refine j_iload_n C 2 dX9_forward_29 rfl rfl ?_
      refine j_iald C 0 h_20 rfl dX9_forward_30 hf (fun hf => ?_)
      refine j_iconst C (v := 1) dX9_forward_31 (by decide) ?_
      refine j_iadd C dX9_forward_32 ?_
      obtain ⟨u1, h2, hf⟩ := bd hf
      refine j_cVI C [.int p1, .int (((K 20 (ix p2)) + 1))] gX9_forward_X9_called rfl hdX9_called ⟨⟨rfl, rfl⟩, Nat.le_of_ble_eq_true rfl, Nat.le_of_ble_eq_true rfl⟩ rfl h_0 rfl (k_X9_called h2) dX9_forward_33 rfl (Nat.le_of_ble_eq_true rfl) ?_
      refine j_if_eq C 50 dX9_forward_36 (by decide) hf (fun hf => ?_) (fun hf => ?_)
      · refine j_iconst C (v := (-1)) dX9_forward_50 (by decide) ?_
        cases hf
        exact ret _ _ dX9_forward_51 (fun h => by cases h)
      · refine j_aload_n C 0 dX9_forward_39 rfl rfl ?_
        refine j_get C 21 iX9_forward_X9 h_0 rfl (by decide) mX9_forward_f70 rfl rfl dX9_forward_40 ?_
        refine j_iload_n C 2 dX9_forward_43 rfl rfl ?_
        refine j_iald C 0 h_20 rfl dX9_forward_44 hf (fun hf => ?_)
        refine j_iconst C (v := 1) dX9_forward_45 (by decide) ?_
        refine j_iadd C dX9_forward_46 ?_
        refine j_goto C 51 dX9_forward_47 (by decide) ?_
        cases hf
        exact ret _ _ dX9_forward_51 (fun h => by cases h)
/-- BarrierLightsModel.wanted(II)Z -/
def f_X9_wanted (p1 : Int32) (p2 : Int32) (K : Mem) : Option (Int32) := (f_X9_forward p1 p2 K).bind fun u1 => if u1 = (-1) then ((f_X9_needed p1 K).bind fun u3 => if u3 = 0 then (some 0) else (some 1)) else (some 1)
abbrev rmX9_wanted : Room := { frames := 5, cells := 0, slots := 0, locals := 113 }
theorem hdX9_forward : yX9_forward.cls = RX9 ∧ yX9_forward.cls ≠ "java/lang/invoke/MethodHandle" ∧ yX9_forward.cls ≠ "java/lang/invoke/VarHandle" ∧ (parseMethodDescriptor yX9_forward.desc).map (fun d => d.parameters.length) = some 2 := by decide +kernel
theorem hdX9_needed : yX9_needed.cls = RX9 ∧ yX9_needed.cls ≠ "java/lang/invoke/MethodHandle" ∧ yX9_needed.cls ≠ "java/lang/invoke/VarHandle" ∧ (parseMethodDescriptor yX9_needed.desc).map (fun d => d.parameters.length) = some 1 := by decide +kernel
set_option maxRecDepth 100000 in
set_option maxHeartbeats 4000000 in
theorem k_X9_wanted {l : Launch} {D : va_G} {ad : Nat → Nat} {aI aZ aS aF : ClassId} {p1 : Int32} {p2 : Int32} {K : Mem} {u : Int32} (hf : f_X9_wanted p1 p2 K = some u) : cI (EM l D ad aI aZ aS aF) yX9_wanted wsX9_wanted rmX9_wanted [.ref (ad 0), .int p1, .int p2] K u K := by
  rw [f_X9_wanted] at hf
  refine j_entI (cc := cX9_wanted) (maxL := 3) (EM_ok l D ad aI aZ aS aF) (Or.inr rfl) (by decide) rfl (Nat.le_of_ble_eq_true rfl) (fun G C ret => ?_)
  refine j_sub [0, 1, 2] (lv2 := [(0, .ref (ad 0)), (1, .int p1), (2, .int p2)]) rfl ?_
  refine j_aload_n C 0 dX9_wanted_0 rfl rfl ?_
  refine j_iload_n C 1 dX9_wanted_1 rfl rfl ?_
  refine j_iload_n C 2 dX9_wanted_2 rfl rfl ?_
  obtain ⟨u1, h2, hf⟩ := bd hf
  refine j_cVI C [.int p1, .int p2] gX9_wanted_X9_forward rfl hdX9_forward ⟨⟨rfl, rfl⟩, Nat.le_of_ble_eq_true rfl, Nat.le_of_ble_eq_true rfl⟩ rfl h_0 rfl (k_X9_forward h2) dX9_wanted_3 rfl (Nat.le_of_ble_eq_true rfl) ?_
  refine j_iconst C (v := (-1)) dX9_wanted_6 (by decide) ?_
  refine j_icmp_ne C 18 dX9_wanted_7 (by decide) hf (fun hf => ?_) (fun hf => ?_)
  · refine j_aload_n C 0 dX9_wanted_10 rfl rfl ?_
    refine j_iload_n C 1 dX9_wanted_11 rfl rfl ?_
    obtain ⟨u3, h4, hf⟩ := bd hf
    refine j_cVI C [.int p1] gX9_wanted_X9_needed rfl hdX9_needed ⟨⟨rfl, rfl⟩, Nat.le_of_ble_eq_true rfl, Nat.le_of_ble_eq_true rfl⟩ rfl h_0 rfl (k_X9_needed h4) dX9_wanted_12 rfl (Nat.le_of_ble_eq_true rfl) ?_
    refine j_if_eq C 22 dX9_wanted_15 (by decide) hf (fun hf => ?_) (fun hf => ?_)
    · refine j_iconst C (v := 0) dX9_wanted_22 (by decide) ?_
      cases hf
      exact ret _ _ dX9_wanted_23 (fun _ => rfl)
    · refine j_iconst C (v := 1) dX9_wanted_18 (by decide) ?_
      refine j_goto C 23 dX9_wanted_19 (by decide) ?_
      cases hf
      exact ret _ _ dX9_wanted_23 (fun _ => rfl)
  · refine j_iconst C (v := 1) dX9_wanted_18 (by decide) ?_
    refine j_goto C 23 dX9_wanted_19 (by decide) ?_
    cases hf
    exact ret _ _ dX9_wanted_23 (fun _ => rfl)
/-- BarrierLightsModel.inputOf(I)I -/
def f_X9_inputOf (p1 : Int32) (K : Mem) : Option (Int32) := if inb (2 * p1) 4 = true then ((if (K 28 (ix (2 * p1))) = 0 then (if inb ((2 * p1) + 1) 4 = true then (if (K 28 (ix ((2 * p1) + 1))) = 0 then (some (-1)) else (some ((2 * p1) + 1))) else none) else (some (2 * p1)) : Option (Int32)).bind fun v1 => lt v1 fun x4 => if x4 < 0 then (some (-1)) else (if inb x4 4 = true then (if (K 27 (ix x4)) < 0 then (some (-1)) else (if inb x4 4 = true then (if inb ((8 * p1) + (K 27 (ix x4))) 16 = true then (if (K 8 (ix ((8 * p1) + (K 27 (ix x4))))) = 0 then (some (-1)) else (some x4)) else none) else none)) else none)) else none
abbrev rmX9_inputOf : Room := { frames := 0, cells := 0, slots := 0, locals := 0 }
theorem iX9_inputOf_X9 : ∀ w ∈ u_ws RX9 TX9 37, w ∈ wsX9_inputOf := fun _ h => List.mem_cons_of_mem _ (List.mem_append_right _ h)
theorem mX9_inputOf_f94 : Cond.fieldLink RX9 94 "BarrierLightsModel" "inputs" "[Z" ∈ wsX9_inputOf := by decide +kernel
theorem mX9_inputOf_f91 : Cond.fieldLink RX9 91 "BarrierLightsModel" "targets" "[I" ∈ wsX9_inputOf := by decide +kernel
theorem mX9_inputOf_f33 : Cond.fieldLink RX9 33 "BarrierLightsModel" "used" "[Z" ∈ wsX9_inputOf := by decide +kernel
set_option maxRecDepth 100000 in
set_option maxHeartbeats 4000000 in
theorem k_X9_inputOf {l : Launch} {D : va_G} {ad : Nat → Nat} {aI aZ aS aF : ClassId} {p1 : Int32} {K : Mem} {u : Int32} (hf : f_X9_inputOf p1 K = some u) : cI (EM l D ad aI aZ aS aF) yX9_inputOf wsX9_inputOf rmX9_inputOf [.ref (ad 0), .int p1] K u K := by
  rw [f_X9_inputOf] at hf
  refine j_entI (cc := cX9_inputOf) (maxL := 3) (EM_ok l D ad aI aZ aS aF) (Or.inl rfl) (by decide) rfl (Nat.le_of_ble_eq_true rfl) (fun G C ret => ?_)
  refine j_sub [0, 1] (lv2 := [(0, .ref (ad 0)), (1, .int p1)]) rfl ?_
  refine j_aload_n C 0 dX9_inputOf_0 rfl rfl ?_
  refine j_get C 29 iX9_inputOf_X9 h_0 rfl (by decide) mX9_inputOf_f94 rfl rfl dX9_inputOf_1 ?_
  refine j_iconst C (v := 2) dX9_inputOf_4 (by decide) ?_
  refine j_iload_n C 1 dX9_inputOf_5 rfl rfl ?_
  refine j_imul C dX9_inputOf_6 ?_
  refine j_zald C 1 h_28 rfl dX9_inputOf_7 hf (fun hf => ?_)
  obtain ⟨v1, h2, hf⟩ := bd hf
  have jj3 : jW (EM l D ad aI aZ aS aF) G K 39 [(0, .ref (ad 0)), (1, .int p1)] [.int v1] := by
    refine j_istore_n C (fun y => [(2, .int y), (0, .ref (ad 0)), (1, .int p1)]) dX9_inputOf_39 rfl (by decide) (fun _ => rfl) hf (fun x4 hf => ?_)
    refine j_iload_n C 0 dX9_inputOf_40 rfl rfl ?_
    refine j_if_lt C 76 dX9_inputOf_41 (by decide) hf (fun hf => ?_) (fun hf => ?_)
    · refine j_iconst C (v := (-1)) dX9_inputOf_76 (by decide) ?_
      cases hf
      exact ret _ _ dX9_inputOf_77 (fun h => by cases h)
    · refine j_aload_n C 1 dX9_inputOf_44 rfl rfl ?_
      refine j_get C 28 iX9_inputOf_X9 h_0 rfl (by decide) mX9_inputOf_f91 rfl rfl dX9_inputOf_45 ?_
      refine j_iload_n C 0 dX9_inputOf_48 rfl rfl ?_
      refine j_iald C 0 h_27 rfl dX9_inputOf_49 hf (fun hf => ?_)
      refine j_if_lt C 76 dX9_inputOf_50 (by decide) hf (fun hf => ?_) (fun hf => ?_)
      · refine j_iconst C (v := (-1)) dX9_inputOf_76 (by decide) ?_
        cases hf
        exact ret _ _ dX9_inputOf_77 (fun h => by cases h)
      · refine j_aload_n C 1 dX9_inputOf_53 rfl rfl ?_
        refine j_get C 9 iX9_inputOf_X9 h_0 rfl (by decide) mX9_inputOf_f33 rfl rfl dX9_inputOf_54 ?_
        refine j_bipush C (v := 8) dX9_inputOf_57 (by decide) ?_
        refine j_iload_n C 2 dX9_inputOf_59 rfl rfl ?_
        refine j_imul C dX9_inputOf_60 ?_
        refine j_aload_n C 1 dX9_inputOf_61 rfl rfl ?_
        refine j_get C 28 iX9_inputOf_X9 h_0 rfl (by decide) mX9_inputOf_f91 rfl rfl dX9_inputOf_62 ?_
        refine j_iload_n C 0 dX9_inputOf_65 rfl rfl ?_
        refine j_iald C 0 h_27 rfl dX9_inputOf_66 hf (fun hf => ?_)
        refine j_iadd C dX9_inputOf_67 ?_
        refine j_zald C 1 h_8 rfl dX9_inputOf_68 hf (fun hf => ?_)
        refine j_if_eq C 76 dX9_inputOf_69 (by decide) hf (fun hf => ?_) (fun hf => ?_)
        · refine j_iconst C (v := (-1)) dX9_inputOf_76 (by decide) ?_
          cases hf
          exact ret _ _ dX9_inputOf_77 (fun h => by cases h)
        · refine j_iload_n C 0 dX9_inputOf_72 rfl rfl ?_
          refine j_goto C 77 dX9_inputOf_73 (by decide) ?_
          cases hf
          exact ret _ _ dX9_inputOf_77 (fun h => by cases h)
  clear hf
  have hf := h2
  clear h2
  refine j_if_eq C 17 dX9_inputOf_8 (by decide) hf (fun hf => ?_) (fun hf => ?_)
  · refine j_aload_n C 0 dX9_inputOf_17 rfl rfl ?_
    refine j_get C 29 iX9_inputOf_X9 h_0 rfl (by decide) mX9_inputOf_f94 rfl rfl dX9_inputOf_18 ?_
    refine j_iconst C (v := 2) dX9_inputOf_21 (by decide) ?_
    refine j_iload_n C 1 dX9_inputOf_22 rfl rfl ?_
    refine j_imul C dX9_inputOf_23 ?_
    refine j_iconst C (v := 1) dX9_inputOf_24 (by decide) ?_
    refine j_iadd C dX9_inputOf_25 ?_
    refine j_zald C 1 h_28 rfl dX9_inputOf_26 hf (fun hf => ?_)
    refine j_if_eq C 38 dX9_inputOf_27 (by decide) hf (fun hf => ?_) (fun hf => ?_)
    · refine j_iconst C (v := (-1)) dX9_inputOf_38 (by decide) ?_
      cases hf
      exact jj3
    · refine j_iconst C (v := 2) dX9_inputOf_30 (by decide) ?_
      refine j_iload_n C 1 dX9_inputOf_31 rfl rfl ?_
      refine j_imul C dX9_inputOf_32 ?_
      refine j_iconst C (v := 1) dX9_inputOf_33 (by decide) ?_
      refine j_iadd C dX9_inputOf_34 ?_
      refine j_goto C 39 dX9_inputOf_35 (by decide) ?_
      cases hf
      exact jj3
  · refine j_iconst C (v := 2) dX9_inputOf_11 (by decide) ?_
    refine j_iload_n C 1 dX9_inputOf_12 rfl rfl ?_
    refine j_imul C dX9_inputOf_13 ?_
    refine j_goto C 39 dX9_inputOf_14 (by decide) ?_
    cases hf
    exact jj3
/-- BarrierLightsModel.sense(I)V -/
def f_X9_sense_L5 (c1 : Int32) : Nat → Int32 → Mem → Option (Int32 × Mem)
  | 0, _, _ => none
  | n + 1, y2, K => if ((8 * c1) + 8) ≤ y2 then (some (y2, K)) else (if inb y2 16 = true then ((if (K 11 (ix y2)) = 0 then (some 0) else (if inb y2 16 = true then (if 100 ≤ (K 12 (ix y2)) then (some 100) else (if inb y2 16 = true then (some ((K 12 (ix y2)) + 1)) else none)) else none) : Option (Int32)).bind fun v2 => if inb y2 16 = true then (st K 12 (ix y2) (vp_nar .short (js16 v2)) fun K5 => if inb y2 16 = true then (if nn (FP.fmul (((K5 13 (ix y2))).toUInt32) 1063256064) = true then (if inb y2 16 = true then (st K5 13 (ix y2) ((FP.fmul (((K5 13 (ix y2))).toUInt32) 1063256064)).toInt32 fun K6 => if inb y2 16 = true then ((if (K6 11 (ix y2)) = 0 then (some K6) else (if inb y2 16 = true then (if nn (FP.fadd (((K6 13 (ix y2))).toUInt32) 1040187392) = true then (if inb y2 16 = true then (st K6 13 (ix y2) ((FP.fadd (((K6 13 (ix y2))).toUInt32) 1040187392)).toInt32 fun K10 => some K10) else none) else none) else none) : Option (Mem)).bind fun v7 => lt (y2 + 1) fun x11 => f_X9_sense_L5 c1 n x11 v7) else none) else none) else none) else none) else none) else none)
def f_X9_sense (p1 : Int32) (K : Mem) : Option (Mem) := lt (8 * p1) fun x1 => (f_X9_sense_L5 p1 70 x1 K).bind fun v12 => some v12.2
abbrev rmX9_sense : Room := { frames := 0, cells := 0, slots := 0, locals := 0 }
theorem iX9_sense_X9 : ∀ w ∈ u_ws RX9 TX9 37, w ∈ wsX9_sense := fun _ h => List.mem_cons_of_mem _ (List.mem_append_right _ h)
theorem mX9_sense_f45 : Cond.fieldLink RX9 45 "BarrierLightsModel" "onTime" "[S" ∈ wsX9_sense := by decide +kernel
theorem mX9_sense_f42 : Cond.fieldLink RX9 42 "BarrierLightsModel" "on" "[Z" ∈ wsX9_sense := by decide +kernel
theorem mX9_sense_f48 : Cond.fieldLink RX9 48 "BarrierLightsModel" "occupied" "[F" ∈ wsX9_sense := by decide +kernel
theorem mX9_sense_c170 : Cond.constantFloat RX9 170 1063256064 ∈ wsX9_sense := by decide +kernel
theorem mX9_sense_c171 : Cond.constantFloat RX9 171 1040187392 ∈ wsX9_sense := by decide +kernel
set_option maxRecDepth 100000 in
set_option maxHeartbeats 4000000 in
theorem lp_X9_sense_L5 {l : Launch} {D : va_G} {ad : Nat → Nat} {aI aZ aS aF : ClassId} {G : jG} {c1 : Int32} (C : jC (EM l D ad aI aZ aS aF) G cX9_sense yX9_sense.cls wsX9_sense rmX9_sense 3) : ∀ (n : Nat) (y2 : Int32) (K : Mem) (v : Int32 × Mem), f_X9_sense_L5 c1 n y2 K = some v → jW (EM l D ad aI aZ aS aF) G v.2 105 [(0, .ref (ad 0)), (1, .int c1), (2, .int v.1)] [] → jW (EM l D ad aI aZ aS aF) G K 5 [(0, .ref (ad 0)), (1, .int c1), (2, .int y2)] [] := by
  intro n
  induction n with
  | zero =>
    intro y2 K v hf jj
    rw [f_X9_sense_L5] at hf
    cases hf
  | succ n ih =>
    intro y2 K v hf jj
    rw [f_X9_sense_L5] at hf
    refine j_iload_n C 2 dX9_sense_5 rfl rfl ?_
    refine j_bipush C (v := 8) dX9_sense_6 (by decide) ?_
    refine j_iload_n C 1 dX9_sense_8 rfl rfl ?_
    refine j_imul C dX9_sense_9 ?_
    refine j_bipush C (v := 8) dX9_sense_10 (by decide) ?_
    refine j_iadd C dX9_sense_12 ?_
    refine j_icmp_ge C 105 dX9_sense_13 (by decide) hf (fun hf => ?_) (fun hf => ?_)
    · cases hf
      exact jj
    · refine j_aload_n C 0 dX9_sense_16 rfl rfl ?_
      refine j_get C 13 iX9_sense_X9 h_0 rfl (by decide) mX9_sense_f45 rfl rfl dX9_sense_17 ?_
      refine j_iload_n C 2 dX9_sense_20 rfl rfl ?_
      refine j_aload_n C 0 dX9_sense_21 rfl rfl ?_
      refine j_get C 12 iX9_sense_X9 h_0 rfl (by decide) mX9_sense_f42 rfl rfl dX9_sense_22 ?_
      refine j_iload_n C 2 dX9_sense_25 rfl rfl ?_
      refine j_zald C 1 h_11 rfl dX9_sense_26 hf (fun hf => ?_)
      obtain ⟨v2, h3, hf⟩ := bd hf
      have jj4 : jW (EM l D ad aI aZ aS aF) G K 58 [(0, .ref (ad 0)), (1, .int c1), (2, .int y2)] [.int v2, .int y2, .ref (ad 12)] := by
        refine j_i2s C dX9_sense_58 ?_
        refine j_sast C 2 h_12 (t_12 _ _) rfl dX9_sense_59 hf (fun K5 hf => ?_)
        refine j_aload_n C 0 dX9_sense_60 rfl rfl ?_
        refine j_get C 14 iX9_sense_X9 h_0 rfl (by decide) mX9_sense_f48 rfl rfl dX9_sense_61 ?_
        refine j_iload_n C 2 dX9_sense_64 rfl rfl ?_
        refine j_aload_n C 0 dX9_sense_65 rfl rfl ?_
        refine j_get C 14 iX9_sense_X9 h_0 rfl (by decide) mX9_sense_f48 rfl rfl dX9_sense_66 ?_
        refine j_iload_n C 2 dX9_sense_69 rfl rfl ?_
        refine j_fald C 3 h_13 rfl dX9_sense_70 hf (fun hf => ?_)
        refine j_ldcf C mX9_sense_c170 dX9_sense_71 ?_
        refine j_fmul C dX9_sense_73 hf (fun hf => ?_)
        refine j_fast C 3 h_13 (t_13 _ _) rfl dX9_sense_74 hf (fun K6 hf => ?_)
        refine j_aload_n C 0 dX9_sense_75 rfl rfl ?_
        refine j_get C 12 iX9_sense_X9 h_0 rfl (by decide) mX9_sense_f42 rfl rfl dX9_sense_76 ?_
        refine j_iload_n C 2 dX9_sense_79 rfl rfl ?_
        refine j_zald C 1 h_11 rfl dX9_sense_80 hf (fun hf => ?_)
        obtain ⟨v7, h8, hf⟩ := bd hf
        have jj9 : jW (EM l D ad aI aZ aS aF) G v7 99 [(0, .ref (ad 0)), (1, .int c1), (2, .int y2)] [] := by
          refine j_iinc C (v := (y2 + 1)) 2 (fun y => [(2, .int y), (0, .ref (ad 0)), (1, .int c1)]) dX9_sense_99 rfl rfl (by decide) (fun _ => rfl) hf (fun x11 hf => ?_)
          refine j_goto C 5 dX9_sense_102 (by decide) ?_
          refine j_sub [1, 2, 0] rfl ?_
          exact ih _ _ _ hf jj
        clear hf
        have hf := h8
        clear h8
        refine j_if_eq C 99 dX9_sense_81 (by decide) hf (fun hf => ?_) (fun hf => ?_)
        · cases hf
          exact jj9
        · refine j_aload_n C 0 dX9_sense_84 rfl rfl ?_
          refine j_get C 14 iX9_sense_X9 h_0 rfl (by decide) mX9_sense_f48 rfl rfl dX9_sense_85 ?_
          refine j_iload_n C 2 dX9_sense_88 rfl rfl ?_
          refine j_aload_n C 0 dX9_sense_89 rfl rfl ?_
          refine j_get C 14 iX9_sense_X9 h_0 rfl (by decide) mX9_sense_f48 rfl rfl dX9_sense_90 ?_
          refine j_iload_n C 2 dX9_sense_93 rfl rfl ?_
          refine j_fald C 3 h_13 rfl dX9_sense_94 hf (fun hf => ?_)
          refine j_ldcf C mX9_sense_c171 dX9_sense_95 ?_
          refine j_fadd C dX9_sense_97 hf (fun hf => ?_)
          refine j_fast C 3 h_13 (t_13 _ _) rfl dX9_sense_98 hf (fun K10 hf => ?_)
          cases hf
          exact jj9
      clear hf
      have hf := h3
      clear h3
      refine j_if_ne C 34 dX9_sense_27 (by decide) hf (fun hf => ?_) (fun hf => ?_)
      · refine j_iconst C (v := 0) dX9_sense_30 (by decide) ?_
        refine j_goto C 58 dX9_sense_31 (by decide) ?_
        cases hf
        exact jj4
      · refine j_aload_n C 0 dX9_sense_34 rfl rfl ?_
        refine j_get C 13 iX9_sense_X9 h_0 rfl (by decide) mX9_sense_f45 rfl rfl dX9_sense_35 ?_
        refine j_iload_n C 2 dX9_sense_38 rfl rfl ?_
        refine j_sald C 2 h_12 rfl dX9_sense_39 hf (fun hf => ?_)
        refine j_bipush C (v := 100) dX9_sense_40 (by decide) ?_
        refine j_icmp_ge C 56 dX9_sense_42 (by decide) hf (fun hf => ?_) (fun hf => ?_)
        · refine j_bipush C (v := 100) dX9_sense_56 (by decide) ?_
          cases hf
          exact jj4
        · refine j_aload_n C 0 dX9_sense_45 rfl rfl ?_
          refine j_get C 13 iX9_sense_X9 h_0 rfl (by decide) mX9_sense_f45 rfl rfl dX9_sense_46 ?_
          refine j_iload_n C 2 dX9_sense_49 rfl rfl ?_
          refine j_sald C 2 h_12 rfl dX9_sense_50 hf (fun hf => ?_)
          refine j_iconst C (v := 1) dX9_sense_51 (by decide) ?_
          refine j_iadd C dX9_sense_52 ?_
          refine j_goto C 58 dX9_sense_53 (by decide) ?_
          cases hf
          exact jj4
set_option maxRecDepth 100000 in
set_option maxHeartbeats 4000000 in
theorem k_X9_sense {l : Launch} {D : va_G} {ad : Nat → Nat} {aI aZ aS aF : ClassId} {p1 : Int32} {K : Mem} {u : Mem} (hf : f_X9_sense p1 K = some u) : cV (EM l D ad aI aZ aS aF) yX9_sense wsX9_sense rmX9_sense [.ref (ad 0), .int p1] K u := by
  rw [f_X9_sense] at hf
  refine j_entV (cc := cX9_sense) (maxL := 3) (EM_ok l D ad aI aZ aS aF) (by decide) rfl (Nat.le_of_ble_eq_true rfl) (fun G C ret => ?_)
  refine j_sub [0, 1] (lv2 := [(0, .ref (ad 0)), (1, .int p1)]) rfl ?_
  refine j_bipush C (v := 8) dX9_sense_0 (by decide) ?_
  refine j_iload_n C 1 dX9_sense_2 rfl rfl ?_
  refine j_imul C dX9_sense_3 ?_
  refine j_istore_n C (fun y => [(2, .int y), (0, .ref (ad 0)), (1, .int p1)]) dX9_sense_4 rfl (by decide) (fun _ => rfl) hf (fun x1 hf => ?_)
  obtain ⟨v12, h13, hf⟩ := bd hf
  refine j_sub [1, 2, 0] (lv2 := [(0, .ref (ad 0)), (1, .int p1), (2, .int x1)]) rfl ?_
  refine lp_X9_sense_L5 C 70 _ _ _ h13 ?_
  cases hf
  exact ret _ _ dX9_sense_105
