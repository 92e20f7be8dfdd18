/-- BarrierLights$Controller.firstOfSide(II)I -/
def f_X0_firstOfSide (b : Nat) (p1 : Int32) (p2 : Int32) (K : Mem) : Option (Int32) := lt ((p1 * 4) + ((K b 12) * 2)) fun x1 => (f_X8_bit x1 K).bind fun u2 => if (p2 &&& u2) = 0 then ((f_X8_bit (x1 + 1) K).bind fun u4 => if (p2 &&& u4) = 0 then (some (-1)) else (some (x1 + 1))) else (some x1)
abbrev rmX0_firstOfSide : Room := { frames := 1, cells := 0, slots := 0, locals := 20 }
theorem iX0_firstOfSide_X0 : ∀ w ∈ u_ws RX0 TX0 16, w ∈ wsX0_firstOfSide := fun _ h => List.mem_cons_of_mem _ (List.mem_append_right _ h)
theorem mX0_firstOfSide_f73 : Cond.fieldLink RX0 73 "BarrierLights$Controller" "side" "I" ∈ wsX0_firstOfSide := by decide +kernel
theorem mX0_firstOfSide_iX8 : Cond.initialized RX8 ∈ wsX0_firstOfSide := by decide +kernel
theorem mX0_firstOfSide_sX8_bit : Cond.static yX8_bit ∈ wsX0_firstOfSide := by decide +kernel
set_option maxRecDepth 100000 in
set_option maxHeartbeats 4000000 in
theorem k_X0_firstOfSide {l : Launch} {D : va_G} {ad : Nat → Nat} {aI aZ aF : ClassId} {b : Nat} {p1 : Int32} {p2 : Int32} (hb : isC b) {K : Mem} {u : Int32} (hf : f_X0_firstOfSide b p1 p2 K = some u) : cI (EC l D ad aI aZ aF) yX0_firstOfSide wsX0_firstOfSide rmX0_firstOfSide [.ref (ad b), .int p1, .int p2] K u K := by
  rw [f_X0_firstOfSide] at hf
  refine j_entI (cc := cX0_firstOfSide) (maxL := 4) (EC_ok l D ad aI aZ aF) (Or.inl rfl) (by decide) rfl (Nat.le_of_ble_eq_true rfl) (fun G C ret => ?_)
  refine j_sub [0, 1, 2] (lv2 := [(0, .ref (ad b)), (1, .int p1), (2, .int p2)]) rfl ?_
  refine j_iload_n C 1 dX0_firstOfSide_0 rfl rfl ?_
  refine j_iconst C (v := 4) dX0_firstOfSide_1 (by decide) ?_
  refine j_imul C dX0_firstOfSide_2 ?_
  refine j_aload_n C 0 dX0_firstOfSide_3 rfl rfl ?_
  refine j_get C 12 iX0_firstOfSide_X0 (g_C hb) rfl (by decide) mX0_firstOfSide_f73 rfl rfl dX0_firstOfSide_4 ?_
  refine j_iconst C (v := 2) dX0_firstOfSide_7 (by decide) ?_
  refine j_imul C dX0_firstOfSide_8 ?_
  refine j_iadd C dX0_firstOfSide_9 ?_
  refine j_istore_n C (fun y => [(3, .int y), (0, .ref (ad b)), (1, .int p1), (2, .int p2)]) dX0_firstOfSide_10 rfl (by decide) (fun _ => rfl) hf (fun x1 hf => ?_)
  refine j_iload_n C 3 dX0_firstOfSide_11 rfl rfl ?_
  refine j_iload_n C 0 dX0_firstOfSide_12 rfl rfl ?_
  obtain ⟨u2, h3, hf⟩ := bd hf
  refine j_cNI C [.int x1] gX0_firstOfSide_X8_bit_n104 rfl nm_RX0_104 mX0_firstOfSide_iX8 mX0_firstOfSide_sX8_bit hdX8_bit.2 ⟨⟨rfl, rfl⟩, Nat.le_of_ble_eq_true rfl, Nat.le_of_ble_eq_true rfl⟩ rfl (k_X8_bit h3) dX0_firstOfSide_13 rfl (Nat.le_of_ble_eq_true rfl) ?_
  refine j_iand C dX0_firstOfSide_16 ?_
  refine j_if_eq C 22 dX0_firstOfSide_17 (by decide) hf (fun hf => ?_) (fun hf => ?_)
  · refine j_iload_n C 3 dX0_firstOfSide_22 rfl rfl ?_
    refine j_iload_n C 0 dX0_firstOfSide_23 rfl rfl ?_
    refine j_iconst C (v := 1) dX0_firstOfSide_24 (by decide) ?_
    refine j_iadd C dX0_firstOfSide_25 ?_
    obtain ⟨u4, h5, hf⟩ := bd hf
    refine j_cNI C [.int ((x1 + 1))] gX0_firstOfSide_X8_bit_n104 rfl nm_RX0_104 mX0_firstOfSide_iX8 mX0_firstOfSide_sX8_bit hdX8_bit.2 ⟨⟨rfl, rfl⟩, Nat.le_of_ble_eq_true rfl, Nat.le_of_ble_eq_true rfl⟩ rfl (k_X8_bit h5) dX0_firstOfSide_26 rfl (Nat.le_of_ble_eq_true rfl) ?_
    refine j_iand C dX0_firstOfSide_29 ?_
    refine j_if_eq C 39 dX0_firstOfSide_30 (by decide) hf (fun hf => ?_) (fun hf => ?_)
    · refine j_iconst C (v := (-1)) dX0_firstOfSide_39 (by decide) ?_
      cases hf
      exact ret _ _ dX0_firstOfSide_40 (fun h => by cases h)
    · refine j_iload_n C 0 dX0_firstOfSide_33 rfl rfl ?_
      refine j_iconst C (v := 1) dX0_firstOfSide_34 (by decide) ?_
      refine j_iadd C dX0_firstOfSide_35 ?_
      refine j_goto C 40 dX0_firstOfSide_36 (by decide) ?_
      cases hf
      exact ret _ _ dX0_firstOfSide_40 (fun h => by cases h)
  · refine j_iload_n C 0 dX0_firstOfSide_20 rfl rfl ?_
    cases hf
    exact ret _ _ dX0_firstOfSide_21 (fun h => by cases h)
/-- BarrierLights$Controller.cross(I)V -/
def f_X0_cross_L26 (c0 : Nat) (c1 : Int32) : Nat → Int32 → Mem → Option (Int32 × Mem)
  | 0, _, _ => none
  | n + 1, y2, K => if 2 ≤ y2 then (some (y2, K)) else ((f_X0_firstOfSide c0 y2 c1 K).bind fun u8 => lt u8 fun x10 => (if x10 = (-1) then ((f_X0_firstOfSide c0 y2 (K c0 10) K).bind fun u14 => some u14) else (some x10) : Option (Int32)).bind fun v11 => lt v11 fun x16 => (if x16 = (-1) then (some K) else ((f_X0_ring c0 y2 K).bind fun u20 => (f_X0_begin c0 u20 x16 K).bind fun u23 => some u23) : Option (Mem)).bind fun v17 => lt (y2 + 1) fun x25 => f_X0_cross_L26 c0 c1 n x25 v17)
def f_X0_cross (b : Nat) (p1 : Int32) (K : Mem) : Option (Mem) := (f_X8_phasesOfSide (1 - (K b 12)) K).bind fun u1 => (if (p1 &&& u1) = 0 then (some K) else (st K b 12 (1 - (K b 12)) fun K6 => some K6) : Option (Mem)).bind fun v3 => lt 0 fun x7 => (f_X0_cross_L26 b p1 70 x7 v3).bind fun v26 => some v26.2
abbrev rmX0_cross : Room := { frames := 3, cells := 0, slots := 0, locals := 67 }
theorem iX0_cross_X0 : ∀ w ∈ u_ws RX0 TX0 16, w ∈ wsX0_cross := fun _ h => List.mem_cons_of_mem _ (List.mem_append_left _ (List.mem_append_left _ (List.mem_append_left _ (List.mem_append_right _ h))))
theorem mX0_cross_f73 : Cond.fieldLink RX0 73 "BarrierLights$Controller" "side" "I" ∈ wsX0_cross := by decide +kernel
theorem mX0_cross_iX8 : Cond.initialized RX8 ∈ wsX0_cross := by decide +kernel
theorem mX0_cross_sX8_phasesOfSide : Cond.static yX8_phasesOfSide ∈ wsX0_cross := by decide +kernel
theorem hdX0_firstOfSide : yX0_firstOfSide.cls = RX0 ∧ yX0_firstOfSide.cls ≠ "java/lang/invoke/MethodHandle" ∧ yX0_firstOfSide.cls ≠ "java/lang/invoke/VarHandle" ∧ (parseMethodDescriptor yX0_firstOfSide.desc).map (fun d => d.parameters.length) = some 2 := by decide +kernel
theorem mX0_cross_f67 : Cond.fieldLink RX0 67 "BarrierLights$Controller" "used" "I" ∈ wsX0_cross := by decide +kernel
set_option maxRecDepth 100000 in
set_option maxHeartbeats 4000000 in
theorem lp_X0_cross_L26 {l : Launch} {D : va_G} {ad : Nat → Nat} {aI aZ aF : ClassId} {G : jG} {c0 : Nat} {c1 : Int32} (hc0 : isC c0) (C : jC (EC l D ad aI aZ aF) G cX0_cross yX0_cross.cls wsX0_cross rmX0_cross 5) : ∀ (n : Nat) (y2 : Int32) (K : Mem) (v : Int32 × Mem), f_X0_cross_L26 c0 c1 n y2 K = some v → jW (EC l D ad aI aZ aF) G v.2 81 [(0, .ref (ad c0)), (1, .int c1), (2, .int v.1)] [] → jW (EC l D ad aI aZ aF) G K 26 [(0, .ref (ad c0)), (1, .int c1), (2, .int y2)] [] := by
  intro n
  induction n with
  | zero =>
    intro y2 K v hf jj
    rw [f_X0_cross_L26] at hf
    cases hf
  | succ n ih =>
    intro y2 K v hf jj
    rw [f_X0_cross_L26] at hf
    refine j_iload_n C 2 dX0_cross_26 rfl rfl ?_
    refine j_iconst C (v := 2) dX0_cross_27 (by decide) ?_
    refine j_icmp_ge C 81 dX0_cross_28 (by decide) hf (fun hf => ?_) (fun hf => ?_)
    · cases hf
      exact jj
    · refine j_aload_n C 0 dX0_cross_31 rfl rfl ?_
      refine j_iload_n C 2 dX0_cross_32 rfl rfl ?_
      refine j_iload_n C 1 dX0_cross_33 rfl rfl ?_
      obtain ⟨u8, h9, hf⟩ := bd hf
      refine j_cVI C [.int y2, .int c1] gX0_cross_X0_firstOfSide rfl hdX0_firstOfSide ⟨⟨rfl, rfl⟩, Nat.le_of_ble_eq_true rfl, Nat.le_of_ble_eq_true rfl⟩ rfl (g_C hc0) rfl (k_X0_firstOfSide hc0 h9) dX0_cross_34 rfl (Nat.le_of_ble_eq_true rfl) ?_
      refine j_istore_n C (fun y => [(3, .int y), (0, .ref (ad c0)), (1, .int c1), (2, .int y2)]) dX0_cross_37 rfl (by decide) (fun _ => rfl) hf (fun x10 hf => ?_)
      refine j_iload_n C 0 dX0_cross_38 rfl rfl ?_
      refine j_iconst C (v := (-1)) dX0_cross_39 (by decide) ?_
      obtain ⟨v11, h12, hf⟩ := bd hf
      have jj13 : jW (EC l D ad aI aZ aF) G K 56 [(0, .ref (ad c0)), (1, .int c1), (2, .int y2), (3, .int x10)] [.int v11] := by
        refine j_istore C (fun y => [(4, .int y), (0, .ref (ad c0)), (1, .int c1), (2, .int y2), (3, .int x10)]) dX0_cross_56 (by decide) (fun _ => rfl) hf (fun x16 hf => ?_)
        refine j_iload C 0 dX0_cross_58 rfl ?_
        refine j_iconst C (v := (-1)) dX0_cross_60 (by decide) ?_
        obtain ⟨v17, h18, hf⟩ := bd hf
        have jj19 : jW (EC l D ad aI aZ aF) G v17 75 [(0, .ref (ad c0)), (1, .int c1), (2, .int y2), (3, .int x10), (4, .int x16)] [] := by
          refine j_iinc C (v := (y2 + 1)) 2 (fun y => [(2, .int y), (0, .ref (ad c0)), (1, .int c1), (3, .int x10), (4, .int x16)]) dX0_cross_75 rfl rfl (by decide) (fun _ => rfl) hf (fun x25 hf => ?_)
          refine j_goto C 26 dX0_cross_78 (by decide) ?_
          refine j_sub [1, 2, 0] rfl ?_
          exact ih _ _ _ hf jj
        clear hf
        have hf := h18
        clear h18
        refine j_icmp_eq C 75 dX0_cross_61 (by decide) hf (fun hf => ?_) (fun hf => ?_)
        · cases hf
          refine j_sub [1, 2, 3, 4, 0] rfl ?_
          exact jj19
        · refine j_aload_n C 1 dX0_cross_64 rfl rfl ?_
          refine j_aload_n C 1 dX0_cross_65 rfl rfl ?_
          refine j_iload_n C 3 dX0_cross_66 rfl rfl ?_
          obtain ⟨u20, h21, hf⟩ := bd hf
          refine j_cVR C [.int y2] gX0_cross_X0_ring rfl hdX0_ring ⟨⟨rfl, rfl⟩, Nat.le_of_ble_eq_true rfl, Nat.le_of_ble_eq_true rfl⟩ rfl (g_C hc0) rfl (k_X0_ring hc0 h21) dX0_cross_67 rfl (Nat.le_of_ble_eq_true rfl) ?_
          have hk22 := q_X0_ring hc0 h21
          refine j_iload C 0 dX0_cross_70 rfl ?_
          obtain ⟨u23, h24, hf⟩ := bd hf
          refine j_cVV C [.ref (ad u20), .int x16] gX0_cross_X0_begin rfl hdX0_begin ⟨⟨rfl, rfl⟩, Nat.le_of_ble_eq_true rfl, Nat.le_of_ble_eq_true rfl⟩ rfl (g_C hc0) rfl (k_X0_begin hc0 hk22 h24) dX0_cross_72 rfl (Nat.le_of_ble_eq_true rfl) ?_
          cases hf
          refine j_sub [1, 2, 3, 4, 0] rfl ?_
          exact jj19
      clear hf
      have hf := h12
      clear h12
      refine j_icmp_eq C 47 dX0_cross_40 (by decide) hf (fun hf => ?_) (fun hf => ?_)
      · refine j_aload_n C 1 dX0_cross_47 rfl rfl ?_
        refine j_iload_n C 3 dX0_cross_48 rfl rfl ?_
        refine j_aload_n C 1 dX0_cross_49 rfl rfl ?_
        refine j_get C 10 iX0_cross_X0 (g_C hc0) rfl (by decide) mX0_cross_f67 rfl rfl dX0_cross_50 ?_
        obtain ⟨u14, h15, hf⟩ := bd hf
        refine j_cVI C [.int y2, .int ((K c0 10))] gX0_cross_X0_firstOfSide rfl hdX0_firstOfSide ⟨⟨rfl, rfl⟩, Nat.le_of_ble_eq_true rfl, Nat.le_of_ble_eq_true rfl⟩ rfl (g_C hc0) rfl (k_X0_firstOfSide hc0 h15) dX0_cross_53 rfl (Nat.le_of_ble_eq_true rfl) ?_
        cases hf
        refine j_sub [1, 2, 3, 0] rfl ?_
        exact jj13
      · refine j_iload_n C 0 dX0_cross_43 rfl rfl ?_
        refine j_goto C 56 dX0_cross_44 (by decide) ?_
        cases hf
        refine j_sub [1, 2, 3, 0] rfl ?_
        exact jj13
set_option maxRecDepth 100000 in
set_option maxHeartbeats 4000000 in
theorem k_X0_cross {l : Launch} {D : va_G} {ad : Nat → Nat} {aI aZ aF : ClassId} {b : Nat} {p1 : Int32} (hb : isC b) {K : Mem} {u : Mem} (hf : f_X0_cross b p1 K = some u) : cV (EC l D ad aI aZ aF) yX0_cross wsX0_cross rmX0_cross [.ref (ad b), .int p1] K u := by
  rw [f_X0_cross] at hf
  refine j_entV (cc := cX0_cross) (maxL := 5) (EC_ok l D ad aI aZ aF) (by decide) rfl (Nat.le_of_ble_eq_true rfl) (fun G C ret => ?_)
  refine j_sub [0, 1] (lv2 := [(0, .ref (ad b)), (1, .int p1)]) rfl ?_
  refine j_iload_n C 1 dX0_cross_0 rfl rfl ?_
  refine j_iconst C (v := 1) dX0_cross_1 (by decide) ?_
  refine j_aload_n C 0 dX0_cross_2 rfl rfl ?_
  refine j_get C 12 iX0_cross_X0 (g_C hb) rfl (by decide) mX0_cross_f73 rfl rfl dX0_cross_3 ?_
  refine j_isub C dX0_cross_6 ?_
  obtain ⟨u1, h2, hf⟩ := bd hf
  refine j_cNI C [.int ((1 - (K b 12)))] gX0_cross_X8_phasesOfSide_n210 rfl nm_RX0_210 mX0_cross_iX8 mX0_cross_sX8_phasesOfSide hdX8_phasesOfSide.2 ⟨⟨rfl, rfl⟩, Nat.le_of_ble_eq_true rfl, Nat.le_of_ble_eq_true rfl⟩ rfl (k_X8_phasesOfSide h2) dX0_cross_7 rfl (Nat.le_of_ble_eq_true rfl) ?_
  refine j_iand C dX0_cross_10 ?_
  obtain ⟨v3, h4, hf⟩ := bd hf
  have jj5 : jW (EC l D ad aI aZ aF) G v3 24 [(0, .ref (ad b)), (1, .int p1)] [] := by
    refine j_iconst C (v := 0) dX0_cross_24 (by decide) ?_
    refine j_istore_n C (fun y => [(2, .int y), (0, .ref (ad b)), (1, .int p1)]) dX0_cross_25 rfl (by decide) (fun _ => rfl) hf (fun x7 hf => ?_)
    obtain ⟨v26, h27, hf⟩ := bd hf
    refine j_sub [1, 2, 0] (lv2 := [(0, .ref (ad b)), (1, .int p1), (2, .int x7)]) rfl ?_
    refine lp_X0_cross_L26 hb C 70 _ _ _ h27 ?_
    cases hf
    exact ret _ _ dX0_cross_81
  clear hf
  have hf := h4
  clear h4
  refine j_if_eq C 24 dX0_cross_11 (by decide) hf (fun hf => ?_) (fun hf => ?_)
  · cases hf
    exact jj5
  · refine j_aload_n C 0 dX0_cross_14 rfl rfl ?_
    refine j_iconst C (v := 1) dX0_cross_15 (by decide) ?_
    refine j_aload_n C 0 dX0_cross_16 rfl rfl ?_
    refine j_get C 12 iX0_cross_X0 (g_C hb) rfl (by decide) mX0_cross_f73 rfl rfl dX0_cross_17 ?_
    refine j_isub C dX0_cross_20 ?_
    refine j_put C (ty := .int) 12 iX0_cross_X0 tyX0 tyX0_ok nmX0 (g_C hb) (s_C_12 hb _) rfl (by decide) mX0_cross_f73 rfl rfl (by decide +kernel) rfl rfl (Nat.le_of_ble_eq_true rfl) dX0_cross_21 hf (fun K6 hf => ?_)
    cases hf
    exact jj5
/-- BarrierLights$Controller.goByCalls(Z)V -/
def f_X0_goByCalls (b : Nat) (p1 : Int32) (K : Mem) : Option (Mem) := (if p1 = 0 then (some 0) else (if (K b 12) = 0 then (some 1) else (some 0)) : Option (Int32)).bind fun v1 => lt v1 fun x4 => (if p1 = 0 then (some 0) else (if (K b 12) = 1 then (some 1) else (some 0)) : Option (Int32)).bind fun v5 => lt v5 fun x8 => (if (K b 15) = 0 then (some K) else (st K b 15 0 fun K12 => (f_X0_greenPhases b K12).bind fun u13 => st K12 b 13 ((K12 b 13) ||| ((K12 b 10) &&& (u13 ^^^ (-1)))) fun K15 => some K15) : Option (Mem)).bind fun v9 => (f_X0_countingCalls b v9).bind fun u16 => lt u16 fun x18 => (f_X0_weigh b (b + 16) x18 v9).bind fun u19 => (f_X0_weigh b (b + 17) x18 u19).bind fun u21 => (f_X0_goOn b (b + 16) x8 u21).bind fun u23 => (f_X0_goOn b (b + 17) x8 u23).bind fun u25 => (if x4 = 0 then ((f_X0_mayLeave b (b + 16) x8 u25).bind fun u30 => if u30 = 0 then (some u25) else ((f_X0_mayLeave b (b + 17) x8 u25).bind fun u32 => if u32 = 0 then (some u25) else ((f_X0_leaveSide b u25).bind fun u34 => some u34))) else (some u25) : Option (Mem)).bind fun v27 => (f_X6_waits (b + 16) v27).bind fun u36 => if u36 = 0 then (some v27) else ((f_X6_waits (b + 17) v27).bind fun u38 => if u38 = 0 then (some v27) else (if x18 = 0 then (some v27) else ((f_X0_cross b x18 v27).bind fun u40 => some u40)))
abbrev rmX0_goByCalls : Room := { frames := 4, cells := 0, slots := 0, locals := 91 }
theorem iX0_goByCalls_X0 : ∀ w ∈ u_ws RX0 TX0 16, w ∈ wsX0_goByCalls := fun _ h => List.mem_cons_of_mem _ (List.mem_append_left _ (List.mem_append_left _ (List.mem_append_left _ (List.mem_append_right _ h))))
theorem mX0_goByCalls_f73 : Cond.fieldLink RX0 73 "BarrierLights$Controller" "side" "I" ∈ wsX0_goByCalls := by decide +kernel
theorem mX0_goByCalls_f82 : Cond.fieldLink RX0 82 "BarrierLights$Controller" "hadInput" "Z" ∈ wsX0_goByCalls := by decide +kernel
theorem mX0_goByCalls_f76 : Cond.fieldLink RX0 76 "BarrierLights$Controller" "calls" "I" ∈ wsX0_goByCalls := by decide +kernel
theorem mX0_goByCalls_f67 : Cond.fieldLink RX0 67 "BarrierLights$Controller" "used" "I" ∈ wsX0_goByCalls := by decide +kernel
theorem mX0_goByCalls_f52 : Cond.fieldLink RX0 52 "BarrierLights$Controller" "ring0" "LBarrierLights$Ring;" ∈ wsX0_goByCalls := by decide +kernel
theorem mX0_goByCalls_f56 : Cond.fieldLink RX0 56 "BarrierLights$Controller" "ring1" "LBarrierLights$Ring;" ∈ wsX0_goByCalls := by decide +kernel
theorem hdX0_goOn : yX0_goOn.cls = RX0 ∧ yX0_goOn.cls ≠ "java/lang/invoke/MethodHandle" ∧ yX0_goOn.cls ≠ "java/lang/invoke/VarHandle" ∧ (parseMethodDescriptor yX0_goOn.desc).map (fun d => d.parameters.length) = some 2 := by decide +kernel
theorem hdX0_mayLeave : yX0_mayLeave.cls = RX0 ∧ yX0_mayLeave.cls ≠ "java/lang/invoke/MethodHandle" ∧ yX0_mayLeave.cls ≠ "java/lang/invoke/VarHandle" ∧ (parseMethodDescriptor yX0_mayLeave.desc).map (fun d => d.parameters.length) = some 2 := by decide +kernel
theorem hdX0_cross : yX0_cross.cls = RX0 ∧ yX0_cross.cls ≠ "java/lang/invoke/MethodHandle" ∧ yX0_cross.cls ≠ "java/lang/invoke/VarHandle" ∧ (parseMethodDescriptor yX0_cross.desc).map (fun d => d.parameters.length) = some 1 := by decide +kernel
set_option maxRecDepth 100000 in
set_option maxHeartbeats 4000000 in
theorem k_X0_goByCalls {l : Launch} {D : va_G} {ad : Nat → Nat} {aI aZ aF : ClassId} {b : Nat} {p1 : Int32} (hb : isC b) {K : Mem} {u : Mem} (hf : f_X0_goByCalls b p1 K = some u) : cV (EC l D ad aI aZ aF) yX0_goByCalls wsX0_goByCalls rmX0_goByCalls [.ref (ad b), .int p1] K u := by
  rw [f_X0_goByCalls] at hf
  refine j_entV (cc := cX0_goByCalls) (maxL := 5) (EC_ok l D ad aI aZ aF) (by decide) rfl (Nat.le_of_ble_eq_true rfl) (fun G C ret => ?_)
  refine j_sub [0, 1] (lv2 := [(0, .ref (ad b)), (1, .int p1)]) rfl ?_
  refine j_iload_n C 1 dX0_goByCalls_0 rfl rfl ?_
  obtain ⟨v1, h2, hf⟩ := bd hf
  have jj3 : jW (EC l D ad aI aZ aF) G K 16 [(0, .ref (ad b)), (1, .int p1)] [.int v1] := by
    refine j_istore_n C (fun y => [(2, .int y), (0, .ref (ad b)), (1, .int p1)]) dX0_goByCalls_16 rfl (by decide) (fun _ => rfl) hf (fun x4 hf => ?_)
    refine j_iload_n C 2 dX0_goByCalls_17 rfl rfl ?_
    obtain ⟨v5, h6, hf⟩ := bd hf
    have jj7 : jW (EC l D ad aI aZ aF) G K 34 [(0, .ref (ad b)), (1, .int p1), (2, .int x4)] [.int v5] := by
      refine j_istore_n C (fun y => [(3, .int y), (0, .ref (ad b)), (1, .int p1), (2, .int x4)]) dX0_goByCalls_34 rfl (by decide) (fun _ => rfl) hf (fun x8 hf => ?_)
      refine j_aload_n C 1 dX0_goByCalls_35 rfl rfl ?_
      refine j_get C 15 iX0_goByCalls_X0 (g_C hb) rfl (by decide) mX0_goByCalls_f82 rfl rfl dX0_goByCalls_36 ?_
      obtain ⟨v9, h10, hf⟩ := bd hf
      have jj11 : jW (EC l D ad aI aZ aF) G v9 67 [(0, .ref (ad b)), (1, .int p1), (2, .int x4), (3, .int x8)] [] := by
        refine j_aload_n C 0 dX0_goByCalls_67 rfl rfl ?_
        obtain ⟨u16, h17, hf⟩ := bd hf
        refine j_cVI C [] gX0_goByCalls_X0_countingCalls rfl hdX0_countingCalls ⟨⟨rfl, rfl⟩, Nat.le_of_ble_eq_true rfl, Nat.le_of_ble_eq_true rfl⟩ rfl (g_C hb) rfl (k_X0_countingCalls hb h17) dX0_goByCalls_68 rfl (Nat.le_of_ble_eq_true rfl) ?_
        refine j_istore C (fun y => [(4, .int y), (0, .ref (ad b)), (1, .int p1), (2, .int x4), (3, .int x8)]) dX0_goByCalls_71 (by decide) (fun _ => rfl) hf (fun x18 hf => ?_)
        refine j_aload_n C 1 dX0_goByCalls_73 rfl rfl ?_
        refine j_aload_n C 1 dX0_goByCalls_74 rfl rfl ?_
        refine j_get C 6 iX0_goByCalls_X0 (g_C hb) rfl (by decide) mX0_goByCalls_f52 rfl rfl dX0_goByCalls_75 ?_
        refine j_iload C 0 dX0_goByCalls_78 rfl ?_
        obtain ⟨u19, h20, hf⟩ := bd hf
        refine j_cVV C [.ref (ad (b + 16)), .int x18] gX0_goByCalls_X0_weigh rfl hdX0_weigh ⟨⟨rfl, rfl⟩, Nat.le_of_ble_eq_true rfl, Nat.le_of_ble_eq_true rfl⟩ rfl (g_C hb) rfl (k_X0_weigh hb (isC_R0 hb) h20) dX0_goByCalls_80 rfl (Nat.le_of_ble_eq_true rfl) ?_
        refine j_aload_n C 1 dX0_goByCalls_83 rfl rfl ?_
        refine j_aload_n C 1 dX0_goByCalls_84 rfl rfl ?_
        refine j_get C 7 iX0_goByCalls_X0 (g_C hb) rfl (by decide) mX0_goByCalls_f56 rfl rfl dX0_goByCalls_85 ?_
        refine j_iload C 0 dX0_goByCalls_88 rfl ?_
        obtain ⟨u21, h22, hf⟩ := bd hf
        refine j_cVV C [.ref (ad (b + 17)), .int x18] gX0_goByCalls_X0_weigh rfl hdX0_weigh ⟨⟨rfl, rfl⟩, Nat.le_of_ble_eq_true rfl, Nat.le_of_ble_eq_true rfl⟩ rfl (g_C hb) rfl (k_X0_weigh hb (isC_R1 hb) h22) dX0_goByCalls_90 rfl (Nat.le_of_ble_eq_true rfl) ?_
        refine j_aload_n C 1 dX0_goByCalls_93 rfl rfl ?_
        refine j_aload_n C 1 dX0_goByCalls_94 rfl rfl ?_
        refine j_get C 6 iX0_goByCalls_X0 (g_C hb) rfl (by decide) mX0_goByCalls_f52 rfl rfl dX0_goByCalls_95 ?_
        refine j_iload_n C 4 dX0_goByCalls_98 rfl rfl ?_
        obtain ⟨u23, h24, hf⟩ := bd hf
        refine j_cVV C [.ref (ad (b + 16)), .int x8] gX0_goByCalls_X0_goOn rfl hdX0_goOn ⟨⟨rfl, rfl⟩, Nat.le_of_ble_eq_true rfl, Nat.le_of_ble_eq_true rfl⟩ rfl (g_C hb) rfl (k_X0_goOn hb (isC_R0 hb) h24) dX0_goByCalls_99 rfl (Nat.le_of_ble_eq_true rfl) ?_
        refine j_aload_n C 1 dX0_goByCalls_102 rfl rfl ?_
        refine j_aload_n C 1 dX0_goByCalls_103 rfl rfl ?_
        refine j_get C 7 iX0_goByCalls_X0 (g_C hb) rfl (by decide) mX0_goByCalls_f56 rfl rfl dX0_goByCalls_104 ?_
        refine j_iload_n C 4 dX0_goByCalls_107 rfl rfl ?_
        obtain ⟨u25, h26, hf⟩ := bd hf
        refine j_cVV C [.ref (ad (b + 17)), .int x8] gX0_goByCalls_X0_goOn rfl hdX0_goOn ⟨⟨rfl, rfl⟩, Nat.le_of_ble_eq_true rfl, Nat.le_of_ble_eq_true rfl⟩ rfl (g_C hb) rfl (k_X0_goOn hb (isC_R1 hb) h26) dX0_goByCalls_108 rfl (Nat.le_of_ble_eq_true rfl) ?_
        refine j_iload_n C 3 dX0_goByCalls_111 rfl rfl ?_
        obtain ⟨v27, h28, hf⟩ := bd hf
        have jj29 : jW (EC l D ad aI aZ aF) G v27 143 [(0, .ref (ad b)), (1, .int p1), (2, .int x4), (3, .int x8), (4, .int x18)] [] := by
          refine j_aload_n C 0 dX0_goByCalls_143 rfl rfl ?_
          refine j_get C 6 iX0_goByCalls_X0 (g_C hb) rfl (by decide) mX0_goByCalls_f52 rfl rfl dX0_goByCalls_144 ?_
          obtain ⟨u36, h37, hf⟩ := bd hf
          refine j_cVI C [] gX0_goByCalls_X6_waits rfl hdX6_waits ⟨⟨rfl, rfl⟩, Nat.le_of_ble_eq_true rfl, Nat.le_of_ble_eq_true rfl⟩ rfl (g_R (isC_R0 hb)) rfl (k_X6_waits (isC_R0 hb) h37) dX0_goByCalls_147 rfl (Nat.le_of_ble_eq_true rfl) ?_
          refine j_if_eq C 174 dX0_goByCalls_150 (by decide) hf (fun hf => ?_) (fun hf => ?_)
          · cases hf
            exact ret _ _ dX0_goByCalls_174
          · refine j_aload_n C 0 dX0_goByCalls_153 rfl rfl ?_
            refine j_get C 7 iX0_goByCalls_X0 (g_C hb) rfl (by decide) mX0_goByCalls_f56 rfl rfl dX0_goByCalls_154 ?_
            obtain ⟨u38, h39, hf⟩ := bd hf
            refine j_cVI C [] gX0_goByCalls_X6_waits rfl hdX6_waits ⟨⟨rfl, rfl⟩, Nat.le_of_ble_eq_true rfl, Nat.le_of_ble_eq_true rfl⟩ rfl (g_R (isC_R1 hb)) rfl (k_X6_waits (isC_R1 hb) h39) dX0_goByCalls_157 rfl (Nat.le_of_ble_eq_true rfl) ?_
            refine j_if_eq C 174 dX0_goByCalls_160 (by decide) hf (fun hf => ?_) (fun hf => ?_)
            · cases hf
              exact ret _ _ dX0_goByCalls_174
            · refine j_iload C 4 dX0_goByCalls_163 rfl ?_
              refine j_if_eq C 174 dX0_goByCalls_165 (by decide) hf (fun hf => ?_) (fun hf => ?_)
              · cases hf
                exact ret _ _ dX0_goByCalls_174
              · refine j_aload_n C 0 dX0_goByCalls_168 rfl rfl ?_
                refine j_iload C 4 dX0_goByCalls_169 rfl ?_
                obtain ⟨u40, h41, hf⟩ := bd hf
                refine j_cVV C [.int x18] gX0_goByCalls_X0_cross rfl hdX0_cross ⟨⟨rfl, rfl⟩, Nat.le_of_ble_eq_true rfl, Nat.le_of_ble_eq_true rfl⟩ rfl (g_C hb) rfl (k_X0_cross hb h41) dX0_goByCalls_171 rfl (Nat.le_of_ble_eq_true rfl) ?_
                cases hf
                exact ret _ _ dX0_goByCalls_174
        clear hf
        have hf := h28
        clear h28
        refine j_if_ne C 143 dX0_goByCalls_112 (by decide) hf (fun hf => ?_) (fun hf => ?_)
        · refine j_aload_n C 1 dX0_goByCalls_115 rfl rfl ?_
          refine j_aload_n C 1 dX0_goByCalls_116 rfl rfl ?_
          refine j_get C 6 iX0_goByCalls_X0 (g_C hb) rfl (by decide) mX0_goByCalls_f52 rfl rfl dX0_goByCalls_117 ?_
          refine j_iload_n C 4 dX0_goByCalls_120 rfl rfl ?_
          obtain ⟨u30, h31, hf⟩ := bd hf
          refine j_cVI C [.ref (ad (b + 16)), .int x8] gX0_goByCalls_X0_mayLeave rfl hdX0_mayLeave ⟨⟨rfl, rfl⟩, Nat.le_of_ble_eq_true rfl, Nat.le_of_ble_eq_true rfl⟩ rfl (g_C hb) rfl (k_X0_mayLeave hb (isC_R0 hb) h31) dX0_goByCalls_121 rfl (Nat.le_of_ble_eq_true rfl) ?_
          refine j_if_eq C 143 dX0_goByCalls_124 (by decide) hf (fun hf => ?_) (fun hf => ?_)
          · cases hf
            refine j_sub [1, 2, 3, 4, 0] rfl ?_
            exact jj29
          · refine j_aload_n C 1 dX0_goByCalls_127 rfl rfl ?_
            refine j_aload_n C 1 dX0_goByCalls_128 rfl rfl ?_
            refine j_get C 7 iX0_goByCalls_X0 (g_C hb) rfl (by decide) mX0_goByCalls_f56 rfl rfl dX0_goByCalls_129 ?_
            refine j_iload_n C 4 dX0_goByCalls_132 rfl rfl ?_
            obtain ⟨u32, h33, hf⟩ := bd hf
            refine j_cVI C [.ref (ad (b + 17)), .int x8] gX0_goByCalls_X0_mayLeave rfl hdX0_mayLeave ⟨⟨rfl, rfl⟩, Nat.le_of_ble_eq_true rfl, Nat.le_of_ble_eq_true rfl⟩ rfl (g_C hb) rfl (k_X0_mayLeave hb (isC_R1 hb) h33) dX0_goByCalls_133 rfl (Nat.le_of_ble_eq_true rfl) ?_
            refine j_if_eq C 143 dX0_goByCalls_136 (by decide) hf (fun hf => ?_) (fun hf => ?_)
            · cases hf
              refine j_sub [1, 2, 3, 4, 0] rfl ?_
              exact jj29
            · refine j_aload_n C 1 dX0_goByCalls_139 rfl rfl ?_
              obtain ⟨u34, h35, hf⟩ := bd hf
              refine j_cVV C [] gX0_goByCalls_X0_leaveSide rfl hdX0_leaveSide ⟨⟨rfl, rfl⟩, Nat.le_of_ble_eq_true rfl, Nat.le_of_ble_eq_true rfl⟩ rfl (g_C hb) rfl (k_X0_leaveSide hb h35) dX0_goByCalls_140 rfl (Nat.le_of_ble_eq_true rfl) ?_
              cases hf
              refine j_sub [1, 2, 3, 4, 0] rfl ?_
              exact jj29
        · cases hf
          refine j_sub [1, 2, 3, 4, 0] rfl ?_
          exact jj29
      clear hf
      have hf := h10
      clear h10
      refine j_if_eq C 67 dX0_goByCalls_39 (by decide) hf (fun hf => ?_) (fun hf => ?_)
      · cases hf
        refine j_sub [1, 2, 3, 0] rfl ?_
        exact jj11
      · refine j_aload_n C 1 dX0_goByCalls_42 rfl rfl ?_
        refine j_iconst C (v := 0) dX0_goByCalls_43 (by decide) ?_
        refine j_put C (ty := .boolean) 15 iX0_goByCalls_X0 tyX0 tyX0_ok nmX0 (g_C hb) (s_C_15 hb _) rfl (by decide) mX0_goByCalls_f82 rfl rfl (by decide +kernel) rfl rfl (Nat.le_of_ble_eq_true rfl) dX0_goByCalls_44 hf (fun K12 hf => ?_)
        refine j_aload_n C 1 dX0_goByCalls_47 rfl rfl ?_
        refine j_dup C dX0_goByCalls_48 rfl ?_
        refine j_get C 13 iX0_goByCalls_X0 (g_C hb) rfl (by decide) mX0_goByCalls_f76 rfl rfl dX0_goByCalls_49 ?_
        refine j_aload_n C 1 dX0_goByCalls_52 rfl rfl ?_
        refine j_get C 10 iX0_goByCalls_X0 (g_C hb) rfl (by decide) mX0_goByCalls_f67 rfl rfl dX0_goByCalls_53 ?_
        refine j_aload_n C 1 dX0_goByCalls_56 rfl rfl ?_
        obtain ⟨u13, h14, hf⟩ := bd hf
        refine j_cVI C [] gX0_goByCalls_X0_greenPhases rfl hdX0_greenPhases ⟨⟨rfl, rfl⟩, Nat.le_of_ble_eq_true rfl, Nat.le_of_ble_eq_true rfl⟩ rfl (g_C hb) rfl (k_X0_greenPhases hb h14) dX0_goByCalls_57 rfl (Nat.le_of_ble_eq_true rfl) ?_
        refine j_iconst C (v := (-1)) dX0_goByCalls_60 (by decide) ?_
        refine j_ixor C dX0_goByCalls_61 ?_
        refine j_iand C dX0_goByCalls_62 ?_
        refine j_ior C dX0_goByCalls_63 ?_
        refine j_put C (ty := .int) 13 iX0_goByCalls_X0 tyX0 tyX0_ok nmX0 (g_C hb) (s_C_13 hb _) rfl (by decide) mX0_goByCalls_f76 rfl rfl (by decide +kernel) rfl rfl (Nat.le_of_ble_eq_true rfl) dX0_goByCalls_64 hf (fun K15 hf => ?_)
        cases hf
        refine j_sub [1, 2, 3, 0] rfl ?_
        exact jj11
    clear hf
    have hf := h6
    clear h6
    refine j_if_eq C 33 dX0_goByCalls_18 (by decide) hf (fun hf => ?_) (fun hf => ?_)
    · refine j_iconst C (v := 0) dX0_goByCalls_33 (by decide) ?_
      cases hf
      refine j_sub [1, 2, 0] rfl ?_
      exact jj7
    · refine j_aload_n C 1 dX0_goByCalls_21 rfl rfl ?_
      refine j_get C 12 iX0_goByCalls_X0 (g_C hb) rfl (by decide) mX0_goByCalls_f73 rfl rfl dX0_goByCalls_22 ?_
      refine j_iconst C (v := 1) dX0_goByCalls_25 (by decide) ?_
      refine j_icmp_ne C 33 dX0_goByCalls_26 (by decide) hf (fun hf => ?_) (fun hf => ?_)
      · refine j_iconst C (v := 1) dX0_goByCalls_29 (by decide) ?_
        refine j_goto C 34 dX0_goByCalls_30 (by decide) ?_
        cases hf
        refine j_sub [1, 2, 0] rfl ?_
        exact jj7
      · refine j_iconst C (v := 0) dX0_goByCalls_33 (by decide) ?_
        cases hf
        refine j_sub [1, 2, 0] rfl ?_
        exact jj7
  clear hf
  have hf := h2
  clear h2
  refine j_if_eq C 15 dX0_goByCalls_1 (by decide) hf (fun hf => ?_) (fun hf => ?_)
  · refine j_iconst C (v := 0) dX0_goByCalls_15 (by decide) ?_
    cases hf
    exact jj3
  · refine j_aload_n C 0 dX0_goByCalls_4 rfl rfl ?_
    refine j_get C 12 iX0_goByCalls_X0 (g_C hb) rfl (by decide) mX0_goByCalls_f73 rfl rfl dX0_goByCalls_5 ?_
    refine j_if_ne C 15 dX0_goByCalls_8 (by decide) hf (fun hf => ?_) (fun hf => ?_)
    · refine j_iconst C (v := 1) dX0_goByCalls_11 (by decide) ?_
      refine j_goto C 16 dX0_goByCalls_12 (by decide) ?_
      cases hf
      exact jj3
    · refine j_iconst C (v := 0) dX0_goByCalls_15 (by decide) ?_
      cases hf
      exact jj3
/-- BarrierLights.isPhase(I)Z -/
def f_X8_isPhase (p0 : Int32) (K : Mem) : Option (Int32) := if p0 < 0 then (some 0) else (if 8 ≤ p0 then (some 0) else (some 1))
abbrev rmX8_isPhase : Room := { frames := 0, cells := 0, slots := 0, locals := 0 }
set_option maxRecDepth 100000 in
set_option maxHeartbeats 4000000 in
theorem k_X8_isPhase {l : Launch} {D : va_G} {ad : Nat → Nat} {aI aZ aF : ClassId} {p0 : Int32} {K : Mem} {u : Int32} (hf : f_X8_isPhase p0 K = some u) : cI (EC l D ad aI aZ aF) yX8_isPhase wsX8_isPhase rmX8_isPhase [.int p0] K u K := by
  rw [f_X8_isPhase] at hf
  refine j_entI (cc := cX8_isPhase) (maxL := 1) (EC_ok l D ad aI aZ aF) (Or.inr rfl) (by decide) rfl (Nat.le_of_ble_eq_true rfl) (fun G C ret => ?_)
  refine j_sub [0] (lv2 := [(0, .int p0)]) rfl ?_
  refine j_iload_n C 0 dX8_isPhase_0 rfl rfl ?_
  refine j_if_lt C 14 dX8_isPhase_1 (by decide) hf (fun hf => ?_) (fun hf => ?_)
  · refine j_iconst C (v := 0) dX8_isPhase_14 (by decide) ?_
    cases hf
    exact ret _ _ dX8_isPhase_15 (fun _ => rfl)
  · refine j_iload_n C 0 dX8_isPhase_4 rfl rfl ?_
    refine j_bipush C (v := 8) dX8_isPhase_5 (by decide) ?_
    refine j_icmp_ge C 14 dX8_isPhase_7 (by decide) hf (fun hf => ?_) (fun hf => ?_)
    · refine j_iconst C (v := 0) dX8_isPhase_14 (by decide) ?_
      cases hf
      exact ret _ _ dX8_isPhase_15 (fun _ => rfl)
    · refine j_iconst C (v := 1) dX8_isPhase_10 (by decide) ?_
      refine j_goto C 15 dX8_isPhase_11 (by decide) ?_
      cases hf
      exact ret _ _ dX8_isPhase_15 (fun _ => rfl)
/-- BarrierLights$Controller.lampsOf(I)I -/
def f_X0_lampsOf (b : Nat) (p1 : Int32) (K : Mem) : Option (Int32) := (f_X8_isPhase p1 K).bind fun u1 => if u1 = 0 then (some 0) else ((f_X8_bit p1 K).bind fun u3 => if ((K b 10) &&& u3) = 0 then (some 0) else (if (K b 11) = 0 then ((f_X8_ringOf p1 K).bind fun u5 => (f_X0_ring b u5 K).bind fun u7 => (if (K u7 0) = p1 then (some (K u7 4)) else (some 1) : Option (Int32)).bind fun v10 => lt v10 fun x13 => if inb p1 8 = true then (if (K (b + 18) (ix p1)) = 1 then (some (x13 &&& (-2))) else (if (K (b + 18) (ix p1)) = 2 then (some (x13 ||| 4)) else (if (K (b + 18) (ix p1)) = 3 then (some (x13 &&& (-3))) else (some x13)))) else none) else (some 8)))
abbrev rmX0_lampsOf : Room := { frames := 1, cells := 0, slots := 0, locals := 21 }
theorem mX0_lampsOf_iX8 : Cond.initialized RX8 ∈ wsX0_lampsOf := by decide +kernel
theorem mX0_lampsOf_sX8_isPhase : Cond.static yX8_isPhase ∈ wsX0_lampsOf := by decide +kernel
theorem hdX8_isPhase : yX8_isPhase.cls = RX8 ∧ yX8_isPhase.cls ≠ "java/lang/invoke/MethodHandle" ∧ yX8_isPhase.cls ≠ "java/lang/invoke/VarHandle" ∧ (parseMethodDescriptor yX8_isPhase.desc).map (fun d => d.parameters.length) = some 1 := by decide +kernel
theorem iX0_lampsOf_X0 : ∀ w ∈ u_ws RX0 TX0 16, w ∈ wsX0_lampsOf := fun _ h => List.mem_cons_of_mem _ (List.mem_append_left _ (List.mem_append_right _ h))
theorem mX0_lampsOf_f67 : Cond.fieldLink RX0 67 "BarrierLights$Controller" "used" "I" ∈ wsX0_lampsOf := by decide +kernel
theorem mX0_lampsOf_sX8_bit : Cond.static yX8_bit ∈ wsX0_lampsOf := by decide +kernel
theorem mX0_lampsOf_f70 : Cond.fieldLink RX0 70 "BarrierLights$Controller" "whyFlashing" "I" ∈ wsX0_lampsOf := by decide +kernel
theorem mX0_lampsOf_sX8_ringOf : Cond.static yX8_ringOf ∈ wsX0_lampsOf := by decide +kernel
theorem iX0_lampsOf_X6 : ∀ w ∈ u_ws RX6 TX6 10, w ∈ wsX0_lampsOf := fun _ h => List.mem_cons_of_mem _ (List.mem_append_right _ h)
theorem mX0_lampsOf_f59 : Cond.fieldLink RX0 59 "BarrierLights$Controller" "faults" "[I" ∈ wsX0_lampsOf := by decide +kernel
set_option maxRecDepth 100000 in
set_option maxHeartbeats 4000000 in
theorem k_X0_lampsOf {l : Launch} {D : va_G} {ad : Nat → Nat} {aI aZ aF : ClassId} {b : Nat} {p1 : Int32} (hb : isC b) {K : Mem} {u : Int32} (hf : f_X0_lampsOf b p1 K = some u) : cI (EC l D ad aI aZ aF) yX0_lampsOf wsX0_lampsOf rmX0_lampsOf [.ref (ad b), .int p1] K u K := by
  rw [f_X0_lampsOf] at hf
  refine j_entI (cc := cX0_lampsOf) (maxL := 4) (EC_ok l D ad aI aZ aF) (Or.inl rfl) (by decide) rfl (Nat.le_of_ble_eq_true rfl) (fun G C ret => ?_)
  refine j_sub [0, 1] (lv2 := [(0, .ref (ad b)), (1, .int p1)]) rfl ?_
  refine j_iload_n C 1 dX0_lampsOf_0 rfl rfl ?_
  obtain ⟨u1, h2, hf⟩ := bd hf
  refine j_cNI C [.int p1] gX0_lampsOf_X8_isPhase_n290 rfl nm_RX0_290 mX0_lampsOf_iX8 mX0_lampsOf_sX8_isPhase hdX8_isPhase.2 ⟨⟨rfl, rfl⟩, Nat.le_of_ble_eq_true rfl, Nat.le_of_ble_eq_true rfl⟩ rfl (k_X8_isPhase h2) dX0_lampsOf_1 rfl (Nat.le_of_ble_eq_true rfl) ?_
  refine j_if_eq C 19 dX0_lampsOf_4 (by decide) hf (fun hf => ?_) (fun hf => ?_)
  · refine j_iconst C (v := 0) dX0_lampsOf_19 (by decide) ?_
    cases hf
    exact ret _ _ dX0_lampsOf_20 (fun h => by cases h)
  · refine j_aload_n C 0 dX0_lampsOf_7 rfl rfl ?_
    refine j_get C 10 iX0_lampsOf_X0 (g_C hb) rfl (by decide) mX0_lampsOf_f67 rfl rfl dX0_lampsOf_8 ?_
    refine j_iload_n C 1 dX0_lampsOf_11 rfl rfl ?_
    obtain ⟨u3, h4, hf⟩ := bd hf
    refine j_cNI C [.int p1] gX0_lampsOf_X8_bit_n104 rfl nm_RX0_104 mX0_lampsOf_iX8 mX0_lampsOf_sX8_bit hdX8_bit.2 ⟨⟨rfl, rfl⟩, Nat.le_of_ble_eq_true rfl, Nat.le_of_ble_eq_true rfl⟩ rfl (k_X8_bit h4) dX0_lampsOf_12 rfl (Nat.le_of_ble_eq_true rfl) ?_
    refine j_iand C dX0_lampsOf_15 ?_
    refine j_if_ne C 21 dX0_lampsOf_16 (by decide) hf (fun hf => ?_) (fun hf => ?_)
    · refine j_iconst C (v := 0) dX0_lampsOf_19 (by decide) ?_
      cases hf
      exact ret _ _ dX0_lampsOf_20 (fun h => by cases h)
    · refine j_aload_n C 0 dX0_lampsOf_21 rfl rfl ?_
      refine j_get C 11 iX0_lampsOf_X0 (g_C hb) rfl (by decide) mX0_lampsOf_f70 rfl rfl dX0_lampsOf_22 ?_
      refine j_if_eq C 31 dX0_lampsOf_25 (by decide) hf (fun hf => ?_) (fun hf => ?_)
      · refine j_aload_n C 0 dX0_lampsOf_31 rfl rfl ?_
        refine j_iload_n C 1 dX0_lampsOf_32 rfl rfl ?_
        obtain ⟨u5, h6, hf⟩ := bd hf
        refine j_cNI C [.int p1] gX0_lampsOf_X8_ringOf_n147 rfl nm_RX0_147 mX0_lampsOf_iX8 mX0_lampsOf_sX8_ringOf hdX8_ringOf.2 ⟨⟨rfl, rfl⟩, Nat.le_of_ble_eq_true rfl, Nat.le_of_ble_eq_true rfl⟩ rfl (k_X8_ringOf h6) dX0_lampsOf_33 rfl (Nat.le_of_ble_eq_true rfl) ?_
        obtain ⟨u7, h8, hf⟩ := bd hf
        refine j_cVR C [.int u5] gX0_lampsOf_X0_ring rfl hdX0_ring ⟨⟨rfl, rfl⟩, Nat.le_of_ble_eq_true rfl, Nat.le_of_ble_eq_true rfl⟩ rfl (g_C hb) rfl (k_X0_ring hb h8) dX0_lampsOf_36 rfl (Nat.le_of_ble_eq_true rfl) ?_
        have hk9 := q_X0_ring hb h8
        refine j_astore_n C [(2, .ref (ad u7)), (0, .ref (ad b)), (1, .int p1)] dX0_lampsOf_39 rfl (by decide) rfl ?_
        refine j_aload_n C 0 dX0_lampsOf_40 rfl rfl ?_
        refine j_getN C 0 iX0_lampsOf_X6 (g_R hk9) rfl (by decide) nf_RX0_157 rfl rfl dX0_lampsOf_41 ?_
        refine j_iload_n C 2 dX0_lampsOf_44 rfl rfl ?_
        obtain ⟨v10, h11, hf⟩ := bd hf
        have jj12 : jW (EC l D ad aI aZ aF) G K 56 [(0, .ref (ad b)), (1, .int p1), (2, .ref (ad u7))] [.int v10] := by
          refine j_istore_n C (fun y => [(3, .int y), (0, .ref (ad b)), (1, .int p1), (2, .ref (ad u7))]) dX0_lampsOf_56 rfl (by decide) (fun _ => rfl) hf (fun x13 hf => ?_)
          refine j_aload_n C 1 dX0_lampsOf_57 rfl rfl ?_
          refine j_get C 8 iX0_lampsOf_X0 (g_C hb) rfl (by decide) mX0_lampsOf_f59 rfl rfl dX0_lampsOf_58 ?_
          refine j_iload_n C 2 dX0_lampsOf_61 rfl rfl ?_
          refine j_iald C 0 (g_Cf hb) rfl dX0_lampsOf_62 hf (fun hf => ?_)
          refine j_case hf (fun c14 hf => ?_) (fun c14 hf => ?_)
          · refine j_tabIn C 88 dX0_lampsOf_63 (by rw [c14]; decide) (by rw [c14]; decide) (by rw [c14]; rfl) (by decide) ?_
            refine j_iload_n C 0 dX0_lampsOf_88 rfl rfl ?_
            refine j_bipush C (v := (-2)) dX0_lampsOf_89 (by decide) ?_
            refine j_iand C dX0_lampsOf_91 ?_
            cases hf
            exact ret _ _ dX0_lampsOf_92 (fun h => by cases h)
          refine j_case hf (fun c15 hf => ?_) (fun c15 hf => ?_)
          · refine j_tabIn C 93 dX0_lampsOf_63 (by rw [c15]; decide) (by rw [c15]; decide) (by rw [c15]; rfl) (by decide) ?_
            refine j_iload_n C 0 dX0_lampsOf_93 rfl rfl ?_
            refine j_iconst C (v := 4) dX0_lampsOf_94 (by decide) ?_
            refine j_ior C dX0_lampsOf_95 ?_
            cases hf
            exact ret _ _ dX0_lampsOf_96 (fun h => by cases h)
          refine j_case hf (fun c16 hf => ?_) (fun c16 hf => ?_)
          · refine j_tabIn C 97 dX0_lampsOf_63 (by rw [c16]; decide) (by rw [c16]; decide) (by rw [c16]; rfl) (by decide) ?_
            refine j_iload_n C 0 dX0_lampsOf_97 rfl rfl ?_
            refine j_bipush C (v := (-3)) dX0_lampsOf_98 (by decide) ?_
            refine j_iand C dX0_lampsOf_100 ?_
            cases hf
            exact ret _ _ dX0_lampsOf_101 (fun h => by cases h)
          refine j_tabOut C 102 dX0_lampsOf_63 (by have ec14 := lv_neT c14 (a := 1) (by decide); have ec15 := lv_neT c15 (a := 2) (by decide); have ec16 := lv_neT c16 (a := 3) (by decide); omega) (by decide) ?_
          refine j_iload_n C 0 dX0_lampsOf_102 rfl rfl ?_
          cases hf
          exact ret _ _ dX0_lampsOf_103 (fun h => by cases h)
        clear hf
        have hf := h11
        clear h11
        refine j_icmp_ne C 55 dX0_lampsOf_45 (by decide) hf (fun hf => ?_) (fun hf => ?_)
        · refine j_aload_n C 0 dX0_lampsOf_48 rfl rfl ?_
          refine j_getN C 4 iX0_lampsOf_X6 (g_R hk9) rfl (by decide) nf_RX0_198 rfl rfl dX0_lampsOf_49 ?_
          refine j_goto C 56 dX0_lampsOf_52 (by decide) ?_
          cases hf
          refine j_sub [1, 2, 0] rfl ?_
          exact jj12
        · refine j_iconst C (v := 1) dX0_lampsOf_55 (by decide) ?_
          cases hf
          refine j_sub [1, 2, 0] rfl ?_
          exact jj12
      · refine j_bipush C (v := 8) dX0_lampsOf_28 (by decide) ?_
        cases hf
        exact ret _ _ dX0_lampsOf_30 (fun h => by cases h)
/-- BarrierLights$Monitor.see(II)V -/
def f_X4_see (b : Nat) (p1 : Int32) (p2 : Int32) (K : Mem) : Option (Mem) := (f_X8_isPhase p1 K).bind fun u1 => if u1 = 0 then (some K) else (if inb p1 8 = true then (st K (b + 1) (ix p1) p2 fun K3 => some K3) else none)
abbrev rmX4_see : Room := { frames := 1, cells := 0, slots := 0, locals := 20 }
theorem mX4_see_iX8 : Cond.initialized RX8 ∈ wsX4_see := by decide +kernel
theorem mX4_see_sX8_isPhase : Cond.static yX8_isPhase ∈ wsX4_see := by decide +kernel
theorem iX4_see_X4 : ∀ w ∈ u_ws RX4 TX4 4, w ∈ wsX4_see := fun _ h => List.mem_cons_of_mem _ (List.mem_append_right _ h)
theorem mX4_see_f9 : Cond.fieldLink RX4 9 "BarrierLights$Monitor" "shown" "[I" ∈ wsX4_see := by decide +kernel
set_option maxRecDepth 100000 in
set_option maxHeartbeats 4000000 in
theorem k_X4_see {l : Launch} {D : va_G} {ad : Nat → Nat} {aI aZ aF : ClassId} {b : Nat} {p1 : Int32} {p2 : Int32} (hb : isM b) {K : Mem} {u : Mem} (hf : f_X4_see b p1 p2 K = some u) : cV (EC l D ad aI aZ aF) yX4_see wsX4_see rmX4_see [.ref (ad b), .int p1, .int p2] K u := by
  rw [f_X4_see] at hf
  refine j_entV (cc := cX4_see) (maxL := 3) (EC_ok l D ad aI aZ aF) (by decide) rfl (Nat.le_of_ble_eq_true rfl) (fun G C ret => ?_)
  refine j_sub [0, 1, 2] (lv2 := [(0, .ref (ad b)), (1, .int p1), (2, .int p2)]) rfl ?_
  refine j_iload_n C 1 dX4_see_0 rfl rfl ?_
  obtain ⟨u1, h2, hf⟩ := bd hf
  refine j_cNI C [.int p1] gX4_see_X8_isPhase_n25 rfl nm_RX4_25 mX4_see_iX8 mX4_see_sX8_isPhase hdX8_isPhase.2 ⟨⟨rfl, rfl⟩, Nat.le_of_ble_eq_true rfl, Nat.le_of_ble_eq_true rfl⟩ rfl (k_X8_isPhase h2) dX4_see_1 rfl (Nat.le_of_ble_eq_true rfl) ?_
  refine j_if_eq C 14 dX4_see_4 (by decide) hf (fun hf => ?_) (fun hf => ?_)
  · cases hf
    exact ret _ _ dX4_see_14
  · refine j_aload_n C 0 dX4_see_7 rfl rfl ?_
    refine j_get C 0 iX4_see_X4 (g_M hb) rfl (by decide) mX4_see_f9 rfl rfl dX4_see_8 ?_
    refine j_iload_n C 1 dX4_see_11 rfl rfl ?_
    refine j_iload_n C 2 dX4_see_12 rfl rfl ?_
    refine j_iast C 0 (g_M1 hb) (s_M1 hb _ _) rfl dX4_see_13 hf (fun K3 hf => ?_)
    cases hf
    exact ret _ _ dX4_see_14
/-- BarrierLights$Monitor.goes(I)Z -/
def f_X4_goes (p0 : Int32) (K : Mem) : Option (Int32) := if (p0 &&& 6) = 0 then (some 0) else (some 1)
abbrev rmX4_goes : Room := { frames := 0, cells := 0, slots := 0, locals := 0 }
set_option maxRecDepth 100000 in
set_option maxHeartbeats 4000000 in
theorem k_X4_goes {l : Launch} {D : va_G} {ad : Nat → Nat} {aI aZ aF : ClassId} {p0 : Int32} {K : Mem} {u : Int32} (hf : f_X4_goes p0 K = some u) : cI (EC l D ad aI aZ aF) yX4_goes wsX4_goes rmX4_goes [.int p0] K u K := by
  rw [f_X4_goes] at hf
  refine j_entI (cc := cX4_goes) (maxL := 1) (EC_ok l D ad aI aZ aF) (Or.inr rfl) (by decide) rfl (Nat.le_of_ble_eq_true rfl) (fun G C ret => ?_)
  refine j_sub [0] (lv2 := [(0, .int p0)]) rfl ?_
  refine j_iload_n C 0 dX4_goes_0 rfl rfl ?_
  refine j_bipush C (v := 6) dX4_goes_1 (by decide) ?_
  refine j_iand C dX4_goes_3 ?_
  refine j_if_eq C 11 dX4_goes_4 (by decide) hf (fun hf => ?_) (fun hf => ?_)
  · refine j_iconst C (v := 0) dX4_goes_11 (by decide) ?_
    cases hf
    exact ret _ _ dX4_goes_12 (fun _ => rfl)
  · refine j_iconst C (v := 1) dX4_goes_7 (by decide) ?_
    refine j_goto C 12 dX4_goes_8 (by decide) ?_
    cases hf
    exact ret _ _ dX4_goes_12 (fun _ => rfl)
/-- BarrierLights$Monitor.goTogether(II)Z -/
def f_X4_goTogether (p0 : Int32) (p1 : Int32) (K : Mem) : Option (Int32) := (f_X8_ringOf p0 K).bind fun u1 => (f_X8_ringOf p1 K).bind fun u3 => if u1 = u3 then (some 0) else ((f_X8_sideOf p0 K).bind fun u5 => (f_X8_sideOf p1 K).bind fun u7 => if u5 = u7 then (some 1) else (some 0))
abbrev rmX4_goTogether : Room := { frames := 1, cells := 0, slots := 0, locals := 20 }
theorem mX4_goTogether_iX8 : Cond.initialized RX8 ∈ wsX4_goTogether := by decide +kernel
theorem mX4_goTogether_sX8_ringOf : Cond.static yX8_ringOf ∈ wsX4_goTogether := by decide +kernel
theorem mX4_goTogether_sX8_sideOf : Cond.static yX8_sideOf ∈ wsX4_goTogether := by decide +kernel
set_option maxRecDepth 100000 in
set_option maxHeartbeats 4000000 in
theorem k_X4_goTogether {l : Launch} {D : va_G} {ad : Nat → Nat} {aI aZ aF : ClassId} {p0 : Int32} {p1 : Int32} {K : Mem} {u : Int32} (hf : f_X4_goTogether p0 p1 K = some u) : cI (EC l D ad aI aZ aF) yX4_goTogether wsX4_goTogether rmX4_goTogether [.int p0, .int p1] K u K := by
  rw [f_X4_goTogether] at hf
  refine j_entI (cc := cX4_goTogether) (maxL := 2) (EC_ok l D ad aI aZ aF) (Or.inr rfl) (by decide) rfl (Nat.le_of_ble_eq_true rfl) (fun G C ret => ?_)
  refine j_sub [0, 1] (lv2 := [(0, .int p0), (1, .int p1)]) rfl ?_
  refine j_iload_n C 0 dX4_goTogether_0 rfl rfl ?_
  obtain ⟨u1, h2, hf⟩ := bd hf
  refine j_cNI C [.int p0] gX4_goTogether_X8_ringOf_n52 rfl nm_RX4_52 mX4_goTogether_iX8 mX4_goTogether_sX8_ringOf hdX8_ringOf.2 ⟨⟨rfl, rfl⟩, Nat.le_of_ble_eq_true rfl, Nat.le_of_ble_eq_true rfl⟩ rfl (k_X8_ringOf h2) dX4_goTogether_1 rfl (Nat.le_of_ble_eq_true rfl) ?_
  refine j_iload_n C 1 dX4_goTogether_4 rfl rfl ?_
  obtain ⟨u3, h4, hf⟩ := bd hf
  refine j_cNI C [.int p1] gX4_goTogether_X8_ringOf_n52 rfl nm_RX4_52 mX4_goTogether_iX8 mX4_goTogether_sX8_ringOf hdX8_ringOf.2 ⟨⟨rfl, rfl⟩, Nat.le_of_ble_eq_true rfl, Nat.le_of_ble_eq_true rfl⟩ rfl (k_X8_ringOf h4) dX4_goTogether_5 rfl (Nat.le_of_ble_eq_true rfl) ?_
  refine j_icmp_eq C 26 dX4_goTogether_8 (by decide) hf (fun hf => ?_) (fun hf => ?_)
  · refine j_iconst C (v := 0) dX4_goTogether_26 (by decide) ?_
    cases hf
    exact ret _ _ dX4_goTogether_27 (fun _ => rfl)
  · refine j_iload_n C 0 dX4_goTogether_11 rfl rfl ?_
    obtain ⟨u5, h6, hf⟩ := bd hf
    refine j_cNI C [.int p0] gX4_goTogether_X8_sideOf_n55 rfl nm_RX4_55 mX4_goTogether_iX8 mX4_goTogether_sX8_sideOf hdX8_sideOf.2 ⟨⟨rfl, rfl⟩, Nat.le_of_ble_eq_true rfl, Nat.le_of_ble_eq_true rfl⟩ rfl (k_X8_sideOf h6) dX4_goTogether_12 rfl (Nat.le_of_ble_eq_true rfl) ?_
    refine j_iload_n C 1 dX4_goTogether_15 rfl rfl ?_
    obtain ⟨u7, h8, hf⟩ := bd hf
    refine j_cNI C [.int p1] gX4_goTogether_X8_sideOf_n55 rfl nm_RX4_55 mX4_goTogether_iX8 mX4_goTogether_sX8_sideOf hdX8_sideOf.2 ⟨⟨rfl, rfl⟩, Nat.le_of_ble_eq_true rfl, Nat.le_of_ble_eq_true rfl⟩ rfl (k_X8_sideOf h8) dX4_goTogether_16 rfl (Nat.le_of_ble_eq_true rfl) ?_
    refine j_icmp_ne C 26 dX4_goTogether_19 (by decide) hf (fun hf => ?_) (fun hf => ?_)
    · refine j_iconst C (v := 1) dX4_goTogether_22 (by decide) ?_
      refine j_goto C 27 dX4_goTogether_23 (by decide) ?_
      cases hf
      exact ret _ _ dX4_goTogether_27 (fun _ => rfl)
    · refine j_iconst C (v := 0) dX4_goTogether_26 (by decide) ?_
      cases hf
      exact ret _ _ dX4_goTogether_27 (fun _ => rfl)
/-- BarrierLights$Monitor.seesConflict(I)Z -/
def f_X4_seesConflict_L12 (cont : Int32 → Option (Int32)) (c0 : Nat) (c1 : Int32) (c2 : Int32) : Nat → Int32 → Mem → Option (Int32)
  | 0, _, _ => none
  | n + 1, y3, K => if 8 ≤ y3 then (cont y3) else ((f_X8_bit c2 K).bind fun u3 => (if (c1 &&& u3) = 0 then (some 0) else ((f_X8_bit y3 K).bind fun u8 => if (c1 &&& u8) = 0 then (some 0) else (some 1)) : Option (Int32)).bind fun v5 => lt v5 fun x10 => if x10 = 0 then (lt (y3 + 1) fun x11 => f_X4_seesConflict_L12 cont c0 c1 c2 n x11 K) else (if inb c2 8 = true then ((f_X4_goes (K (c0 + 1) (ix c2)) K).bind fun u12 => if u12 = 0 then (lt (y3 + 1) fun x14 => f_X4_seesConflict_L12 cont c0 c1 c2 n x14 K) else (if inb y3 8 = true then ((f_X4_goes (K (c0 + 1) (ix y3)) K).bind fun u15 => if u15 = 0 then (lt (y3 + 1) fun x17 => f_X4_seesConflict_L12 cont c0 c1 c2 n x17 K) else ((f_X4_goTogether c2 y3 K).bind fun u18 => if u18 = 0 then (some 1) else (lt (y3 + 1) fun x20 => f_X4_seesConflict_L12 cont c0 c1 c2 n x20 K))) else none)) else none))
def f_X4_seesConflict_L2 (cont : Int32 → Option (Int32)) (c0 : Nat) (c1 : Int32) : Nat → Int32 → Mem → Option (Int32)
  | 0, _, _ => none
  | n + 1, y2, K => if 8 ≤ y2 then (cont y2) else (lt (y2 + 1) fun x2 => f_X4_seesConflict_L12 (fun v21 => lt (y2 + 1) fun x22 => f_X4_seesConflict_L2 cont c0 c1 n x22 K) c0 c1 y2 70 x2 K)
def f_X4_seesConflict (b : Nat) (p1 : Int32) (K : Mem) : Option (Int32) := lt 0 fun x1 => f_X4_seesConflict_L2 (fun v23 => some 0) b p1 70 x1 K
abbrev rmX4_seesConflict : Room := { frames := 2, cells := 0, slots := 0, locals := 41 }
theorem mX4_seesConflict_iX8 : Cond.initialized RX8 ∈ wsX4_seesConflict := by decide +kernel
theorem mX4_seesConflict_sX8_bit : Cond.static yX8_bit ∈ wsX4_seesConflict := by decide +kernel
theorem iX4_seesConflict_X4 : ∀ w ∈ u_ws RX4 TX4 4, w ∈ wsX4_seesConflict := fun _ h => List.mem_cons_of_mem _ (List.mem_append_right _ h)
theorem mX4_seesConflict_f9 : Cond.fieldLink RX4 9 "BarrierLights$Monitor" "shown" "[I" ∈ wsX4_seesConflict := by decide +kernel
theorem hdX4_goes : yX4_goes.cls = RX4 ∧ yX4_goes.cls ≠ "java/lang/invoke/MethodHandle" ∧ yX4_goes.cls ≠ "java/lang/invoke/VarHandle" ∧ (parseMethodDescriptor yX4_goes.desc).map (fun d => d.parameters.length) = some 1 := by decide +kernel
theorem hdX4_goTogether : yX4_goTogether.cls = RX4 ∧ yX4_goTogether.cls ≠ "java/lang/invoke/MethodHandle" ∧ yX4_goTogether.cls ≠ "java/lang/invoke/VarHandle" ∧ (parseMethodDescriptor yX4_goTogether.desc).map (fun d => d.parameters.length) = some 2 := by decide +kernel
set_option maxRecDepth 100000 in
set_option maxHeartbeats 4000000 in
theorem lp_X4_seesConflict_L12 {l : Launch} {D : va_G} {ad : Nat → Nat} {aI aZ aF : ClassId} {G : jG} {c0 : Nat} {c1 : Int32} {c2 : Int32} (hc0 : isM c0) {K0 : Mem} {u : Int32} (C : jC (EC l D ad aI aZ aF) G cX4_seesConflict yX4_seesConflict.cls wsX4_seesConflict rmX4_seesConflict 5) (ret : ∀ (pc : Nat) (lv : List (Nat × Value)), decode cX4_seesConflict pc = .ok (.ireturn, 1) → (.boolean = FieldType.boolean → bb u = true) → jW (EC l D ad aI aZ aF) G K0 pc lv [.int u]) {cont : Int32 → Option (Int32)} (hcont : ∀ v , cont v = some u → jW (EC l D ad aI aZ aF) G K0 88 [(0, .ref (ad c0)), (1, .int c1), (2, .int c2), (3, .int v)] []) : ∀ (n : Nat) (y3 : Int32) (K : Mem), K = K0 → f_X4_seesConflict_L12 cont c0 c1 c2 n y3 K = some u → jW (EC l D ad aI aZ aF) G K 12 [(0, .ref (ad c0)), (1, .int c1), (2, .int c2), (3, .int y3)] [] := by
  intro n
  induction n with
  | zero =>
    intro y3 K hK hf
    rw [f_X4_seesConflict_L12] at hf
    cases hf
  | succ n ih =>
    intro y3 K hK hf
    subst hK
    rw [f_X4_seesConflict_L12] at hf
    refine j_iload_n C 3 dX4_seesConflict_12 rfl rfl ?_
    refine j_bipush C (v := 8) dX4_seesConflict_13 (by decide) ?_
    refine j_icmp_ge C 88 dX4_seesConflict_15 (by decide) hf (fun hf => ?_) (fun hf => ?_)
    · exact hcont _ hf
    · refine j_iload_n C 1 dX4_seesConflict_18 rfl rfl ?_
      refine j_iload_n C 2 dX4_seesConflict_19 rfl rfl ?_
      obtain ⟨u3, h4, hf⟩ := bd hf
      refine j_cNI C [.int c2] gX4_seesConflict_X8_bit_n41 rfl nm_RX4_41 mX4_seesConflict_iX8 mX4_seesConflict_sX8_bit hdX8_bit.2 ⟨⟨rfl, rfl⟩, Nat.le_of_ble_eq_true rfl, Nat.le_of_ble_eq_true rfl⟩ rfl (k_X8_bit h4) dX4_seesConflict_20 rfl (Nat.le_of_ble_eq_true rfl) ?_
      refine j_iand C dX4_seesConflict_23 ?_
      obtain ⟨v5, h6, hf⟩ := bd hf
      have jj7 : jW (EC l D ad aI aZ aF) G K 41 [(0, .ref (ad c0)), (1, .int c1), (2, .int c2), (3, .int y3)] [.int v5] := by
        refine j_istore C (fun y => [(4, .int y), (0, .ref (ad c0)), (1, .int c1), (2, .int c2), (3, .int y3)]) dX4_seesConflict_41 (by decide) (fun _ => rfl) hf (fun x10 hf => ?_)
        refine j_iload C 0 dX4_seesConflict_43 rfl ?_
        refine j_if_eq C 82 dX4_seesConflict_45 (by decide) hf (fun hf => ?_) (fun hf => ?_)
        · refine j_iinc C (v := (y3 + 1)) 4 (fun y => [(3, .int y), (4, .int x10), (0, .ref (ad c0)), (1, .int c1), (2, .int c2)]) dX4_seesConflict_82 rfl rfl (by decide) (fun _ => rfl) hf (fun x11 hf => ?_)
          refine j_goto C 12 dX4_seesConflict_85 (by decide) ?_
          refine j_sub [2, 3, 4, 0] rfl ?_
          exact ih _ _ rfl hf
        · refine j_aload_n C 1 dX4_seesConflict_48 rfl rfl ?_
          refine j_get C 0 iX4_seesConflict_X4 (g_M hc0) rfl (by decide) mX4_seesConflict_f9 rfl rfl dX4_seesConflict_49 ?_
          refine j_iload_n C 3 dX4_seesConflict_52 rfl rfl ?_
          refine j_iald C 0 (g_M1 hc0) rfl dX4_seesConflict_53 hf (fun hf => ?_)
          obtain ⟨u12, h13, hf⟩ := bd hf
          refine j_cSI C [.int ((K (c0 + 1) (ix c2)))] gX4_seesConflict_X4_goes rfl hdX4_goes.2 ⟨⟨rfl, rfl⟩, Nat.le_of_ble_eq_true rfl, Nat.le_of_ble_eq_true rfl⟩ rfl (k_X4_goes h13) dX4_seesConflict_54 rfl (Nat.le_of_ble_eq_true rfl) ?_
          refine j_if_eq C 82 dX4_seesConflict_57 (by decide) hf (fun hf => ?_) (fun hf => ?_)
          · refine j_iinc C (v := (y3 + 1)) 4 (fun y => [(3, .int y), (4, .int x10), (0, .ref (ad c0)), (1, .int c1), (2, .int c2)]) dX4_seesConflict_82 rfl rfl (by decide) (fun _ => rfl) hf (fun x14 hf => ?_)
            refine j_goto C 12 dX4_seesConflict_85 (by decide) ?_
            refine j_sub [2, 3, 4, 0] rfl ?_
            exact ih _ _ rfl hf
          · refine j_aload_n C 1 dX4_seesConflict_60 rfl rfl ?_
            refine j_get C 0 iX4_seesConflict_X4 (g_M hc0) rfl (by decide) mX4_seesConflict_f9 rfl rfl dX4_seesConflict_61 ?_
            refine j_iload_n C 4 dX4_seesConflict_64 rfl rfl ?_
            refine j_iald C 0 (g_M1 hc0) rfl dX4_seesConflict_65 hf (fun hf => ?_)
            obtain ⟨u15, h16, hf⟩ := bd hf
            refine j_cSI C [.int ((K (c0 + 1) (ix y3)))] gX4_seesConflict_X4_goes rfl hdX4_goes.2 ⟨⟨rfl, rfl⟩, Nat.le_of_ble_eq_true rfl, Nat.le_of_ble_eq_true rfl⟩ rfl (k_X4_goes h16) dX4_seesConflict_66 rfl (Nat.le_of_ble_eq_true rfl) ?_
            refine j_if_eq C 82 dX4_seesConflict_69 (by decide) hf (fun hf => ?_) (fun hf => ?_)
            · refine j_iinc C (v := (y3 + 1)) 4 (fun y => [(3, .int y), (4, .int x10), (0, .ref (ad c0)), (1, .int c1), (2, .int c2)]) dX4_seesConflict_82 rfl rfl (by decide) (fun _ => rfl) hf (fun x17 hf => ?_)
              refine j_goto C 12 dX4_seesConflict_85 (by decide) ?_
              refine j_sub [2, 3, 4, 0] rfl ?_
              exact ih _ _ rfl hf
            · refine j_iload_n C 3 dX4_seesConflict_72 rfl rfl ?_
              refine j_iload_n C 4 dX4_seesConflict_73 rfl rfl ?_
              obtain ⟨u18, h19, hf⟩ := bd hf
              refine j_cSI C [.int c2, .int y3] gX4_seesConflict_X4_goTogether rfl hdX4_goTogether.2 ⟨⟨rfl, rfl⟩, Nat.le_of_ble_eq_true rfl, Nat.le_of_ble_eq_true rfl⟩ rfl (k_X4_goTogether h19) dX4_seesConflict_74 rfl (Nat.le_of_ble_eq_true rfl) ?_
              refine j_if_ne C 82 dX4_seesConflict_77 (by decide) hf (fun hf => ?_) (fun hf => ?_)
              · refine j_iconst C (v := 1) dX4_seesConflict_80 (by decide) ?_
                cases hf
                exact ret _ _ dX4_seesConflict_81 (fun _ => rfl)
              · refine j_iinc C (v := (y3 + 1)) 4 (fun y => [(3, .int y), (4, .int x10), (0, .ref (ad c0)), (1, .int c1), (2, .int c2)]) dX4_seesConflict_82 rfl rfl (by decide) (fun _ => rfl) hf (fun x20 hf => ?_)
                refine j_goto C 12 dX4_seesConflict_85 (by decide) ?_
                refine j_sub [2, 3, 4, 0] rfl ?_
                exact ih _ _ rfl hf
      clear hf
      have hf := h6
      clear h6
      refine j_if_eq C 40 dX4_seesConflict_24 (by decide) hf (fun hf => ?_) (fun hf => ?_)
      · refine j_iconst C (v := 0) dX4_seesConflict_40 (by decide) ?_
        cases hf
        exact jj7
      · refine j_iload_n C 1 dX4_seesConflict_27 rfl rfl ?_
        refine j_iload_n C 3 dX4_seesConflict_28 rfl rfl ?_
        obtain ⟨u8, h9, hf⟩ := bd hf
        refine j_cNI C [.int y3] gX4_seesConflict_X8_bit_n41 rfl nm_RX4_41 mX4_seesConflict_iX8 mX4_seesConflict_sX8_bit hdX8_bit.2 ⟨⟨rfl, rfl⟩, Nat.le_of_ble_eq_true rfl, Nat.le_of_ble_eq_true rfl⟩ rfl (k_X8_bit h9) dX4_seesConflict_29 rfl (Nat.le_of_ble_eq_true rfl) ?_
        refine j_iand C dX4_seesConflict_32 ?_
        refine j_if_eq C 40 dX4_seesConflict_33 (by decide) hf (fun hf => ?_) (fun hf => ?_)
        · refine j_iconst C (v := 0) dX4_seesConflict_40 (by decide) ?_
          cases hf
          exact jj7
        · refine j_iconst C (v := 1) dX4_seesConflict_36 (by decide) ?_
          refine j_goto C 41 dX4_seesConflict_37 (by decide) ?_
          cases hf
          exact jj7
set_option maxRecDepth 100000 in
set_option maxHeartbeats 4000000 in
theorem lp_X4_seesConflict_L2 {l : Launch} {D : va_G} {ad : Nat → Nat} {aI aZ aF : ClassId} {G : jG} {c0 : Nat} {c1 : Int32} (hc0 : isM c0) {K0 : Mem} {u : Int32} (C : jC (EC l D ad aI aZ aF) G cX4_seesConflict yX4_seesConflict.cls wsX4_seesConflict rmX4_seesConflict 5) (ret : ∀ (pc : Nat) (lv : List (Nat × Value)), decode cX4_seesConflict pc = .ok (.ireturn, 1) → (.boolean = FieldType.boolean → bb u = true) → jW (EC l D ad aI aZ aF) G K0 pc lv [.int u]) {cont : Int32 → Option (Int32)} (hcont : ∀ v , cont v = some u → jW (EC l D ad aI aZ aF) G K0 94 [(0, .ref (ad c0)), (1, .int c1), (2, .int v)] []) : ∀ (n : Nat) (y2 : Int32) (K : Mem), K = K0 → f_X4_seesConflict_L2 cont c0 c1 n y2 K = some u → jW (EC l D ad aI aZ aF) G K 2 [(0, .ref (ad c0)), (1, .int c1), (2, .int y2)] [] := by
  intro n
  induction n with
  | zero =>
    intro y2 K hK hf
    rw [f_X4_seesConflict_L2] at hf
    cases hf
  | succ n ih =>
    intro y2 K hK hf
    subst hK
    rw [f_X4_seesConflict_L2] at hf
    refine j_iload_n C 2 dX4_seesConflict_2 rfl rfl ?_
    refine j_bipush C (v := 8) dX4_seesConflict_3 (by decide) ?_
    refine j_icmp_ge C 94 dX4_seesConflict_5 (by decide) hf (fun hf => ?_) (fun hf => ?_)
    · exact hcont _ hf
    · refine j_iload_n C 2 dX4_seesConflict_8 rfl rfl ?_
      refine j_iconst C (v := 1) dX4_seesConflict_9 (by decide) ?_
      refine j_iadd C dX4_seesConflict_10 ?_
      refine j_istore_n C (fun y => [(3, .int y), (0, .ref (ad c0)), (1, .int c1), (2, .int y2)]) dX4_seesConflict_11 rfl (by decide) (fun _ => rfl) hf (fun x2 hf => ?_)
      refine j_sub [1, 2, 3, 0] (lv2 := [(0, .ref (ad c0)), (1, .int c1), (2, .int y2), (3, .int x2)]) rfl ?_
      refine lp_X4_seesConflict_L12 hc0 C ret (fun v21 hf => ?_) 70 _ _ rfl hf
      refine j_iinc C (v := (y2 + 1)) 2 (fun y => [(2, .int y), (0, .ref (ad c0)), (1, .int c1), (3, .int v21)]) dX4_seesConflict_88 rfl rfl (by decide) (fun _ => rfl) hf (fun x22 hf => ?_)
      refine j_goto C 2 dX4_seesConflict_91 (by decide) ?_
      refine j_sub [1, 2, 0] rfl ?_
      exact ih _ _ rfl hf
set_option maxRecDepth 100000 in
set_option maxHeartbeats 4000000 in
theorem k_X4_seesConflict {l : Launch} {D : va_G} {ad : Nat → Nat} {aI aZ aF : ClassId} {b : Nat} {p1 : Int32} (hb : isM b) {K : Mem} {u : Int32} (hf : f_X4_seesConflict b p1 K = some u) : cI (EC l D ad aI aZ aF) yX4_seesConflict wsX4_seesConflict rmX4_seesConflict [.ref (ad b), .int p1] K u K := by
  rw [f_X4_seesConflict] at hf
  refine j_entI (cc := cX4_seesConflict) (maxL := 5) (EC_ok l D ad aI aZ aF) (Or.inr rfl) (by decide) rfl (Nat.le_of_ble_eq_true rfl) (fun G C ret => ?_)
  refine j_sub [0, 1] (lv2 := [(0, .ref (ad b)), (1, .int p1)]) rfl ?_
  refine j_iconst C (v := 0) dX4_seesConflict_0 (by decide) ?_
  refine j_istore_n C (fun y => [(2, .int y), (0, .ref (ad b)), (1, .int p1)]) dX4_seesConflict_1 rfl (by decide) (fun _ => rfl) hf (fun x1 hf => ?_)
  refine j_sub [1, 2, 0] (lv2 := [(0, .ref (ad b)), (1, .int p1), (2, .int x1)]) rfl ?_
  refine lp_X4_seesConflict_L2 hb C ret (fun v23 hf => ?_) 70 _ _ rfl hf
  refine j_iconst C (v := 0) dX4_seesConflict_94 (by decide) ?_
  cases hf
  exact ret _ _ dX4_seesConflict_95 (fun _ => rfl)
/-- BarrierLights$Monitor.seesDark(I)Z -/
def f_X4_seesDark_L2 (cont : Int32 → Option (Int32)) (c0 : Nat) (c1 : Int32) : Nat → Int32 → Mem → Option (Int32)
  | 0, _, _ => none
  | n + 1, y2, K => if 8 ≤ y2 then (cont y2) else ((f_X8_bit y2 K).bind fun u2 => (if (c1 &&& u2) = 0 then (some 0) else (some 1) : Option (Int32)).bind fun v4 => lt v4 fun x7 => if x7 = 0 then (lt (y2 + 1) fun x8 => f_X4_seesDark_L2 cont c0 c1 n x8 K) else (if (K c0 3) = 0 then (lt (y2 + 1) fun x9 => f_X4_seesDark_L2 cont c0 c1 n x9 K) else (if inb y2 8 = true then (if (K (c0 + 1) (ix y2)) = 0 then (if inb y2 8 = true then (if (K (c0 + 2) (ix y2)) = 0 then (some 1) else (lt (y2 + 1) fun x10 => f_X4_seesDark_L2 cont c0 c1 n x10 K)) else none) else (lt (y2 + 1) fun x11 => f_X4_seesDark_L2 cont c0 c1 n x11 K)) else none)))
def f_X4_seesDark (b : Nat) (p1 : Int32) (K : Mem) : Option (Int32) := lt 0 fun x1 => f_X4_seesDark_L2 (fun v12 => some 0) b p1 70 x1 K
abbrev rmX4_seesDark : Room := { frames := 1, cells := 0, slots := 0, locals := 20 }
theorem mX4_seesDark_iX8 : Cond.initialized RX8 ∈ wsX4_seesDark := by decide +kernel
theorem mX4_seesDark_sX8_bit : Cond.static yX8_bit ∈ wsX4_seesDark := by decide +kernel
theorem iX4_seesDark_X4 : ∀ w ∈ u_ws RX4 TX4 4, w ∈ wsX4_seesDark := fun _ h => List.mem_cons_of_mem _ (List.mem_append_right _ h)
theorem mX4_seesDark_f21 : Cond.fieldLink RX4 21 "BarrierLights$Monitor" "sawBefore" "Z" ∈ wsX4_seesDark := by decide +kernel
theorem mX4_seesDark_f9 : Cond.fieldLink RX4 9 "BarrierLights$Monitor" "shown" "[I" ∈ wsX4_seesDark := by decide +kernel
theorem mX4_seesDark_f15 : Cond.fieldLink RX4 15 "BarrierLights$Monitor" "shownBefore" "[I" ∈ wsX4_seesDark := by decide +kernel
set_option maxRecDepth 100000 in
set_option maxHeartbeats 4000000 in
theorem lp_X4_seesDark_L2 {l : Launch} {D : va_G} {ad : Nat → Nat} {aI aZ aF : ClassId} {G : jG} {c0 : Nat} {c1 : Int32} (hc0 : isM c0) {K0 : Mem} {u : Int32} (C : jC (EC l D ad aI aZ aF) G cX4_seesDark yX4_seesDark.cls wsX4_seesDark rmX4_seesDark 4) (ret : ∀ (pc : Nat) (lv : List (Nat × Value)), decode cX4_seesDark pc = .ok (.ireturn, 1) → (.boolean = FieldType.boolean → bb u = true) → jW (EC l D ad aI aZ aF) G K0 pc lv [.int u]) {cont : Int32 → Option (Int32)} (hcont : ∀ v , cont v = some u → jW (EC l D ad aI aZ aF) G K0 60 [(0, .ref (ad c0)), (1, .int c1), (2, .int v)] []) : ∀ (n : Nat) (y2 : Int32) (K : Mem), K = K0 → f_X4_seesDark_L2 cont c0 c1 n y2 K = some u → jW (EC l D ad aI aZ aF) G K 2 [(0, .ref (ad c0)), (1, .int c1), (2, .int y2)] [] := by
  intro n
  induction n with
  | zero =>
    intro y2 K hK hf
    rw [f_X4_seesDark_L2] at hf
    cases hf
  | succ n ih =>
    intro y2 K hK hf
    subst hK
    rw [f_X4_seesDark_L2] at hf
    refine j_iload_n C 2 dX4_seesDark_2 rfl rfl ?_
    refine j_bipush C (v := 8) dX4_seesDark_3 (by decide) ?_
    refine j_icmp_ge C 60 dX4_seesDark_5 (by decide) hf (fun hf => ?_) (fun hf => ?_)
    · exact hcont _ hf
    · refine j_iload_n C 1 dX4_seesDark_8 rfl rfl ?_
      refine j_iload_n C 2 dX4_seesDark_9 rfl rfl ?_
      obtain ⟨u2, h3, hf⟩ := bd hf
      refine j_cNI C [.int y2] gX4_seesDark_X8_bit_n41 rfl nm_RX4_41 mX4_seesDark_iX8 mX4_seesDark_sX8_bit hdX8_bit.2 ⟨⟨rfl, rfl⟩, Nat.le_of_ble_eq_true rfl, Nat.le_of_ble_eq_true rfl⟩ rfl (k_X8_bit h3) dX4_seesDark_10 rfl (Nat.le_of_ble_eq_true rfl) ?_
      refine j_iand C dX4_seesDark_13 ?_
      obtain ⟨v4, h5, hf⟩ := bd hf
      have jj6 : jW (EC l D ad aI aZ aF) G K 22 [(0, .ref (ad c0)), (1, .int c1), (2, .int y2)] [.int v4] := by
        refine j_istore_n C (fun y => [(3, .int y), (0, .ref (ad c0)), (1, .int c1), (2, .int y2)]) dX4_seesDark_22 rfl (by decide) (fun _ => rfl) hf (fun x7 hf => ?_)
        refine j_iload_n C 0 dX4_seesDark_23 rfl rfl ?_
        refine j_if_eq C 54 dX4_seesDark_24 (by decide) hf (fun hf => ?_) (fun hf => ?_)
        · refine j_iinc C (v := (y2 + 1)) 3 (fun y => [(2, .int y), (3, .int x7), (0, .ref (ad c0)), (1, .int c1)]) dX4_seesDark_54 rfl rfl (by decide) (fun _ => rfl) hf (fun x8 hf => ?_)
          refine j_goto C 2 dX4_seesDark_57 (by decide) ?_
          refine j_sub [2, 3, 0] rfl ?_
          exact ih _ _ rfl hf
        · refine j_aload_n C 1 dX4_seesDark_27 rfl rfl ?_
          refine j_get C 3 iX4_seesDark_X4 (g_M hc0) rfl (by decide) mX4_seesDark_f21 rfl rfl dX4_seesDark_28 ?_
          refine j_if_eq C 54 dX4_seesDark_31 (by decide) hf (fun hf => ?_) (fun hf => ?_)
          · refine j_iinc C (v := (y2 + 1)) 3 (fun y => [(2, .int y), (3, .int x7), (0, .ref (ad c0)), (1, .int c1)]) dX4_seesDark_54 rfl rfl (by decide) (fun _ => rfl) hf (fun x9 hf => ?_)
            refine j_goto C 2 dX4_seesDark_57 (by decide) ?_
            refine j_sub [2, 3, 0] rfl ?_
            exact ih _ _ rfl hf
          · refine j_aload_n C 1 dX4_seesDark_34 rfl rfl ?_
            refine j_get C 0 iX4_seesDark_X4 (g_M hc0) rfl (by decide) mX4_seesDark_f9 rfl rfl dX4_seesDark_35 ?_
            refine j_iload_n C 3 dX4_seesDark_38 rfl rfl ?_
            refine j_iald C 0 (g_M1 hc0) rfl dX4_seesDark_39 hf (fun hf => ?_)
            refine j_if_ne C 54 dX4_seesDark_40 (by decide) hf (fun hf => ?_) (fun hf => ?_)
            · refine j_aload_n C 1 dX4_seesDark_43 rfl rfl ?_
              refine j_get C 1 iX4_seesDark_X4 (g_M hc0) rfl (by decide) mX4_seesDark_f15 rfl rfl dX4_seesDark_44 ?_
              refine j_iload_n C 3 dX4_seesDark_47 rfl rfl ?_
              refine j_iald C 0 (g_M2 hc0) rfl dX4_seesDark_48 hf (fun hf => ?_)
              refine j_if_ne C 54 dX4_seesDark_49 (by decide) hf (fun hf => ?_) (fun hf => ?_)
              · refine j_iconst C (v := 1) dX4_seesDark_52 (by decide) ?_
                cases hf
                exact ret _ _ dX4_seesDark_53 (fun _ => rfl)
              · refine j_iinc C (v := (y2 + 1)) 3 (fun y => [(2, .int y), (3, .int x7), (0, .ref (ad c0)), (1, .int c1)]) dX4_seesDark_54 rfl rfl (by decide) (fun _ => rfl) hf (fun x10 hf => ?_)
                refine j_goto C 2 dX4_seesDark_57 (by decide) ?_
                refine j_sub [2, 3, 0] rfl ?_
                exact ih _ _ rfl hf
            · refine j_iinc C (v := (y2 + 1)) 3 (fun y => [(2, .int y), (3, .int x7), (0, .ref (ad c0)), (1, .int c1)]) dX4_seesDark_54 rfl rfl (by decide) (fun _ => rfl) hf (fun x11 hf => ?_)
              refine j_goto C 2 dX4_seesDark_57 (by decide) ?_
              refine j_sub [2, 3, 0] rfl ?_
              exact ih _ _ rfl hf
      clear hf
      have hf := h5
      clear h5
      refine j_if_eq C 21 dX4_seesDark_14 (by decide) hf (fun hf => ?_) (fun hf => ?_)
      · refine j_iconst C (v := 0) dX4_seesDark_21 (by decide) ?_
        cases hf
        exact jj6
      · refine j_iconst C (v := 1) dX4_seesDark_17 (by decide) ?_
        refine j_goto C 22 dX4_seesDark_18 (by decide) ?_
        cases hf
        exact jj6
set_option maxRecDepth 100000 in
set_option maxHeartbeats 4000000 in
theorem k_X4_seesDark {l : Launch} {D : va_G} {ad : Nat → Nat} {aI aZ aF : ClassId} {b : Nat} {p1 : Int32} (hb : isM b) {K : Mem} {u : Int32} (hf : f_X4_seesDark b p1 K = some u) : cI (EC l D ad aI aZ aF) yX4_seesDark wsX4_seesDark rmX4_seesDark [.ref (ad b), .int p1] K u K := by
  rw [f_X4_seesDark] at hf
  refine j_entI (cc := cX4_seesDark) (maxL := 4) (EC_ok l D ad aI aZ aF) (Or.inr rfl) (by decide) rfl (Nat.le_of_ble_eq_true rfl) (fun G C ret => ?_)
  refine j_sub [0, 1] (lv2 := [(0, .ref (ad b)), (1, .int p1)]) rfl ?_
  refine j_iconst C (v := 0) dX4_seesDark_0 (by decide) ?_
  refine j_istore_n C (fun y => [(2, .int y), (0, .ref (ad b)), (1, .int p1)]) dX4_seesDark_1 rfl (by decide) (fun _ => rfl) hf (fun x1 hf => ?_)
  refine j_sub [1, 2, 0] (lv2 := [(0, .ref (ad b)), (1, .int p1), (2, .int x1)]) rfl ?_
  refine lp_X4_seesDark_L2 hb C ret (fun v12 hf => ?_) 70 _ _ rfl hf
  refine j_iconst C (v := 0) dX4_seesDark_60 (by decide) ?_
  cases hf
  exact ret _ _ dX4_seesDark_61 (fun _ => rfl)
/-- BarrierLights$Monitor.seesShort(I)Z -/
def f_X4_seesShort_L2 (cont : Int32 → Option (Int32)) (c0 : Nat) (c1 : Int32) : Nat → Int32 → Mem → Option (Int32)
  | 0, _, _ => none
  | n + 1, y2, K => if 8 ≤ y2 then (cont y2) else (if inb y2 8 = true then ((f_X4_goes (K (c0 + 2) (ix y2)) K).bind fun u2 => (if u2 = 0 then (some 0) else (if inb y2 8 = true then ((f_X4_goes (K (c0 + 1) (ix y2)) K).bind fun u7 => if u7 = 0 then (some 1) else (some 0)) else none) : Option (Int32)).bind fun v4 => lt v4 fun x9 => (f_X8_bit y2 K).bind fun u10 => if (c1 &&& u10) = 0 then (lt (y2 + 1) fun x12 => f_X4_seesShort_L2 cont c0 c1 n x12 K) else (if x9 = 0 then (lt (y2 + 1) fun x13 => f_X4_seesShort_L2 cont c0 c1 n x13 K) else (if inb y2 8 = true then (if 3 ≤ (K (c0 + 3) (ix y2)) then (lt (y2 + 1) fun x14 => f_X4_seesShort_L2 cont c0 c1 n x14 K) else (some 1)) else none))) else none)
def f_X4_seesShort (b : Nat) (p1 : Int32) (K : Mem) : Option (Int32) := lt 0 fun x1 => f_X4_seesShort_L2 (fun v15 => some 0) b p1 70 x1 K
abbrev rmX4_seesShort : Room := { frames := 1, cells := 0, slots := 0, locals := 20 }
theorem iX4_seesShort_X4 : ∀ w ∈ u_ws RX4 TX4 4, w ∈ wsX4_seesShort := fun _ h => List.mem_cons_of_mem _ (List.mem_append_right _ h)
theorem mX4_seesShort_f15 : Cond.fieldLink RX4 15 "BarrierLights$Monitor" "shownBefore" "[I" ∈ wsX4_seesShort := by decide +kernel
theorem mX4_seesShort_f9 : Cond.fieldLink RX4 9 "BarrierLights$Monitor" "shown" "[I" ∈ wsX4_seesShort := by decide +kernel
theorem mX4_seesShort_iX8 : Cond.initialized RX8 ∈ wsX4_seesShort := by decide +kernel
theorem mX4_seesShort_sX8_bit : Cond.static yX8_bit ∈ wsX4_seesShort := by decide +kernel
theorem mX4_seesShort_f18 : Cond.fieldLink RX4 18 "BarrierLights$Monitor" "yellowTicks" "[I" ∈ wsX4_seesShort := by decide +kernel
set_option maxRecDepth 100000 in
set_option maxHeartbeats 4000000 in
theorem lp_X4_seesShort_L2 {l : Launch} {D : va_G} {ad : Nat → Nat} {aI aZ aF : ClassId} {G : jG} {c0 : Nat} {c1 : Int32} (hc0 : isM c0) {K0 : Mem} {u : Int32} (C : jC (EC l D ad aI aZ aF) G cX4_seesShort yX4_seesShort.cls wsX4_seesShort rmX4_seesShort 4) (ret : ∀ (pc : Nat) (lv : List (Nat × Value)), decode cX4_seesShort pc = .ok (.ireturn, 1) → (.boolean = FieldType.boolean → bb u = true) → jW (EC l D ad aI aZ aF) G K0 pc lv [.int u]) {cont : Int32 → Option (Int32)} (hcont : ∀ v , cont v = some u → jW (EC l D ad aI aZ aF) G K0 69 [(0, .ref (ad c0)), (1, .int c1), (2, .int v)] []) : ∀ (n : Nat) (y2 : Int32) (K : Mem), K = K0 → f_X4_seesShort_L2 cont c0 c1 n y2 K = some u → jW (EC l D ad aI aZ aF) G K 2 [(0, .ref (ad c0)), (1, .int c1), (2, .int y2)] [] := by
  intro n
  induction n with
  | zero =>
    intro y2 K hK hf
    rw [f_X4_seesShort_L2] at hf
    cases hf
  | succ n ih =>
    intro y2 K hK hf
    subst hK
    rw [f_X4_seesShort_L2] at hf
    refine j_iload_n C 2 dX4_seesShort_2 rfl rfl ?_
    refine j_bipush C (v := 8) dX4_seesShort_3 (by decide) ?_
    refine j_icmp_ge C 69 dX4_seesShort_5 (by decide) hf (fun hf => ?_) (fun hf => ?_)
    · exact hcont _ hf
    · refine j_aload_n C 0 dX4_seesShort_8 rfl rfl ?_
      refine j_get C 1 iX4_seesShort_X4 (g_M hc0) rfl (by decide) mX4_seesShort_f15 rfl rfl dX4_seesShort_9 ?_
      refine j_iload_n C 2 dX4_seesShort_12 rfl rfl ?_
      refine j_iald C 0 (g_M2 hc0) rfl dX4_seesShort_13 hf (fun hf => ?_)
      obtain ⟨u2, h3, hf⟩ := bd hf
      refine j_cSI C [.int ((K (c0 + 2) (ix y2)))] gX4_seesShort_X4_goes rfl hdX4_goes.2 ⟨⟨rfl, rfl⟩, Nat.le_of_ble_eq_true rfl, Nat.le_of_ble_eq_true rfl⟩ rfl (k_X4_goes h3) dX4_seesShort_14 rfl (Nat.le_of_ble_eq_true rfl) ?_
      obtain ⟨v4, h5, hf⟩ := bd hf
      have jj6 : jW (EC l D ad aI aZ aF) G K 37 [(0, .ref (ad c0)), (1, .int c1), (2, .int y2)] [.int v4] := by
        refine j_istore_n C (fun y => [(3, .int y), (0, .ref (ad c0)), (1, .int c1), (2, .int y2)]) dX4_seesShort_37 rfl (by decide) (fun _ => rfl) hf (fun x9 hf => ?_)
        refine j_iload_n C 2 dX4_seesShort_38 rfl rfl ?_
        refine j_iload_n C 3 dX4_seesShort_39 rfl rfl ?_
        obtain ⟨u10, h11, hf⟩ := bd hf
        refine j_cNI C [.int y2] gX4_seesShort_X8_bit_n41 rfl nm_RX4_41 mX4_seesShort_iX8 mX4_seesShort_sX8_bit hdX8_bit.2 ⟨⟨rfl, rfl⟩, Nat.le_of_ble_eq_true rfl, Nat.le_of_ble_eq_true rfl⟩ rfl (k_X8_bit h11) dX4_seesShort_40 rfl (Nat.le_of_ble_eq_true rfl) ?_
        refine j_iand C dX4_seesShort_43 ?_
        refine j_if_eq C 63 dX4_seesShort_44 (by decide) hf (fun hf => ?_) (fun hf => ?_)
        · refine j_iinc C (v := (y2 + 1)) 3 (fun y => [(2, .int y), (3, .int x9), (0, .ref (ad c0)), (1, .int c1)]) dX4_seesShort_63 rfl rfl (by decide) (fun _ => rfl) hf (fun x12 hf => ?_)
          refine j_goto C 2 dX4_seesShort_66 (by decide) ?_
          refine j_sub [2, 3, 0] rfl ?_
          exact ih _ _ rfl hf
        · refine j_iload_n C 0 dX4_seesShort_47 rfl rfl ?_
          refine j_if_eq C 63 dX4_seesShort_48 (by decide) hf (fun hf => ?_) (fun hf => ?_)
          · refine j_iinc C (v := (y2 + 1)) 3 (fun y => [(2, .int y), (3, .int x9), (0, .ref (ad c0)), (1, .int c1)]) dX4_seesShort_63 rfl rfl (by decide) (fun _ => rfl) hf (fun x13 hf => ?_)
            refine j_goto C 2 dX4_seesShort_66 (by decide) ?_
            refine j_sub [2, 3, 0] rfl ?_
            exact ih _ _ rfl hf
          · refine j_aload_n C 1 dX4_seesShort_51 rfl rfl ?_
            refine j_get C 2 iX4_seesShort_X4 (g_M hc0) rfl (by decide) mX4_seesShort_f18 rfl rfl dX4_seesShort_52 ?_
            refine j_iload_n C 3 dX4_seesShort_55 rfl rfl ?_
            refine j_iald C 0 (g_M3 hc0) rfl dX4_seesShort_56 hf (fun hf => ?_)
            refine j_iconst C (v := 3) dX4_seesShort_57 (by decide) ?_
            refine j_icmp_ge C 63 dX4_seesShort_58 (by decide) hf (fun hf => ?_) (fun hf => ?_)
            · refine j_iinc C (v := (y2 + 1)) 3 (fun y => [(2, .int y), (3, .int x9), (0, .ref (ad c0)), (1, .int c1)]) dX4_seesShort_63 rfl rfl (by decide) (fun _ => rfl) hf (fun x14 hf => ?_)
              refine j_goto C 2 dX4_seesShort_66 (by decide) ?_
              refine j_sub [2, 3, 0] rfl ?_
              exact ih _ _ rfl hf
            · refine j_iconst C (v := 1) dX4_seesShort_61 (by decide) ?_
              cases hf
              exact ret _ _ dX4_seesShort_62 (fun _ => rfl)
      clear hf
      have hf := h5
      clear h5
      refine j_if_eq C 36 dX4_seesShort_17 (by decide) hf (fun hf => ?_) (fun hf => ?_)
      · refine j_iconst C (v := 0) dX4_seesShort_36 (by decide) ?_
        cases hf
        exact jj6
      · refine j_aload_n C 0 dX4_seesShort_20 rfl rfl ?_
        refine j_get C 0 iX4_seesShort_X4 (g_M hc0) rfl (by decide) mX4_seesShort_f9 rfl rfl dX4_seesShort_21 ?_
        refine j_iload_n C 2 dX4_seesShort_24 rfl rfl ?_
        refine j_iald C 0 (g_M1 hc0) rfl dX4_seesShort_25 hf (fun hf => ?_)
        obtain ⟨u7, h8, hf⟩ := bd hf
        refine j_cSI C [.int ((K (c0 + 1) (ix y2)))] gX4_seesShort_X4_goes rfl hdX4_goes.2 ⟨⟨rfl, rfl⟩, Nat.le_of_ble_eq_true rfl, Nat.le_of_ble_eq_true rfl⟩ rfl (k_X4_goes h8) dX4_seesShort_26 rfl (Nat.le_of_ble_eq_true rfl) ?_
        refine j_if_ne C 36 dX4_seesShort_29 (by decide) hf (fun hf => ?_) (fun hf => ?_)
        · refine j_iconst C (v := 1) dX4_seesShort_32 (by decide) ?_
          refine j_goto C 37 dX4_seesShort_33 (by decide) ?_
          cases hf
          exact jj6
        · refine j_iconst C (v := 0) dX4_seesShort_36 (by decide) ?_
          cases hf
          exact jj6
set_option maxRecDepth 100000 in
set_option maxHeartbeats 4000000 in
theorem k_X4_seesShort {l : Launch} {D : va_G} {ad : Nat → Nat} {aI aZ aF : ClassId} {b : Nat} {p1 : Int32} (hb : isM b) {K : Mem} {u : Int32} (hf : f_X4_seesShort b p1 K = some u) : cI (EC l D ad aI aZ aF) yX4_seesShort wsX4_seesShort rmX4_seesShort [.ref (ad b), .int p1] K u K := by
  rw [f_X4_seesShort] at hf
  refine j_entI (cc := cX4_seesShort) (maxL := 4) (EC_ok l D ad aI aZ aF) (Or.inr rfl) (by decide) rfl (Nat.le_of_ble_eq_true rfl) (fun G C ret => ?_)
  refine j_sub [0, 1] (lv2 := [(0, .ref (ad b)), (1, .int p1)]) rfl ?_
  refine j_iconst C (v := 0) dX4_seesShort_0 (by decide) ?_
  refine j_istore_n C (fun y => [(2, .int y), (0, .ref (ad b)), (1, .int p1)]) dX4_seesShort_1 rfl (by decide) (fun _ => rfl) hf (fun x1 hf => ?_)
  refine j_sub [1, 2, 0] (lv2 := [(0, .ref (ad b)), (1, .int p1), (2, .int x1)]) rfl ?_
  refine lp_X4_seesShort_L2 hb C ret (fun v15 hf => ?_) 70 _ _ rfl hf
  refine j_iconst C (v := 0) dX4_seesShort_69 (by decide) ?_
  cases hf
  exact ret _ _ dX4_seesShort_70 (fun _ => rfl)
/-- BarrierLights$Monitor.remember()V -/
def f_X4_remember_L7 (c0 : Nat) : Nat → Int32 → Mem → Option (Int32 × Mem)
  | 0, _, _ => none
  | n + 1, y1, K => if 8 ≤ y1 then (some (y1, K)) else (if inb y1 8 = true then (if inb y1 8 = true then (st K (c0 + 2) (ix y1) (K (c0 + 1) (ix y1)) fun K3 => if inb y1 8 = true then ((if ((K3 (c0 + 1) (ix y1)) &&& 4) = 0 then (if inb y1 8 = true then (if ((K3 (c0 + 1) (ix y1)) &&& 2) = 0 then (some K3) else (if inb y1 8 = true then (if inb y1 8 = true then (st K3 (c0 + 3) (ix y1) ((K3 (c0 + 3) (ix y1)) + 1) fun K7 => some K7) else none) else none)) else none) else (if inb y1 8 = true then (st K3 (c0 + 3) (ix y1) 0 fun K8 => some K8) else none) : Option (Mem)).bind fun v4 => lt (y1 + 1) fun x9 => f_X4_remember_L7 c0 n x9 v4) else none) else none) else none)
def f_X4_remember (b : Nat) (K : Mem) : Option (Mem) := st K b 3 1 fun K1 => lt 0 fun x2 => (f_X4_remember_L7 b 70 x2 K1).bind fun v10 => some v10.2
abbrev rmX4_remember : Room := { frames := 0, cells := 0, slots := 0, locals := 0 }
theorem iX4_remember_X4 : ∀ w ∈ u_ws RX4 TX4 4, w ∈ wsX4_remember := fun _ h => List.mem_cons_of_mem _ (List.mem_append_right _ h)
theorem mX4_remember_f21 : Cond.fieldLink RX4 21 "BarrierLights$Monitor" "sawBefore" "Z" ∈ wsX4_remember := by decide +kernel
theorem mX4_remember_f15 : Cond.fieldLink RX4 15 "BarrierLights$Monitor" "shownBefore" "[I" ∈ wsX4_remember := by decide +kernel
theorem mX4_remember_f9 : Cond.fieldLink RX4 9 "BarrierLights$Monitor" "shown" "[I" ∈ wsX4_remember := by decide +kernel
theorem mX4_remember_f18 : Cond.fieldLink RX4 18 "BarrierLights$Monitor" "yellowTicks" "[I" ∈ wsX4_remember := by decide +kernel
set_option maxRecDepth 100000 in
set_option maxHeartbeats 4000000 in
theorem lp_X4_remember_L7 {l : Launch} {D : va_G} {ad : Nat → Nat} {aI aZ aF : ClassId} {G : jG} {c0 : Nat} (hc0 : isM c0) (C : jC (EC l D ad aI aZ aF) G cX4_remember yX4_remember.cls wsX4_remember rmX4_remember 2) : ∀ (n : Nat) (y1 : Int32) (K : Mem) (v : Int32 × Mem), f_X4_remember_L7 c0 n y1 K = some v → jW (EC l D ad aI aZ aF) G v.2 73 [(0, .ref (ad c0)), (1, .int v.1)] [] → jW (EC l D ad aI aZ aF) G K 7 [(0, .ref (ad c0)), (1, .int y1)] [] := by
  intro n
  induction n with
  | zero =>
    intro y1 K v hf jj
    rw [f_X4_remember_L7] at hf
    cases hf
  | succ n ih =>
    intro y1 K v hf jj
    rw [f_X4_remember_L7] at hf
    refine j_iload_n C 1 dX4_remember_7 rfl rfl ?_
    refine j_bipush C (v := 8) dX4_remember_8 (by decide) ?_
    refine j_icmp_ge C 73 dX4_remember_10 (by decide) hf (fun hf => ?_) (fun hf => ?_)
    · cases hf
      exact jj
    · refine j_aload_n C 0 dX4_remember_13 rfl rfl ?_
      refine j_get C 1 iX4_remember_X4 (g_M hc0) rfl (by decide) mX4_remember_f15 rfl rfl dX4_remember_14 ?_
      refine j_iload_n C 1 dX4_remember_17 rfl rfl ?_
      refine j_aload_n C 0 dX4_remember_18 rfl rfl ?_
      refine j_get C 0 iX4_remember_X4 (g_M hc0) rfl (by decide) mX4_remember_f9 rfl rfl dX4_remember_19 ?_
      refine j_iload_n C 1 dX4_remember_22 rfl rfl ?_
      refine j_iald C 0 (g_M1 hc0) rfl dX4_remember_23 hf (fun hf => ?_)
      refine j_iast C 0 (g_M2 hc0) (s_M2 hc0 _ _) rfl dX4_remember_24 hf (fun K3 hf => ?_)
      refine j_aload_n C 0 dX4_remember_25 rfl rfl ?_
      refine j_get C 0 iX4_remember_X4 (g_M hc0) rfl (by decide) mX4_remember_f9 rfl rfl dX4_remember_26 ?_
      refine j_iload_n C 1 dX4_remember_29 rfl rfl ?_
      refine j_iald C 0 (g_M1 hc0) rfl dX4_remember_30 hf (fun hf => ?_)
      refine j_iconst C (v := 4) dX4_remember_31 (by decide) ?_
      refine j_iand C dX4_remember_32 ?_
      obtain ⟨v4, h5, hf⟩ := bd hf
      have jj6 : jW (EC l D ad aI aZ aF) G v4 67 [(0, .ref (ad c0)), (1, .int y1)] [] := by
        refine j_iinc C (v := (y1 + 1)) 1 (fun y => [(1, .int y), (0, .ref (ad c0))]) dX4_remember_67 rfl rfl (by decide) (fun _ => rfl) hf (fun x9 hf => ?_)
        refine j_goto C 7 dX4_remember_70 (by decide) ?_
        refine j_sub [1, 0] rfl ?_
        exact ih _ _ _ hf jj
      clear hf
      have hf := h5
      clear h5
      refine j_if_eq C 46 dX4_remember_33 (by decide) hf (fun hf => ?_) (fun hf => ?_)
      · refine j_aload_n C 0 dX4_remember_46 rfl rfl ?_
        refine j_get C 0 iX4_remember_X4 (g_M hc0) rfl (by decide) mX4_remember_f9 rfl rfl dX4_remember_47 ?_
        refine j_iload_n C 1 dX4_remember_50 rfl rfl ?_
        refine j_iald C 0 (g_M1 hc0) rfl dX4_remember_51 hf (fun hf => ?_)
        refine j_iconst C (v := 2) dX4_remember_52 (by decide) ?_
        refine j_iand C dX4_remember_53 ?_
        refine j_if_eq C 67 dX4_remember_54 (by decide) hf (fun hf => ?_) (fun hf => ?_)
        · cases hf
          exact jj6
        · refine j_aload_n C 0 dX4_remember_57 rfl rfl ?_
          refine j_get C 2 iX4_remember_X4 (g_M hc0) rfl (by decide) mX4_remember_f18 rfl rfl dX4_remember_58 ?_
          refine j_iload_n C 1 dX4_remember_61 rfl rfl ?_
          refine j_dup2 C dX4_remember_62 rfl rfl ?_
          refine j_iald C 0 (g_M3 hc0) rfl dX4_remember_63 hf (fun hf => ?_)
          refine j_iconst C (v := 1) dX4_remember_64 (by decide) ?_
          refine j_iadd C dX4_remember_65 ?_
          refine j_iast C 0 (g_M3 hc0) (s_M3 hc0 _ _) rfl dX4_remember_66 hf (fun K7 hf => ?_)
          cases hf
          exact jj6
      · refine j_aload_n C 0 dX4_remember_36 rfl rfl ?_
        refine j_get C 2 iX4_remember_X4 (g_M hc0) rfl (by decide) mX4_remember_f18 rfl rfl dX4_remember_37 ?_
        refine j_iload_n C 1 dX4_remember_40 rfl rfl ?_
        refine j_iconst C (v := 0) dX4_remember_41 (by decide) ?_
        refine j_iast C 0 (g_M3 hc0) (s_M3 hc0 _ _) rfl dX4_remember_42 hf (fun K8 hf => ?_)
        refine j_goto C 67 dX4_remember_43 (by decide) ?_
        cases hf
        exact jj6
set_option maxRecDepth 100000 in
set_option maxHeartbeats 4000000 in
theorem k_X4_remember {l : Launch} {D : va_G} {ad : Nat → Nat} {aI aZ aF : ClassId} {b : Nat} (hb : isM b) {K : Mem} {u : Mem} (hf : f_X4_remember b K = some u) : cV (EC l D ad aI aZ aF) yX4_remember wsX4_remember rmX4_remember [.ref (ad b)] K u := by
  rw [f_X4_remember] at hf
  refine j_entV (cc := cX4_remember) (maxL := 2) (EC_ok l D ad aI aZ aF) (by decide) rfl (Nat.le_of_ble_eq_true rfl) (fun G C ret => ?_)
  refine j_sub [0] (lv2 := [(0, .ref (ad b))]) rfl ?_
  refine j_aload_n C 0 dX4_remember_0 rfl rfl ?_
  refine j_iconst C (v := 1) dX4_remember_1 (by decide) ?_
  refine j_put C (ty := .boolean) 3 iX4_remember_X4 tyX4 tyX4_ok nmX4 (g_M hb) (s_M_3 hb _) rfl (by decide) mX4_remember_f21 rfl rfl (by decide +kernel) rfl rfl (Nat.le_of_ble_eq_true rfl) dX4_remember_2 hf (fun K1 hf => ?_)
  refine j_iconst C (v := 0) dX4_remember_5 (by decide) ?_
  refine j_istore_n C (fun y => [(1, .int y), (0, .ref (ad b))]) dX4_remember_6 rfl (by decide) (fun _ => rfl) hf (fun x2 hf => ?_)
  obtain ⟨v10, h11, hf⟩ := bd hf
  refine j_sub [1, 0] (lv2 := [(0, .ref (ad b)), (1, .int x2)]) rfl ?_
  refine lp_X4_remember_L7 hb C 70 _ _ _ h11 ?_
  cases hf
  exact ret _ _ dX4_remember_73
/-- BarrierLights$Monitor.look(I)I -/
def f_X4_look (b : Nat) (p1 : Int32) (K : Mem) : Option (Int32 × Mem) := lt 0 fun x1 => (f_X4_seesConflict b p1 K).bind fun u2 => (if u2 = 0 then ((f_X4_seesDark b p1 K).bind fun u7 => if u7 = 0 then ((f_X4_seesShort b p1 K).bind fun u9 => if u9 = 0 then (some x1) else (lt 3 fun x11 => some x11)) else (lt 2 fun x12 => some x12)) else (lt 1 fun x13 => some x13) : Option (Int32)).bind fun v4 => (f_X4_remember b K).bind fun u14 => some (v4, u14)
abbrev rmX4_look : Room := { frames := 3, cells := 0, slots := 0, locals := 65 }
theorem hdX4_seesConflict : yX4_seesConflict.cls = RX4 ∧ yX4_seesConflict.cls ≠ "java/lang/invoke/MethodHandle" ∧ yX4_seesConflict.cls ≠ "java/lang/invoke/VarHandle" ∧ (parseMethodDescriptor yX4_seesConflict.desc).map (fun d => d.parameters.length) = some 1 := by decide +kernel
theorem hdX4_seesDark : yX4_seesDark.cls = RX4 ∧ yX4_seesDark.cls ≠ "java/lang/invoke/MethodHandle" ∧ yX4_seesDark.cls ≠ "java/lang/invoke/VarHandle" ∧ (parseMethodDescriptor yX4_seesDark.desc).map (fun d => d.parameters.length) = some 1 := by decide +kernel
theorem hdX4_seesShort : yX4_seesShort.cls = RX4 ∧ yX4_seesShort.cls ≠ "java/lang/invoke/MethodHandle" ∧ yX4_seesShort.cls ≠ "java/lang/invoke/VarHandle" ∧ (parseMethodDescriptor yX4_seesShort.desc).map (fun d => d.parameters.length) = some 1 := by decide +kernel
theorem hdX4_remember : yX4_remember.cls = RX4 ∧ yX4_remember.cls ≠ "java/lang/invoke/MethodHandle" ∧ yX4_remember.cls ≠ "java/lang/invoke/VarHandle" ∧ (parseMethodDescriptor yX4_remember.desc).map (fun d => d.parameters.length) = some 0 := by decide +kernel
set_option maxRecDepth 100000 in
set_option maxHeartbeats 4000000 in
theorem k_X4_look {l : Launch} {D : va_G} {ad : Nat → Nat} {aI aZ aF : ClassId} {b : Nat} {p1 : Int32} (hb : isM b) {K : Mem} {u : Int32 × Mem} (hf : f_X4_look b p1 K = some u) : cI (EC l D ad aI aZ aF) yX4_look wsX4_look rmX4_look [.ref (ad b), .int p1] K u.1 u.2 := by
  rw [f_X4_look] at hf
  refine j_entI (cc := cX4_look) (maxL := 3) (EC_ok l D ad aI aZ aF) (Or.inl rfl) (by decide) rfl (Nat.le_of_ble_eq_true rfl) (fun G C ret => ?_)
  refine j_sub [0, 1] (lv2 := [(0, .ref (ad b)), (1, .int p1)]) rfl ?_
  refine j_iconst C (v := 0) dX4_look_0 (by decide) ?_
  refine j_istore_n C (fun y => [(2, .int y), (0, .ref (ad b)), (1, .int p1)]) dX4_look_1 rfl (by decide) (fun _ => rfl) hf (fun x1 hf => ?_)
  refine j_aload_n C 1 dX4_look_2 rfl rfl ?_
  refine j_iload_n C 2 dX4_look_3 rfl rfl ?_
  obtain ⟨u2, h3, hf⟩ := bd hf
  refine j_cVI C [.int p1] gX4_look_X4_seesConflict rfl hdX4_seesConflict ⟨⟨rfl, rfl⟩, Nat.le_of_ble_eq_true rfl, Nat.le_of_ble_eq_true rfl⟩ rfl (g_M hb) rfl (k_X4_seesConflict hb h3) dX4_look_4 rfl (Nat.le_of_ble_eq_true rfl) ?_
  obtain ⟨v4, h5, hf⟩ := bd hf
  have jj6 : jW (EC l D ad aI aZ aF) G K 38 [(0, .ref (ad b)), (1, .int p1), (2, .int v4)] [] := by
    refine j_aload_n C 0 dX4_look_38 rfl rfl ?_
    obtain ⟨u14, h15, hf⟩ := bd hf
    refine j_cVV C [] gX4_look_X4_remember rfl hdX4_remember ⟨⟨rfl, rfl⟩, Nat.le_of_ble_eq_true rfl, Nat.le_of_ble_eq_true rfl⟩ rfl (g_M hb) rfl (k_X4_remember hb h15) dX4_look_39 rfl (Nat.le_of_ble_eq_true rfl) ?_
    refine j_iload_n C 2 dX4_look_42 rfl rfl ?_
    cases hf
    exact ret _ _ dX4_look_43 (fun h => by cases h)
  clear hf
  have hf := h5
  clear h5
  refine j_if_eq C 15 dX4_look_7 (by decide) hf (fun hf => ?_) (fun hf => ?_)
  · refine j_aload_n C 1 dX4_look_15 rfl rfl ?_
    refine j_iload_n C 2 dX4_look_16 rfl rfl ?_
    obtain ⟨u7, h8, hf⟩ := bd hf
    refine j_cVI C [.int p1] gX4_look_X4_seesDark rfl hdX4_seesDark ⟨⟨rfl, rfl⟩, Nat.le_of_ble_eq_true rfl, Nat.le_of_ble_eq_true rfl⟩ rfl (g_M hb) rfl (k_X4_seesDark hb h8) dX4_look_17 rfl (Nat.le_of_ble_eq_true rfl) ?_
    refine j_if_eq C 28 dX4_look_20 (by decide) hf (fun hf => ?_) (fun hf => ?_)
    · refine j_aload_n C 1 dX4_look_28 rfl rfl ?_
      refine j_iload_n C 2 dX4_look_29 rfl rfl ?_
      obtain ⟨u9, h10, hf⟩ := bd hf
      refine j_cVI C [.int p1] gX4_look_X4_seesShort rfl hdX4_seesShort ⟨⟨rfl, rfl⟩, Nat.le_of_ble_eq_true rfl, Nat.le_of_ble_eq_true rfl⟩ rfl (g_M hb) rfl (k_X4_seesShort hb h10) dX4_look_30 rfl (Nat.le_of_ble_eq_true rfl) ?_
      refine j_if_eq C 38 dX4_look_33 (by decide) hf (fun hf => ?_) (fun hf => ?_)
      · cases hf
        refine j_sub [1, 2, 0] rfl ?_
        exact jj6
      · refine j_iconst C (v := 3) dX4_look_36 (by decide) ?_
        refine j_istore_n C (fun y => [(2, .int y), (0, .ref (ad b)), (1, .int p1)]) dX4_look_37 rfl (by decide) (fun _ => rfl) hf (fun x11 hf => ?_)
        cases hf
        refine j_sub [1, 2, 0] rfl ?_
        exact jj6
    · refine j_iconst C (v := 2) dX4_look_23 (by decide) ?_
      refine j_istore_n C (fun y => [(2, .int y), (0, .ref (ad b)), (1, .int p1)]) dX4_look_24 rfl (by decide) (fun _ => rfl) hf (fun x12 hf => ?_)
      refine j_goto C 38 dX4_look_25 (by decide) ?_
      cases hf
      refine j_sub [1, 2, 0] rfl ?_
      exact jj6
  · refine j_iconst C (v := 1) dX4_look_10 (by decide) ?_
    refine j_istore_n C (fun y => [(2, .int y), (0, .ref (ad b)), (1, .int p1)]) dX4_look_11 rfl (by decide) (fun _ => rfl) hf (fun x13 hf => ?_)
    refine j_goto C 38 dX4_look_12 (by decide) ?_
    cases hf
    refine j_sub [1, 2, 0] rfl ?_
    exact jj6
/-- BarrierLights$Controller.watch()V -/
def f_X0_watch_L2 (c0 : Nat) : Nat → Int32 → Mem → Option (Int32 × Mem)
  | 0, _, _ => none
  | n + 1, y1, K => if 8 ≤ y1 then (some (y1, K)) else ((f_X0_lampsOf c0 y1 K).bind fun u2 => (f_X4_see (c0 + 12) y1 u2 K).bind fun u4 => lt (y1 + 1) fun x6 => f_X0_watch_L2 c0 n x6 u4)
def f_X0_watch (b : Nat) (K : Mem) : Option (Mem) := lt 0 fun x1 => (f_X0_watch_L2 b 70 x1 K).bind fun v7 => (f_X4_look (b + 12) (v7.2 b 10) v7.2).bind fun u9 => lt u9.1 fun x11 => if x11 = 0 then (some u9.2) else (st u9.2 b 11 x11 fun K12 => (f_X6_rest (b + 16) K12).bind fun u13 => (f_X6_rest (b + 17) u13).bind fun u15 => st u15 b 13 0 fun K17 => st K17 b 14 0 fun K18 => some K18)
abbrev rmX0_watch : Room := { frames := 4, cells := 0, slots := 0, locals := 87 }
theorem iX0_watch_X0 : ∀ w ∈ u_ws RX0 TX0 16, w ∈ wsX0_watch := fun _ h => List.mem_cons_of_mem _ (List.mem_append_left _ (List.mem_append_left _ (List.mem_append_right _ h)))
theorem mX0_watch_f45 : Cond.fieldLink RX0 45 "BarrierLights$Controller" "monitor" "LBarrierLights$Monitor;" ∈ wsX0_watch := by decide +kernel
theorem hdX0_lampsOf : yX0_lampsOf.cls = RX0 ∧ yX0_lampsOf.cls ≠ "java/lang/invoke/MethodHandle" ∧ yX0_lampsOf.cls ≠ "java/lang/invoke/VarHandle" ∧ (parseMethodDescriptor yX0_lampsOf.desc).map (fun d => d.parameters.length) = some 1 := by decide +kernel
theorem hdX4_see : yX4_see.cls = RX4 ∧ yX4_see.cls ≠ "java/lang/invoke/MethodHandle" ∧ yX4_see.cls ≠ "java/lang/invoke/VarHandle" ∧ (parseMethodDescriptor yX4_see.desc).map (fun d => d.parameters.length) = some 2 := by decide +kernel
theorem mX0_watch_f67 : Cond.fieldLink RX0 67 "BarrierLights$Controller" "used" "I" ∈ wsX0_watch := by decide +kernel
theorem hdX4_look : yX4_look.cls = RX4 ∧ yX4_look.cls ≠ "java/lang/invoke/MethodHandle" ∧ yX4_look.cls ≠ "java/lang/invoke/VarHandle" ∧ (parseMethodDescriptor yX4_look.desc).map (fun d => d.parameters.length) = some 1 := by decide +kernel
theorem mX0_watch_f70 : Cond.fieldLink RX0 70 "BarrierLights$Controller" "whyFlashing" "I" ∈ wsX0_watch := by decide +kernel
theorem mX0_watch_f52 : Cond.fieldLink RX0 52 "BarrierLights$Controller" "ring0" "LBarrierLights$Ring;" ∈ wsX0_watch := by decide +kernel
theorem mX0_watch_f56 : Cond.fieldLink RX0 56 "BarrierLights$Controller" "ring1" "LBarrierLights$Ring;" ∈ wsX0_watch := by decide +kernel
theorem mX0_watch_f76 : Cond.fieldLink RX0 76 "BarrierLights$Controller" "calls" "I" ∈ wsX0_watch := by decide +kernel
theorem mX0_watch_f79 : Cond.fieldLink RX0 79 "BarrierLights$Controller" "walkCalls" "I" ∈ wsX0_watch := by decide +kernel
set_option maxRecDepth 100000 in
set_option maxHeartbeats 4000000 in
theorem lp_X0_watch_L2 {l : Launch} {D : va_G} {ad : Nat → Nat} {aI aZ aF : ClassId} {G : jG} {c0 : Nat} (hc0 : isC c0) (C : jC (EC l D ad aI aZ aF) G cX0_watch yX0_watch.cls wsX0_watch rmX0_watch 2) : ∀ (n : Nat) (y1 : Int32) (K : Mem) (v : Int32 × Mem), f_X0_watch_L2 c0 n y1 K = some v → jW (EC l D ad aI aZ aF) G v.2 27 [(0, .ref (ad c0)), (1, .int v.1)] [] → jW (EC l D ad aI aZ aF) G K 2 [(0, .ref (ad c0)), (1, .int y1)] [] := by
  intro n
  induction n with
  | zero =>
    intro y1 K v hf jj
    rw [f_X0_watch_L2] at hf
    cases hf
  | succ n ih =>
    intro y1 K v hf jj
    rw [f_X0_watch_L2] at hf
    refine j_iload_n C 1 dX0_watch_2 rfl rfl ?_
    refine j_bipush C (v := 8) dX0_watch_3 (by decide) ?_
    refine j_icmp_ge C 27 dX0_watch_5 (by decide) hf (fun hf => ?_) (fun hf => ?_)
    · cases hf
      exact jj
    · refine j_aload_n C 0 dX0_watch_8 rfl rfl ?_
      refine j_get C 5 iX0_watch_X0 (g_C hc0) rfl (by decide) mX0_watch_f45 rfl rfl dX0_watch_9 ?_
      refine j_iload_n C 1 dX0_watch_12 rfl rfl ?_
      refine j_aload_n C 0 dX0_watch_13 rfl rfl ?_
      refine j_iload_n C 1 dX0_watch_14 rfl rfl ?_
      obtain ⟨u2, h3, hf⟩ := bd hf
      refine j_cVI C [.int y1] gX0_watch_X0_lampsOf rfl hdX0_lampsOf ⟨⟨rfl, rfl⟩, Nat.le_of_ble_eq_true rfl, Nat.le_of_ble_eq_true rfl⟩ rfl (g_C hc0) rfl (k_X0_lampsOf hc0 h3) dX0_watch_15 rfl (Nat.le_of_ble_eq_true rfl) ?_
      obtain ⟨u4, h5, hf⟩ := bd hf
      refine j_cVV C [.int y1, .int u2] gX0_watch_X4_see rfl hdX4_see ⟨⟨rfl, rfl⟩, Nat.le_of_ble_eq_true rfl, Nat.le_of_ble_eq_true rfl⟩ rfl (g_M (isC_M hc0)) rfl (k_X4_see (isC_M hc0) h5) dX0_watch_18 rfl (Nat.le_of_ble_eq_true rfl) ?_
      refine j_iinc C (v := (y1 + 1)) 1 (fun y => [(1, .int y), (0, .ref (ad c0))]) dX0_watch_21 rfl rfl (by decide) (fun _ => rfl) hf (fun x6 hf => ?_)
      refine j_goto C 2 dX0_watch_24 (by decide) ?_
      refine j_sub [1, 0] rfl ?_
      exact ih _ _ _ hf jj
set_option maxRecDepth 100000 in
set_option maxHeartbeats 4000000 in
theorem k_X0_watch {l : Launch} {D : va_G} {ad : Nat → Nat} {aI aZ aF : ClassId} {b : Nat} (hb : isC b) {K : Mem} {u : Mem} (hf : f_X0_watch b K = some u) : cV (EC l D ad aI aZ aF) yX0_watch wsX0_watch rmX0_watch [.ref (ad b)] K u := by
  rw [f_X0_watch] at hf
  refine j_entV (cc := cX0_watch) (maxL := 2) (EC_ok l D ad aI aZ aF) (by decide) rfl (Nat.le_of_ble_eq_true rfl) (fun G C ret => ?_)
  refine j_sub [0] (lv2 := [(0, .ref (ad b))]) rfl ?_
  refine j_iconst C (v := 0) dX0_watch_0 (by decide) ?_
  refine j_istore_n C (fun y => [(1, .int y), (0, .ref (ad b))]) dX0_watch_1 rfl (by decide) (fun _ => rfl) hf (fun x1 hf => ?_)
  obtain ⟨v7, h8, hf⟩ := bd hf
  refine j_sub [1, 0] (lv2 := [(0, .ref (ad b)), (1, .int x1)]) rfl ?_
  refine lp_X0_watch_L2 hb C 70 _ _ _ h8 ?_
  refine j_aload_n C 0 dX0_watch_27 rfl rfl ?_
  refine j_get C 5 iX0_watch_X0 (g_C hb) rfl (by decide) mX0_watch_f45 rfl rfl dX0_watch_28 ?_
  refine j_aload_n C 0 dX0_watch_31 rfl rfl ?_
  refine j_get C 10 iX0_watch_X0 (g_C hb) rfl (by decide) mX0_watch_f67 rfl rfl dX0_watch_32 ?_
  obtain ⟨u9, h10, hf⟩ := bd hf
  refine j_cVI C [.int ((v7.2 b 10))] gX0_watch_X4_look rfl hdX4_look ⟨⟨rfl, rfl⟩, Nat.le_of_ble_eq_true rfl, Nat.le_of_ble_eq_true rfl⟩ rfl (g_M (isC_M hb)) rfl (k_X4_look (isC_M hb) h10) dX0_watch_35 rfl (Nat.le_of_ble_eq_true rfl) ?_
  refine j_istore_n C (fun y => [(1, .int y), (0, .ref (ad b))]) dX0_watch_38 rfl (by decide) (fun _ => rfl) hf (fun x11 hf => ?_)
  refine j_iload_n C 0 dX0_watch_39 rfl rfl ?_
  refine j_if_eq C 72 dX0_watch_40 (by decide) hf (fun hf => ?_) (fun hf => ?_)
  · cases hf
    exact ret _ _ dX0_watch_72
  · refine j_aload_n C 1 dX0_watch_43 rfl rfl ?_
    refine j_iload_n C 0 dX0_watch_44 rfl rfl ?_
    refine j_put C (ty := .int) 11 iX0_watch_X0 tyX0 tyX0_ok nmX0 (g_C hb) (s_C_11 hb _) rfl (by decide) mX0_watch_f70 rfl rfl (by decide +kernel) rfl rfl (Nat.le_of_ble_eq_true rfl) dX0_watch_45 hf (fun K12 hf => ?_)
    refine j_aload_n C 1 dX0_watch_48 rfl rfl ?_
    refine j_get C 6 iX0_watch_X0 (g_C hb) rfl (by decide) mX0_watch_f52 rfl rfl dX0_watch_49 ?_
    obtain ⟨u13, h14, hf⟩ := bd hf
    refine j_cVV C [] gX0_watch_X6_rest rfl hdX6_rest ⟨⟨rfl, rfl⟩, Nat.le_of_ble_eq_true rfl, Nat.le_of_ble_eq_true rfl⟩ rfl (g_R (isC_R0 hb)) rfl (k_X6_rest (isC_R0 hb) h14) dX0_watch_52 rfl (Nat.le_of_ble_eq_true rfl) ?_
    refine j_aload_n C 1 dX0_watch_55 rfl rfl ?_
    refine j_get C 7 iX0_watch_X0 (g_C hb) rfl (by decide) mX0_watch_f56 rfl rfl dX0_watch_56 ?_
    obtain ⟨u15, h16, hf⟩ := bd hf
    refine j_cVV C [] gX0_watch_X6_rest rfl hdX6_rest ⟨⟨rfl, rfl⟩, Nat.le_of_ble_eq_true rfl, Nat.le_of_ble_eq_true rfl⟩ rfl (g_R (isC_R1 hb)) rfl (k_X6_rest (isC_R1 hb) h16) dX0_watch_59 rfl (Nat.le_of_ble_eq_true rfl) ?_
    refine j_aload_n C 1 dX0_watch_62 rfl rfl ?_
    refine j_iconst C (v := 0) dX0_watch_63 (by decide) ?_
    refine j_put C (ty := .int) 13 iX0_watch_X0 tyX0 tyX0_ok nmX0 (g_C hb) (s_C_13 hb _) rfl (by decide) mX0_watch_f76 rfl rfl (by decide +kernel) rfl rfl (Nat.le_of_ble_eq_true rfl) dX0_watch_64 hf (fun K17 hf => ?_)
    refine j_aload_n C 1 dX0_watch_67 rfl rfl ?_
    refine j_iconst C (v := 0) dX0_watch_68 (by decide) ?_
    refine j_put C (ty := .int) 14 iX0_watch_X0 tyX0 tyX0_ok nmX0 (g_C hb) (s_C_14 hb _) rfl (by decide) mX0_watch_f79 rfl rfl (by decide +kernel) rfl rfl (Nat.le_of_ble_eq_true rfl) dX0_watch_69 hf (fun K18 hf => ?_)
    cases hf
    exact ret _ _ dX0_watch_72
/-- BarrierLights$Controller.pass(LBarrierLights$Plans;I)V -/
def f_X0_pass (b : Nat) (p2 : Int32) (K : Mem) : Option (Mem) := (f_X1_pass (b + 5) K).bind fun u1 => (f_X3_pass (b + 8) p2 u1).bind fun u3 => (f_X0_isOff b u3).bind fun u5 => if u5 = 0 then (if (u3 b 11) = 0 then ((f_X0_passCalls b u3).bind fun u7 => (f_X0_passTimes b (b + 16) u7).bind fun u9 => (f_X0_passTimes b (b + 17) u9).bind fun u11 => (f_X2_targetInForce (b + 9) (u11 b 10) u11).bind fun u13 => lt u13 fun x15 => (if x15 = (-1) then ((f_X3_isBeforeSplit (b + 8) u11).bind fun u19 => (f_X0_goByCalls b u19 u11).bind fun u21 => some u21) else ((f_X0_goByInput b x15 u11).bind fun u23 => some u23) : Option (Mem)).bind fun v16 => (f_X0_watch b v16).bind fun u25 => some u25) else (some u3)) else (some u3)
abbrev rmX0_pass : Room := { frames := 5, cells := 0, slots := 0, locals := 115 }
theorem iX0_pass_X0 : ∀ w ∈ u_ws RX0 TX0 16, w ∈ wsX0_pass := fun _ h => List.mem_cons_of_mem _ (List.mem_append_left _ (List.mem_append_left _ (List.mem_append_left _ (List.mem_append_left _ (List.mem_append_left _ (List.mem_append_left _ (List.mem_append_left _ (List.mem_append_right _ h))))))))
theorem mX0_pass_f24 : Cond.fieldLink RX0 24 "BarrierLights$Controller" "detectors" "LBarrierLights$Detectors;" ∈ wsX0_pass := by decide +kernel
theorem hdX1_pass : yX1_pass.cls = RX1 ∧ yX1_pass.cls ≠ "java/lang/invoke/MethodHandle" ∧ yX1_pass.cls ≠ "java/lang/invoke/VarHandle" ∧ (parseMethodDescriptor yX1_pass.desc).map (fun d => d.parameters.length) = some 0 := by decide +kernel
theorem mX0_pass_f31 : Cond.fieldLink RX0 31 "BarrierLights$Controller" "link" "LBarrierLights$Link;" ∈ wsX0_pass := by decide +kernel
theorem hdX3_pass : yX3_pass.cls = RX3 ∧ yX3_pass.cls ≠ "java/lang/invoke/MethodHandle" ∧ yX3_pass.cls ≠ "java/lang/invoke/VarHandle" ∧ (parseMethodDescriptor yX3_pass.desc).map (fun d => d.parameters.length) = some 2 := by decide +kernel
theorem hdX0_isOff : yX0_isOff.cls = RX0 ∧ yX0_isOff.cls ≠ "java/lang/invoke/MethodHandle" ∧ yX0_isOff.cls ≠ "java/lang/invoke/VarHandle" ∧ (parseMethodDescriptor yX0_isOff.desc).map (fun d => d.parameters.length) = some 0 := by decide +kernel
theorem mX0_pass_f70 : Cond.fieldLink RX0 70 "BarrierLights$Controller" "whyFlashing" "I" ∈ wsX0_pass := by decide +kernel
theorem hdX0_passCalls : yX0_passCalls.cls = RX0 ∧ yX0_passCalls.cls ≠ "java/lang/invoke/MethodHandle" ∧ yX0_passCalls.cls ≠ "java/lang/invoke/VarHandle" ∧ (parseMethodDescriptor yX0_passCalls.desc).map (fun d => d.parameters.length) = some 0 := by decide +kernel
theorem mX0_pass_f52 : Cond.fieldLink RX0 52 "BarrierLights$Controller" "ring0" "LBarrierLights$Ring;" ∈ wsX0_pass := by decide +kernel
theorem hdX0_passTimes : yX0_passTimes.cls = RX0 ∧ yX0_passTimes.cls ≠ "java/lang/invoke/MethodHandle" ∧ yX0_passTimes.cls ≠ "java/lang/invoke/VarHandle" ∧ (parseMethodDescriptor yX0_passTimes.desc).map (fun d => d.parameters.length) = some 1 := by decide +kernel
theorem mX0_pass_f56 : Cond.fieldLink RX0 56 "BarrierLights$Controller" "ring1" "LBarrierLights$Ring;" ∈ wsX0_pass := by decide +kernel
theorem mX0_pass_f38 : Cond.fieldLink RX0 38 "BarrierLights$Controller" "inputs" "LBarrierLights$Inputs;" ∈ wsX0_pass := by decide +kernel
theorem mX0_pass_f67 : Cond.fieldLink RX0 67 "BarrierLights$Controller" "used" "I" ∈ wsX0_pass := by decide +kernel
theorem hdX3_isBeforeSplit : yX3_isBeforeSplit.cls = RX3 ∧ yX3_isBeforeSplit.cls ≠ "java/lang/invoke/MethodHandle" ∧ yX3_isBeforeSplit.cls ≠ "java/lang/invoke/VarHandle" ∧ (parseMethodDescriptor yX3_isBeforeSplit.desc).map (fun d => d.parameters.length) = some 1 := by decide +kernel
theorem hdX0_goByCalls : yX0_goByCalls.cls = RX0 ∧ yX0_goByCalls.cls ≠ "java/lang/invoke/MethodHandle" ∧ yX0_goByCalls.cls ≠ "java/lang/invoke/VarHandle" ∧ (parseMethodDescriptor yX0_goByCalls.desc).map (fun d => d.parameters.length) = some 1 := by decide +kernel
theorem hdX0_goByInput : yX0_goByInput.cls = RX0 ∧ yX0_goByInput.cls ≠ "java/lang/invoke/MethodHandle" ∧ yX0_goByInput.cls ≠ "java/lang/invoke/VarHandle" ∧ (parseMethodDescriptor yX0_goByInput.desc).map (fun d => d.parameters.length) = some 1 := by decide +kernel
theorem hdX0_watch : yX0_watch.cls = RX0 ∧ yX0_watch.cls ≠ "java/lang/invoke/MethodHandle" ∧ yX0_watch.cls ≠ "java/lang/invoke/VarHandle" ∧ (parseMethodDescriptor yX0_watch.desc).map (fun d => d.parameters.length) = some 0 := by decide +kernel
set_option maxRecDepth 100000 in
set_option maxHeartbeats 4000000 in
theorem k_X0_pass {l : Launch} {D : va_G} {ad : Nat → Nat} {aI aZ aF : ClassId} {b : Nat} {p2 : Int32} (hb : isC b) {K : Mem} {u : Mem} (hf : f_X0_pass b p2 K = some u) : cV (EC l D ad aI aZ aF) yX0_pass wsX0_pass rmX0_pass [.ref (ad b), .ref (ad 1), .int p2] K u := by
  rw [f_X0_pass] at hf
  refine j_entV (cc := cX0_pass) (maxL := 4) (EC_ok l D ad aI aZ aF) (by decide) rfl (Nat.le_of_ble_eq_true rfl) (fun G C ret => ?_)
  refine j_sub [0, 1, 2] (lv2 := [(0, .ref (ad b)), (1, .ref (ad 1)), (2, .int p2)]) rfl ?_
  refine j_aload_n C 0 dX0_pass_0 rfl rfl ?_
  refine j_get C 2 iX0_pass_X0 (g_C hb) rfl (by decide) mX0_pass_f24 rfl rfl dX0_pass_1 ?_
  obtain ⟨u1, h2, hf⟩ := bd hf
  refine j_cVV C [] gX0_pass_X1_pass rfl hdX1_pass ⟨⟨rfl, rfl⟩, Nat.le_of_ble_eq_true rfl, Nat.le_of_ble_eq_true rfl⟩ rfl (g_D (isC_D hb)) rfl (k_X1_pass (isC_D hb) h2) dX0_pass_4 rfl (Nat.le_of_ble_eq_true rfl) ?_
  refine j_aload_n C 0 dX0_pass_7 rfl rfl ?_
  refine j_get C 3 iX0_pass_X0 (g_C hb) rfl (by decide) mX0_pass_f31 rfl rfl dX0_pass_8 ?_
  refine j_aload_n C 1 dX0_pass_11 rfl rfl ?_
  refine j_iload_n C 2 dX0_pass_12 rfl rfl ?_
  obtain ⟨u3, h4, hf⟩ := bd hf
  refine j_cVV C [.ref (ad 1), .int p2] gX0_pass_X3_pass rfl hdX3_pass ⟨⟨rfl, rfl⟩, Nat.le_of_ble_eq_true rfl, Nat.le_of_ble_eq_true rfl⟩ rfl (g_L (isC_L hb)) rfl (k_X3_pass (isC_L hb) h4) dX0_pass_13 rfl (Nat.le_of_ble_eq_true rfl) ?_
  refine j_aload_n C 0 dX0_pass_16 rfl rfl ?_
  obtain ⟨u5, h6, hf⟩ := bd hf
  refine j_cVI C [] gX0_pass_X0_isOff rfl hdX0_isOff ⟨⟨rfl, rfl⟩, Nat.le_of_ble_eq_true rfl, Nat.le_of_ble_eq_true rfl⟩ rfl (g_C hb) rfl (k_X0_isOff hb h6) dX0_pass_17 rfl (Nat.le_of_ble_eq_true rfl) ?_
  refine j_if_ne C 30 dX0_pass_20 (by decide) hf (fun hf => ?_) (fun hf => ?_)
  · refine j_aload_n C 0 dX0_pass_23 rfl rfl ?_
    refine j_get C 11 iX0_pass_X0 (g_C hb) rfl (by decide) mX0_pass_f70 rfl rfl dX0_pass_24 ?_
    refine j_if_eq C 31 dX0_pass_27 (by decide) hf (fun hf => ?_) (fun hf => ?_)
    · refine j_aload_n C 0 dX0_pass_31 rfl rfl ?_
      obtain ⟨u7, h8, hf⟩ := bd hf
      refine j_cVV C [] gX0_pass_X0_passCalls rfl hdX0_passCalls ⟨⟨rfl, rfl⟩, Nat.le_of_ble_eq_true rfl, Nat.le_of_ble_eq_true rfl⟩ rfl (g_C hb) rfl (k_X0_passCalls hb h8) dX0_pass_32 rfl (Nat.le_of_ble_eq_true rfl) ?_
      refine j_aload_n C 0 dX0_pass_35 rfl rfl ?_
      refine j_aload_n C 0 dX0_pass_36 rfl rfl ?_
      refine j_get C 6 iX0_pass_X0 (g_C hb) rfl (by decide) mX0_pass_f52 rfl rfl dX0_pass_37 ?_
      obtain ⟨u9, h10, hf⟩ := bd hf
      refine j_cVV C [.ref (ad (b + 16))] gX0_pass_X0_passTimes rfl hdX0_passTimes ⟨⟨rfl, rfl⟩, Nat.le_of_ble_eq_true rfl, Nat.le_of_ble_eq_true rfl⟩ rfl (g_C hb) rfl (k_X0_passTimes hb (isC_R0 hb) h10) dX0_pass_40 rfl (Nat.le_of_ble_eq_true rfl) ?_
      refine j_aload_n C 0 dX0_pass_43 rfl rfl ?_
      refine j_aload_n C 0 dX0_pass_44 rfl rfl ?_
      refine j_get C 7 iX0_pass_X0 (g_C hb) rfl (by decide) mX0_pass_f56 rfl rfl dX0_pass_45 ?_
      obtain ⟨u11, h12, hf⟩ := bd hf
      refine j_cVV C [.ref (ad (b + 17))] gX0_pass_X0_passTimes rfl hdX0_passTimes ⟨⟨rfl, rfl⟩, Nat.le_of_ble_eq_true rfl, Nat.le_of_ble_eq_true rfl⟩ rfl (g_C hb) rfl (k_X0_passTimes hb (isC_R1 hb) h12) dX0_pass_48 rfl (Nat.le_of_ble_eq_true rfl) ?_
      refine j_aload_n C 0 dX0_pass_51 rfl rfl ?_
      refine j_get C 4 iX0_pass_X0 (g_C hb) rfl (by decide) mX0_pass_f38 rfl rfl dX0_pass_52 ?_
      refine j_aload_n C 0 dX0_pass_55 rfl rfl ?_
      refine j_get C 10 iX0_pass_X0 (g_C hb) rfl (by decide) mX0_pass_f67 rfl rfl dX0_pass_56 ?_
      obtain ⟨u13, h14, hf⟩ := bd hf
      refine j_cVI C [.int ((u11 b 10))] gX0_pass_X2_targetInForce rfl hdX2_targetInForce ⟨⟨rfl, rfl⟩, Nat.le_of_ble_eq_true rfl, Nat.le_of_ble_eq_true rfl⟩ rfl (g_N (isC_N hb)) rfl (k_X2_targetInForce (isC_N hb) h14) dX0_pass_59 rfl (Nat.le_of_ble_eq_true rfl) ?_
      refine j_istore_n C (fun y => [(3, .int y), (0, .ref (ad b)), (1, .ref (ad 1)), (2, .int p2)]) dX0_pass_62 rfl (by decide) (fun _ => rfl) hf (fun x15 hf => ?_)
      refine j_iload_n C 0 dX0_pass_63 rfl rfl ?_
      refine j_iconst C (v := (-1)) dX0_pass_64 (by decide) ?_
      obtain ⟨v16, h17, hf⟩ := bd hf
      have jj18 : jW (EC l D ad aI aZ aF) G v16 88 [(0, .ref (ad b)), (1, .ref (ad 1)), (2, .int p2), (3, .int x15)] [] := by
        refine j_aload_n C 0 dX0_pass_88 rfl rfl ?_
        obtain ⟨u25, h26, hf⟩ := bd hf
        refine j_cVV C [] gX0_pass_X0_watch rfl hdX0_watch ⟨⟨rfl, rfl⟩, Nat.le_of_ble_eq_true rfl, Nat.le_of_ble_eq_true rfl⟩ rfl (g_C hb) rfl (k_X0_watch hb h26) dX0_pass_89 rfl (Nat.le_of_ble_eq_true rfl) ?_
        cases hf
        exact ret _ _ dX0_pass_92
      clear hf
      have hf := h17
      clear h17
      refine j_icmp_eq C 76 dX0_pass_65 (by decide) hf (fun hf => ?_) (fun hf => ?_)
      · refine j_aload_n C 1 dX0_pass_76 rfl rfl ?_
        refine j_aload_n C 1 dX0_pass_77 rfl rfl ?_
        refine j_get C 3 iX0_pass_X0 (g_C hb) rfl (by decide) mX0_pass_f31 rfl rfl dX0_pass_78 ?_
        refine j_aload_n C 2 dX0_pass_81 rfl rfl ?_
        obtain ⟨u19, h20, hf⟩ := bd hf
        refine j_cVI C [.ref (ad 1)] gX0_pass_X3_isBeforeSplit rfl hdX3_isBeforeSplit ⟨⟨rfl, rfl⟩, Nat.le_of_ble_eq_true rfl, Nat.le_of_ble_eq_true rfl⟩ rfl (g_L (isC_L hb)) rfl (k_X3_isBeforeSplit (isC_L hb) h20) dX0_pass_82 rfl (Nat.le_of_ble_eq_true rfl) ?_
        obtain ⟨u21, h22, hf⟩ := bd hf
        refine j_cVV C [.int u19] gX0_pass_X0_goByCalls rfl hdX0_goByCalls ⟨⟨rfl, rfl⟩, Nat.le_of_ble_eq_true rfl, Nat.le_of_ble_eq_true rfl⟩ rfl (g_C hb) rfl (k_X0_goByCalls hb h22) dX0_pass_85 rfl (Nat.le_of_ble_eq_true rfl) ?_
        cases hf
        refine j_sub [1, 2, 3, 0] rfl ?_
        exact jj18
      · refine j_aload_n C 1 dX0_pass_68 rfl rfl ?_
        refine j_iload_n C 0 dX0_pass_69 rfl rfl ?_
        obtain ⟨u23, h24, hf⟩ := bd hf
        refine j_cVV C [.int x15] gX0_pass_X0_goByInput rfl hdX0_goByInput ⟨⟨rfl, rfl⟩, Nat.le_of_ble_eq_true rfl, Nat.le_of_ble_eq_true rfl⟩ rfl (g_C hb) rfl (k_X0_goByInput hb h24) dX0_pass_70 rfl (Nat.le_of_ble_eq_true rfl) ?_
        refine j_goto C 88 dX0_pass_73 (by decide) ?_
        cases hf
        refine j_sub [1, 2, 3, 0] rfl ?_
        exact jj18
    · cases hf
      exact ret _ _ dX0_pass_30
  · cases hf
    exact ret _ _ dX0_pass_30
/-- BarrierLights$Controller.signsOf(I)I -/
def f_X0_signsOf (b : Nat) (p1 : Int32) (K : Mem) : Option (Int32) := (f_X8_ringOf p1 K).bind fun u1 => (f_X0_ring b u1 K).bind fun u3 => (if (K u3 0) = p1 then (some (K u3 8)) else (some 0) : Option (Int32)).bind fun v6 => lt v6 fun x9 => (f_X8_bit p1 K).bind fun u10 => (if ((K b 13) &&& u10) = 0 then (some x9) else (lt (x9 ||| 1) fun x15 => some x15) : Option (Int32)).bind fun v12 => (f_X8_bit p1 K).bind fun u16 => (if ((K b 14) &&& u16) = 0 then (some v12) else (lt (v12 ||| 2) fun x21 => some x21) : Option (Int32)).bind fun v18 => (f_X8_bit p1 K).bind fun u22 => if ((K (b + 5) 3) &&& u22) = 0 then (some v18) else (some (v18 ||| 16))
abbrev rmX0_signsOf : Room := { frames := 1, cells := 0, slots := 0, locals := 21 }
theorem mX0_signsOf_iX8 : Cond.initialized RX8 ∈ wsX0_signsOf := by decide +kernel
theorem mX0_signsOf_sX8_ringOf : Cond.static yX8_ringOf ∈ wsX0_signsOf := by decide +kernel
theorem iX0_signsOf_X6 : ∀ w ∈ u_ws RX6 TX6 10, w ∈ wsX0_signsOf := fun _ h => List.mem_cons_of_mem _ (List.mem_append_left _ (List.mem_append_left _ (List.mem_append_right _ h)))
theorem iX0_signsOf_X0 : ∀ w ∈ u_ws RX0 TX0 16, w ∈ wsX0_signsOf := fun _ h => List.mem_cons_of_mem _ (List.mem_append_left _ (List.mem_append_right _ h))
theorem mX0_signsOf_f76 : Cond.fieldLink RX0 76 "BarrierLights$Controller" "calls" "I" ∈ wsX0_signsOf := by decide +kernel
theorem mX0_signsOf_sX8_bit : Cond.static yX8_bit ∈ wsX0_signsOf := by decide +kernel
theorem mX0_signsOf_f79 : Cond.fieldLink RX0 79 "BarrierLights$Controller" "walkCalls" "I" ∈ wsX0_signsOf := by decide +kernel
theorem mX0_signsOf_f24 : Cond.fieldLink RX0 24 "BarrierLights$Controller" "detectors" "LBarrierLights$Detectors;" ∈ wsX0_signsOf := by decide +kernel
theorem iX0_signsOf_X1 : ∀ w ∈ u_ws RX1 TX1 4, w ∈ wsX0_signsOf := fun _ h => List.mem_cons_of_mem _ (List.mem_append_right _ h)
set_option maxRecDepth 100000 in
set_option maxHeartbeats 4000000 in
theorem k_X0_signsOf {l : Launch} {D : va_G} {ad : Nat → Nat} {aI aZ aF : ClassId} {b : Nat} {p1 : Int32} (hb : isC b) {K : Mem} {u : Int32} (hf : f_X0_signsOf b p1 K = some u) : cI (EC l D ad aI aZ aF) yX0_signsOf wsX0_signsOf rmX0_signsOf [.ref (ad b), .int p1] K u K := by
  rw [f_X0_signsOf] at hf
  refine j_entI (cc := cX0_signsOf) (maxL := 4) (EC_ok l D ad aI aZ aF) (Or.inl rfl) (by decide) rfl (Nat.le_of_ble_eq_true rfl) (fun G C ret => ?_)
  refine j_sub [0, 1] (lv2 := [(0, .ref (ad b)), (1, .int p1)]) rfl ?_
  refine j_aload_n C 0 dX0_signsOf_0 rfl rfl ?_
  refine j_iload_n C 1 dX0_signsOf_1 rfl rfl ?_
  obtain ⟨u1, h2, hf⟩ := bd hf
  refine j_cNI C [.int p1] gX0_signsOf_X8_ringOf_n147 rfl nm_RX0_147 mX0_signsOf_iX8 mX0_signsOf_sX8_ringOf hdX8_ringOf.2 ⟨⟨rfl, rfl⟩, Nat.le_of_ble_eq_true rfl, Nat.le_of_ble_eq_true rfl⟩ rfl (k_X8_ringOf h2) dX0_signsOf_2 rfl (Nat.le_of_ble_eq_true rfl) ?_
  obtain ⟨u3, h4, hf⟩ := bd hf
  refine j_cVR C [.int u1] gX0_signsOf_X0_ring rfl hdX0_ring ⟨⟨rfl, rfl⟩, Nat.le_of_ble_eq_true rfl, Nat.le_of_ble_eq_true rfl⟩ rfl (g_C hb) rfl (k_X0_ring hb h4) dX0_signsOf_5 rfl (Nat.le_of_ble_eq_true rfl) ?_
  have hk5 := q_X0_ring hb h4
  refine j_astore_n C [(2, .ref (ad u3)), (0, .ref (ad b)), (1, .int p1)] dX0_signsOf_8 rfl (by decide) rfl ?_
  refine j_aload_n C 0 dX0_signsOf_9 rfl rfl ?_
  refine j_getN C 0 iX0_signsOf_X6 (g_R hk5) rfl (by decide) nf_RX0_157 rfl rfl dX0_signsOf_10 ?_
  refine j_iload_n C 2 dX0_signsOf_13 rfl rfl ?_
  obtain ⟨v6, h7, hf⟩ := bd hf
  have jj8 : jW (EC l D ad aI aZ aF) G K 25 [(0, .ref (ad b)), (1, .int p1), (2, .ref (ad u3))] [.int v6] := by
    refine j_istore_n C (fun y => [(3, .int y), (0, .ref (ad b)), (1, .int p1), (2, .ref (ad u3))]) dX0_signsOf_25 rfl (by decide) (fun _ => rfl) hf (fun x9 hf => ?_)
    refine j_aload_n C 1 dX0_signsOf_26 rfl rfl ?_
    refine j_get C 13 iX0_signsOf_X0 (g_C hb) rfl (by decide) mX0_signsOf_f76 rfl rfl dX0_signsOf_27 ?_
    refine j_iload_n C 2 dX0_signsOf_30 rfl rfl ?_
    obtain ⟨u10, h11, hf⟩ := bd hf
    refine j_cNI C [.int p1] gX0_signsOf_X8_bit_n104 rfl nm_RX0_104 mX0_signsOf_iX8 mX0_signsOf_sX8_bit hdX8_bit.2 ⟨⟨rfl, rfl⟩, Nat.le_of_ble_eq_true rfl, Nat.le_of_ble_eq_true rfl⟩ rfl (k_X8_bit h11) dX0_signsOf_31 rfl (Nat.le_of_ble_eq_true rfl) ?_
    refine j_iand C dX0_signsOf_34 ?_
    obtain ⟨v12, h13, hf⟩ := bd hf
    have jj14 : jW (EC l D ad aI aZ aF) G K 42 [(0, .ref (ad b)), (1, .int p1), (2, .ref (ad u3)), (3, .int v12)] [] := by
      refine j_aload_n C 0 dX0_signsOf_42 rfl rfl ?_
      refine j_get C 14 iX0_signsOf_X0 (g_C hb) rfl (by decide) mX0_signsOf_f79 rfl rfl dX0_signsOf_43 ?_
      refine j_iload_n C 1 dX0_signsOf_46 rfl rfl ?_
      obtain ⟨u16, h17, hf⟩ := bd hf
      refine j_cNI C [.int p1] gX0_signsOf_X8_bit_n104 rfl nm_RX0_104 mX0_signsOf_iX8 mX0_signsOf_sX8_bit hdX8_bit.2 ⟨⟨rfl, rfl⟩, Nat.le_of_ble_eq_true rfl, Nat.le_of_ble_eq_true rfl⟩ rfl (k_X8_bit h17) dX0_signsOf_47 rfl (Nat.le_of_ble_eq_true rfl) ?_
      refine j_iand C dX0_signsOf_50 ?_
      obtain ⟨v18, h19, hf⟩ := bd hf
      have jj20 : jW (EC l D ad aI aZ aF) G K 58 [(0, .ref (ad b)), (1, .int p1), (2, .ref (ad u3)), (3, .int v18)] [] := by
        refine j_aload_n C 0 dX0_signsOf_58 rfl rfl ?_
        refine j_get C 2 iX0_signsOf_X0 (g_C hb) rfl (by decide) mX0_signsOf_f24 rfl rfl dX0_signsOf_59 ?_
        refine j_getN C 3 iX0_signsOf_X1 (g_D (isC_D hb)) rfl (by decide) nf_RX0_293 rfl rfl dX0_signsOf_62 ?_
        refine j_iload_n C 1 dX0_signsOf_65 rfl rfl ?_
        obtain ⟨u22, h23, hf⟩ := bd hf
        refine j_cNI C [.int p1] gX0_signsOf_X8_bit_n104 rfl nm_RX0_104 mX0_signsOf_iX8 mX0_signsOf_sX8_bit hdX8_bit.2 ⟨⟨rfl, rfl⟩, Nat.le_of_ble_eq_true rfl, Nat.le_of_ble_eq_true rfl⟩ rfl (k_X8_bit h23) dX0_signsOf_66 rfl (Nat.le_of_ble_eq_true rfl) ?_
        refine j_iand C dX0_signsOf_69 ?_
        refine j_if_eq C 80 dX0_signsOf_70 (by decide) hf (fun hf => ?_) (fun hf => ?_)
        · refine j_iload_n C 3 dX0_signsOf_80 rfl rfl ?_
          cases hf
          exact ret _ _ dX0_signsOf_81 (fun h => by cases h)
        · refine j_iload_n C 3 dX0_signsOf_73 rfl rfl ?_
          refine j_bipush C (v := 16) dX0_signsOf_74 (by decide) ?_
          refine j_ior C dX0_signsOf_76 ?_
          refine j_goto C 81 dX0_signsOf_77 (by decide) ?_
          cases hf
          exact ret _ _ dX0_signsOf_81 (fun h => by cases h)
      clear hf
      have hf := h19
      clear h19
      refine j_if_eq C 58 dX0_signsOf_51 (by decide) hf (fun hf => ?_) (fun hf => ?_)
      · cases hf
        exact jj20
      · refine j_iload_n C 3 dX0_signsOf_54 rfl rfl ?_
        refine j_iconst C (v := 2) dX0_signsOf_55 (by decide) ?_
        refine j_ior C dX0_signsOf_56 ?_
        refine j_istore_n C (fun y => [(3, .int y), (0, .ref (ad b)), (1, .int p1), (2, .ref (ad u3))]) dX0_signsOf_57 rfl (by decide) (fun _ => rfl) hf (fun x21 hf => ?_)
        cases hf
        refine j_sub [1, 2, 3, 0] rfl ?_
        exact jj20
    clear hf
    have hf := h13
    clear h13
    refine j_if_eq C 42 dX0_signsOf_35 (by decide) hf (fun hf => ?_) (fun hf => ?_)
    · cases hf
      refine j_sub [1, 2, 3, 0] rfl ?_
      exact jj14
    · refine j_iload_n C 0 dX0_signsOf_38 rfl rfl ?_
      refine j_iconst C (v := 1) dX0_signsOf_39 (by decide) ?_
      refine j_ior C dX0_signsOf_40 ?_
      refine j_istore_n C (fun y => [(3, .int y), (0, .ref (ad b)), (1, .int p1), (2, .ref (ad u3))]) dX0_signsOf_41 rfl (by decide) (fun _ => rfl) hf (fun x15 hf => ?_)
      cases hf
      refine j_sub [1, 2, 3, 0] rfl ?_
      exact jj14
  clear hf
  have hf := h7
  clear h7
  refine j_icmp_ne C 24 dX0_signsOf_14 (by decide) hf (fun hf => ?_) (fun hf => ?_)
  · refine j_aload_n C 0 dX0_signsOf_17 rfl rfl ?_
    refine j_getN C 8 iX0_signsOf_X6 (g_R hk5) rfl (by decide) nf_RX0_249 rfl rfl dX0_signsOf_18 ?_
    refine j_goto C 25 dX0_signsOf_21 (by decide) ?_
    cases hf
    refine j_sub [1, 2, 0] rfl ?_
    exact jj8
  · refine j_iconst C (v := 0) dX0_signsOf_24 (by decide) ?_
    cases hf
    refine j_sub [1, 2, 0] rfl ?_
    exact jj8
/-- BarrierLights$Controller.way()I -/
def f_X0_way (b : Nat) (K : Mem) : Option (Int32) := (f_X0_isOff b K).bind fun u1 => if u1 = 0 then (if (K b 11) = 0 then ((f_X2_targetInForce (b + 9) (K b 10) K).bind fun u3 => if u3 = (-1) then (if (K (b + 8) 0) = (-1) then (some 1) else (some 2)) else (some 3)) else (some 4)) else (some 0)
abbrev rmX0_way : Room := { frames := 2, cells := 0, slots := 0, locals := 42 }
theorem iX0_way_X0 : ∀ w ∈ u_ws RX0 TX0 16, w ∈ wsX0_way := fun _ h => List.mem_cons_of_mem _ (List.mem_append_left _ (List.mem_append_left _ (List.mem_append_right _ h)))
theorem mX0_way_f70 : Cond.fieldLink RX0 70 "BarrierLights$Controller" "whyFlashing" "I" ∈ wsX0_way := by decide +kernel
theorem mX0_way_f38 : Cond.fieldLink RX0 38 "BarrierLights$Controller" "inputs" "LBarrierLights$Inputs;" ∈ wsX0_way := by decide +kernel
theorem mX0_way_f67 : Cond.fieldLink RX0 67 "BarrierLights$Controller" "used" "I" ∈ wsX0_way := by decide +kernel
theorem mX0_way_f31 : Cond.fieldLink RX0 31 "BarrierLights$Controller" "link" "LBarrierLights$Link;" ∈ wsX0_way := by decide +kernel
theorem iX0_way_X3 : ∀ w ∈ u_ws RX3 TX3 4, w ∈ wsX0_way := fun _ h => List.mem_cons_of_mem _ (List.mem_append_left _ (List.mem_append_right _ h))
set_option maxRecDepth 100000 in
set_option maxHeartbeats 4000000 in
theorem k_X0_way {l : Launch} {D : va_G} {ad : Nat → Nat} {aI aZ aF : ClassId} {b : Nat} (hb : isC b) {K : Mem} {u : Int32} (hf : f_X0_way b K = some u) : cI (EC l D ad aI aZ aF) yX0_way wsX0_way rmX0_way [.ref (ad b)] K u K := by
  rw [f_X0_way] at hf
  refine j_entI (cc := cX0_way) (maxL := 1) (EC_ok l D ad aI aZ aF) (Or.inl rfl) (by decide) rfl (Nat.le_of_ble_eq_true rfl) (fun G C ret => ?_)
  refine j_sub [0] (lv2 := [(0, .ref (ad b))]) rfl ?_
  refine j_aload_n C 0 dX0_way_0 rfl rfl ?_
  obtain ⟨u1, h2, hf⟩ := bd hf
  refine j_cVI C [] gX0_way_X0_isOff rfl hdX0_isOff ⟨⟨rfl, rfl⟩, Nat.le_of_ble_eq_true rfl, Nat.le_of_ble_eq_true rfl⟩ rfl (g_C hb) rfl (k_X0_isOff hb h2) dX0_way_1 rfl (Nat.le_of_ble_eq_true rfl) ?_
  refine j_if_eq C 9 dX0_way_4 (by decide) hf (fun hf => ?_) (fun hf => ?_)
  · refine j_aload_n C 0 dX0_way_9 rfl rfl ?_
    refine j_get C 11 iX0_way_X0 (g_C hb) rfl (by decide) mX0_way_f70 rfl rfl dX0_way_10 ?_
    refine j_if_eq C 18 dX0_way_13 (by decide) hf (fun hf => ?_) (fun hf => ?_)
    · refine j_aload_n C 0 dX0_way_18 rfl rfl ?_
      refine j_get C 4 iX0_way_X0 (g_C hb) rfl (by decide) mX0_way_f38 rfl rfl dX0_way_19 ?_
      refine j_aload_n C 0 dX0_way_22 rfl rfl ?_
      refine j_get C 10 iX0_way_X0 (g_C hb) rfl (by decide) mX0_way_f67 rfl rfl dX0_way_23 ?_
      obtain ⟨u3, h4, hf⟩ := bd hf
      refine j_cVI C [.int ((K b 10))] gX0_way_X2_targetInForce rfl hdX2_targetInForce ⟨⟨rfl, rfl⟩, Nat.le_of_ble_eq_true rfl, Nat.le_of_ble_eq_true rfl⟩ rfl (g_N (isC_N hb)) rfl (k_X2_targetInForce (isC_N hb) h4) dX0_way_26 rfl (Nat.le_of_ble_eq_true rfl) ?_
      refine j_iconst C (v := (-1)) dX0_way_29 (by decide) ?_
      refine j_icmp_eq C 35 dX0_way_30 (by decide) hf (fun hf => ?_) (fun hf => ?_)
      · refine j_aload_n C 0 dX0_way_35 rfl rfl ?_
        refine j_get C 3 iX0_way_X0 (g_C hb) rfl (by decide) mX0_way_f31 rfl rfl dX0_way_36 ?_
        refine j_getN C 0 iX0_way_X3 (g_L (isC_L hb)) rfl (by decide) nf_RX0_296 rfl rfl dX0_way_39 ?_
        refine j_iconst C (v := (-1)) dX0_way_42 (by decide) ?_
        refine j_icmp_eq C 50 dX0_way_43 (by decide) hf (fun hf => ?_) (fun hf => ?_)
        · refine j_iconst C (v := 1) dX0_way_50 (by decide) ?_
          cases hf
          exact ret _ _ dX0_way_51 (fun h => by cases h)
        · refine j_iconst C (v := 2) dX0_way_46 (by decide) ?_
          refine j_goto C 51 dX0_way_47 (by decide) ?_
          cases hf
          exact ret _ _ dX0_way_51 (fun h => by cases h)
      · refine j_iconst C (v := 3) dX0_way_33 (by decide) ?_
        cases hf
        exact ret _ _ dX0_way_34 (fun h => by cases h)
    · refine j_iconst C (v := 4) dX0_way_16 (by decide) ?_
      cases hf
      exact ret _ _ dX0_way_17 (fun h => by cases h)
  · refine j_iconst C (v := 0) dX0_way_7 (by decide) ?_
    cases hf
    exact ret _ _ dX0_way_8 (fun h => by cases h)
/-- BarrierLights$Detectors.turn(IZ)V -/
def f_X1_turn (b : Nat) (p1 : Int32) (p2 : Int32) (K : Mem) : Option (Mem) := if p2 = 0 then ((f_X8_bit p1 K).bind fun u1 => st K b 2 ((K b 2) &&& (u1 ^^^ (-1))) fun K3 => some K3) else ((f_X8_bit p1 K).bind fun u4 => st K b 2 ((K b 2) ||| u4) fun K6 => some K6)
abbrev rmX1_turn : Room := { frames := 1, cells := 0, slots := 0, locals := 20 }
theorem iX1_turn_X1 : ∀ w ∈ u_ws RX1 TX1 4, w ∈ wsX1_turn := fun _ h => List.mem_cons_of_mem _ (List.mem_append_right _ h)
theorem mX1_turn_f19 : Cond.fieldLink RX1 19 "BarrierLights$Detectors" "on" "I" ∈ wsX1_turn := by decide +kernel
theorem mX1_turn_iX8 : Cond.initialized RX8 ∈ wsX1_turn := by decide +kernel
theorem mX1_turn_sX8_bit : Cond.static yX8_bit ∈ wsX1_turn := by decide +kernel
set_option maxRecDepth 100000 in
set_option maxHeartbeats 4000000 in
theorem k_X1_turn {l : Launch} {D : va_G} {ad : Nat → Nat} {aI aZ aF : ClassId} {b : Nat} {p1 : Int32} {p2 : Int32} (hb : isD b) {K : Mem} {u : Mem} (hf : f_X1_turn b p1 p2 K = some u) : cV (EC l D ad aI aZ aF) yX1_turn wsX1_turn rmX1_turn [.ref (ad b), .int p1, .int p2] K u := by
  rw [f_X1_turn] at hf
  refine j_entV (cc := cX1_turn) (maxL := 3) (EC_ok l D ad aI aZ aF) (by decide) rfl (Nat.le_of_ble_eq_true rfl) (fun G C ret => ?_)
  refine j_sub [0, 1, 2] (lv2 := [(0, .ref (ad b)), (1, .int p1), (2, .int p2)]) rfl ?_
  refine j_aload_n C 0 dX1_turn_0 rfl rfl ?_
  refine j_iload_n C 2 dX1_turn_1 rfl rfl ?_
  refine j_if_eq C 17 dX1_turn_2 (by decide) hf (fun hf => ?_) (fun hf => ?_)
  · refine j_aload_n C 0 dX1_turn_17 rfl rfl ?_
    refine j_get C 2 iX1_turn_X1 (g_D hb) rfl (by decide) mX1_turn_f19 rfl rfl dX1_turn_18 ?_
    refine j_iload_n C 1 dX1_turn_21 rfl rfl ?_
    obtain ⟨u1, h2, hf⟩ := bd hf
    refine j_cNI C [.int p1] gX1_turn_X8_bit_n26 rfl nm_RX1_26 mX1_turn_iX8 mX1_turn_sX8_bit hdX8_bit.2 ⟨⟨rfl, rfl⟩, Nat.le_of_ble_eq_true rfl, Nat.le_of_ble_eq_true rfl⟩ rfl (k_X8_bit h2) dX1_turn_22 rfl (Nat.le_of_ble_eq_true rfl) ?_
    refine j_iconst C (v := (-1)) dX1_turn_25 (by decide) ?_
    refine j_ixor C dX1_turn_26 ?_
    refine j_iand C dX1_turn_27 ?_
    refine j_put C (ty := .int) 2 iX1_turn_X1 tyX1 tyX1_ok nmX1 (g_D hb) (s_D_2 hb _) rfl (by decide) mX1_turn_f19 rfl rfl (by decide +kernel) rfl rfl (Nat.le_of_ble_eq_true rfl) dX1_turn_28 hf (fun K3 hf => ?_)
    cases hf
    exact ret _ _ dX1_turn_31
  · refine j_aload_n C 0 dX1_turn_5 rfl rfl ?_
    refine j_get C 2 iX1_turn_X1 (g_D hb) rfl (by decide) mX1_turn_f19 rfl rfl dX1_turn_6 ?_
    refine j_iload_n C 1 dX1_turn_9 rfl rfl ?_
    obtain ⟨u4, h5, hf⟩ := bd hf
    refine j_cNI C [.int p1] gX1_turn_X8_bit_n26 rfl nm_RX1_26 mX1_turn_iX8 mX1_turn_sX8_bit hdX8_bit.2 ⟨⟨rfl, rfl⟩, Nat.le_of_ble_eq_true rfl, Nat.le_of_ble_eq_true rfl⟩ rfl (k_X8_bit h5) dX1_turn_10 rfl (Nat.le_of_ble_eq_true rfl) ?_
    refine j_ior C dX1_turn_13 ?_
    refine j_goto C 28 dX1_turn_14 (by decide) ?_
    refine j_put C (ty := .int) 2 iX1_turn_X1 tyX1 tyX1_ok nmX1 (g_D hb) (s_D_2 hb _) rfl (by decide) mX1_turn_f19 rfl rfl (by decide +kernel) rfl rfl (Nat.le_of_ble_eq_true rfl) dX1_turn_28 hf (fun K6 hf => ?_)
    cases hf
    exact ret _ _ dX1_turn_31
/-- BarrierLights.isInput(I)Z -/
def f_X8_isInput (p0 : Int32) (K : Mem) : Option (Int32) := if p0 < 0 then (some 0) else (if 2 ≤ p0 then (some 0) else (some 1))
abbrev rmX8_isInput : Room := { frames := 0, cells := 0, slots := 0, locals := 0 }
set_option maxRecDepth 100000 in
set_option maxHeartbeats 4000000 in
theorem k_X8_isInput {l : Launch} {D : va_G} {ad : Nat → Nat} {aI aZ aF : ClassId} {p0 : Int32} {K : Mem} {u : Int32} (hf : f_X8_isInput p0 K = some u) : cI (EC l D ad aI aZ aF) yX8_isInput wsX8_isInput rmX8_isInput [.int p0] K u K := by
  rw [f_X8_isInput] at hf
  refine j_entI (cc := cX8_isInput) (maxL := 1) (EC_ok l D ad aI aZ aF) (Or.inr rfl) (by decide) rfl (Nat.le_of_ble_eq_true rfl) (fun G C ret => ?_)
  refine j_sub [0] (lv2 := [(0, .int p0)]) rfl ?_
  refine j_iload_n C 0 dX8_isInput_0 rfl rfl ?_
  refine j_if_lt C 13 dX8_isInput_1 (by decide) hf (fun hf => ?_) (fun hf => ?_)
  · refine j_iconst C (v := 0) dX8_isInput_13 (by decide) ?_
    cases hf
    exact ret _ _ dX8_isInput_14 (fun _ => rfl)
  · refine j_iload_n C 0 dX8_isInput_4 rfl rfl ?_
    refine j_iconst C (v := 2) dX8_isInput_5 (by decide) ?_
    refine j_icmp_ge C 13 dX8_isInput_6 (by decide) hf (fun hf => ?_) (fun hf => ?_)
    · refine j_iconst C (v := 0) dX8_isInput_13 (by decide) ?_
      cases hf
      exact ret _ _ dX8_isInput_14 (fun _ => rfl)
    · refine j_iconst C (v := 1) dX8_isInput_9 (by decide) ?_
      refine j_goto C 14 dX8_isInput_10 (by decide) ?_
      cases hf
      exact ret _ _ dX8_isInput_14 (fun _ => rfl)
/-- BarrierLights$Inputs.turn(IZ)V -/
def f_X2_turn (b : Nat) (p1 : Int32) (p2 : Int32) (K : Mem) : Option (Mem) := (f_X8_isInput p1 K).bind fun u1 => if u1 = 0 then (some K) else (if inb p1 2 = true then (st K (b + 1) (ix p1) (vp_nar .boolean p2) fun K3 => some K3) else none)
abbrev rmX2_turn : Room := { frames := 1, cells := 0, slots := 0, locals := 20 }
theorem mX2_turn_iX8 : Cond.initialized RX8 ∈ wsX2_turn := by decide +kernel
theorem mX2_turn_sX8_isInput : Cond.static yX8_isInput ∈ wsX2_turn := by decide +kernel
theorem hdX8_isInput : yX8_isInput.cls = RX8 ∧ yX8_isInput.cls ≠ "java/lang/invoke/MethodHandle" ∧ yX8_isInput.cls ≠ "java/lang/invoke/VarHandle" ∧ (parseMethodDescriptor yX8_isInput.desc).map (fun d => d.parameters.length) = some 1 := by decide +kernel
theorem iX2_turn_X2 : ∀ w ∈ u_ws RX2 TX2 2, w ∈ wsX2_turn := fun _ h => List.mem_cons_of_mem _ (List.mem_append_right _ h)
theorem mX2_turn_f9 : Cond.fieldLink RX2 9 "BarrierLights$Inputs" "on" "[Z" ∈ wsX2_turn := by decide +kernel
set_option maxRecDepth 100000 in
set_option maxHeartbeats 4000000 in
theorem k_X2_turn {l : Launch} {D : va_G} {ad : Nat → Nat} {aI aZ aF : ClassId} {b : Nat} {p1 : Int32} {p2 : Int32} (hb : isN b) {K : Mem} {u : Mem} (hf : f_X2_turn b p1 p2 K = some u) : cV (EC l D ad aI aZ aF) yX2_turn wsX2_turn rmX2_turn [.ref (ad b), .int p1, .int p2] K u := by
  rw [f_X2_turn] at hf
  refine j_entV (cc := cX2_turn) (maxL := 3) (EC_ok l D ad aI aZ aF) (by decide) rfl (Nat.le_of_ble_eq_true rfl) (fun G C ret => ?_)
  refine j_sub [0, 1, 2] (lv2 := [(0, .ref (ad b)), (1, .int p1), (2, .int p2)]) rfl ?_
  refine j_iload_n C 1 dX2_turn_0 rfl rfl ?_
  obtain ⟨u1, h2, hf⟩ := bd hf
  refine j_cNI C [.int p1] gX2_turn_X8_isInput_n19 rfl nm_RX2_19 mX2_turn_iX8 mX2_turn_sX8_isInput hdX8_isInput.2 ⟨⟨rfl, rfl⟩, Nat.le_of_ble_eq_true rfl, Nat.le_of_ble_eq_true rfl⟩ rfl (k_X8_isInput h2) dX2_turn_1 rfl (Nat.le_of_ble_eq_true rfl) ?_
  refine j_if_eq C 14 dX2_turn_4 (by decide) hf (fun hf => ?_) (fun hf => ?_)
  · cases hf
    exact ret _ _ dX2_turn_14
  · refine j_aload_n C 0 dX2_turn_7 rfl rfl ?_
    refine j_get C 0 iX2_turn_X2 (g_N hb) rfl (by decide) mX2_turn_f9 rfl rfl dX2_turn_8 ?_
    refine j_iload_n C 1 dX2_turn_11 rfl rfl ?_
    refine j_iload_n C 2 dX2_turn_12 rfl rfl ?_
    refine j_zast C 1 (g_N1 hb) (s_N1 hb _ _) rfl dX2_turn_13 hf (fun K3 hf => ?_)
    cases hf
    exact ret _ _ dX2_turn_14
/-- BarrierLights$Inputs.aim(II)V -/
def f_X2_aim (b : Nat) (p1 : Int32) (p2 : Int32) (K : Mem) : Option (Mem) := (f_X8_isInput p1 K).bind fun u1 => if u1 = 0 then (some K) else (if inb p1 2 = true then (st K (b + 2) (ix p1) p2 fun K3 => some K3) else none)
abbrev rmX2_aim : Room := { frames := 1, cells := 0, slots := 0, locals := 20 }
theorem mX2_aim_iX8 : Cond.initialized RX8 ∈ wsX2_aim := by decide +kernel
theorem mX2_aim_sX8_isInput : Cond.static yX8_isInput ∈ wsX2_aim := by decide +kernel
theorem iX2_aim_X2 : ∀ w ∈ u_ws RX2 TX2 2, w ∈ wsX2_aim := fun _ h => List.mem_cons_of_mem _ (List.mem_append_right _ h)
theorem mX2_aim_f15 : Cond.fieldLink RX2 15 "BarrierLights$Inputs" "targets" "[I" ∈ wsX2_aim := by decide +kernel
set_option maxRecDepth 100000 in
set_option maxHeartbeats 4000000 in
theorem k_X2_aim {l : Launch} {D : va_G} {ad : Nat → Nat} {aI aZ aF : ClassId} {b : Nat} {p1 : Int32} {p2 : Int32} (hb : isN b) {K : Mem} {u : Mem} (hf : f_X2_aim b p1 p2 K = some u) : cV (EC l D ad aI aZ aF) yX2_aim wsX2_aim rmX2_aim [.ref (ad b), .int p1, .int p2] K u := by
  rw [f_X2_aim] at hf
  refine j_entV (cc := cX2_aim) (maxL := 3) (EC_ok l D ad aI aZ aF) (by decide) rfl (Nat.le_of_ble_eq_true rfl) (fun G C ret => ?_)
  refine j_sub [0, 1, 2] (lv2 := [(0, .ref (ad b)), (1, .int p1), (2, .int p2)]) rfl ?_
  refine j_iload_n C 1 dX2_aim_0 rfl rfl ?_
  obtain ⟨u1, h2, hf⟩ := bd hf
  refine j_cNI C [.int p1] gX2_aim_X8_isInput_n19 rfl nm_RX2_19 mX2_aim_iX8 mX2_aim_sX8_isInput hdX8_isInput.2 ⟨⟨rfl, rfl⟩, Nat.le_of_ble_eq_true rfl, Nat.le_of_ble_eq_true rfl⟩ rfl (k_X8_isInput h2) dX2_aim_1 rfl (Nat.le_of_ble_eq_true rfl) ?_
  refine j_if_eq C 14 dX2_aim_4 (by decide) hf (fun hf => ?_) (fun hf => ?_)
  · cases hf
    exact ret _ _ dX2_aim_14
  · refine j_aload_n C 0 dX2_aim_7 rfl rfl ?_
    refine j_get C 1 iX2_aim_X2 (g_N hb) rfl (by decide) mX2_aim_f15 rfl rfl dX2_aim_8 ?_
    refine j_iload_n C 1 dX2_aim_11 rfl rfl ?_
    refine j_iload_n C 2 dX2_aim_12 rfl rfl ?_
    refine j_iast C 0 (g_N2 hb) (s_N2 hb _ _) rfl dX2_aim_13 hf (fun K3 hf => ?_)
    cases hf
    exact ret _ _ dX2_aim_14
/-- BarrierLights$Link.expects(I)Z -/
def f_X3_expects (b : Nat) (p1 : Int32) (K : Mem) : Option (Int32) := if p1 < 0 then (some 0) else (if p1 < 8 then (if (K b 3) = (-1) then (some 1) else (if p1 = (jrem ((K b 3) + 1) 8) then (some 1) else (some 0))) else (some 0))
abbrev rmX3_expects : Room := { frames := 0, cells := 0, slots := 0, locals := 0 }
theorem iX3_expects_X3 : ∀ w ∈ u_ws RX3 TX3 4, w ∈ wsX3_expects := fun _ h => List.mem_cons_of_mem _ (List.mem_append_right _ h)
theorem mX3_expects_f21 : Cond.fieldLink RX3 21 "BarrierLights$Link" "lastNumber" "I" ∈ wsX3_expects := by decide +kernel
set_option maxRecDepth 100000 in
set_option maxHeartbeats 4000000 in
theorem k_X3_expects {l : Launch} {D : va_G} {ad : Nat → Nat} {aI aZ aF : ClassId} {b : Nat} {p1 : Int32} (hb : isL b) {K : Mem} {u : Int32} (hf : f_X3_expects b p1 K = some u) : cI (EC l D ad aI aZ aF) yX3_expects wsX3_expects rmX3_expects [.ref (ad b), .int p1] K u K := by
  rw [f_X3_expects] at hf
  refine j_entI (cc := cX3_expects) (maxL := 2) (EC_ok l D ad aI aZ aF) (Or.inr rfl) (by decide) rfl (Nat.le_of_ble_eq_true rfl) (fun G C ret => ?_)
  refine j_sub [0, 1] (lv2 := [(0, .ref (ad b)), (1, .int p1)]) rfl ?_
  refine j_iload_n C 1 dX3_expects_0 rfl rfl ?_
  refine j_if_lt C 10 dX3_expects_1 (by decide) hf (fun hf => ?_) (fun hf => ?_)
  · refine j_iconst C (v := 0) dX3_expects_10 (by decide) ?_
    cases hf
    exact ret _ _ dX3_expects_11 (fun _ => rfl)
  · refine j_iload_n C 1 dX3_expects_4 rfl rfl ?_
    refine j_bipush C (v := 8) dX3_expects_5 (by decide) ?_
    refine j_icmp_lt C 12 dX3_expects_7 (by decide) hf (fun hf => ?_) (fun hf => ?_)
    · refine j_aload_n C 0 dX3_expects_12 rfl rfl ?_
      refine j_get C 3 iX3_expects_X3 (g_L hb) rfl (by decide) mX3_expects_f21 rfl rfl dX3_expects_13 ?_
      refine j_iconst C (v := (-1)) dX3_expects_16 (by decide) ?_
      refine j_icmp_eq C 33 dX3_expects_17 (by decide) hf (fun hf => ?_) (fun hf => ?_)
      · refine j_iconst C (v := 1) dX3_expects_33 (by decide) ?_
        refine j_goto C 38 dX3_expects_34 (by decide) ?_
        cases hf
        exact ret _ _ dX3_expects_38 (fun _ => rfl)
      · refine j_iload_n C 1 dX3_expects_20 rfl rfl ?_
        refine j_aload_n C 0 dX3_expects_21 rfl rfl ?_
        refine j_get C 3 iX3_expects_X3 (g_L hb) rfl (by decide) mX3_expects_f21 rfl rfl dX3_expects_22 ?_
        refine j_iconst C (v := 1) dX3_expects_25 (by decide) ?_
        refine j_iadd C dX3_expects_26 ?_
        refine j_bipush C (v := 8) dX3_expects_27 (by decide) ?_
        refine j_irem C dX3_expects_29 (by decide) ?_
        refine j_icmp_ne C 37 dX3_expects_30 (by decide) hf (fun hf => ?_) (fun hf => ?_)
        · refine j_iconst C (v := 1) dX3_expects_33 (by decide) ?_
          refine j_goto C 38 dX3_expects_34 (by decide) ?_
          cases hf
          exact ret _ _ dX3_expects_38 (fun _ => rfl)
        · refine j_iconst C (v := 0) dX3_expects_37 (by decide) ?_
          cases hf
          exact ret _ _ dX3_expects_38 (fun _ => rfl)
    · refine j_iconst C (v := 0) dX3_expects_10 (by decide) ?_
      cases hf
      exact ret _ _ dX3_expects_11 (fun _ => rfl)
