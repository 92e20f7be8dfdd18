/-- BarrierLights$Link.take(III)V -/
def f_X3_take (b : Nat) (p1 : Int32) (p2 : Int32) (p3 : Int32) (K : Mem) : Option (Mem) := (if (K b 0) = (-1) then (some 0) else ((f_X8_wrap (K b 1) p3 K).bind fun u4 => some u4) : Option (Int32)).bind fun v1 => st K b 1 v1 fun K6 => st K6 b 0 p2 fun K7 => st K7 b 3 p1 fun K8 => st K8 b 2 0 fun K9 => some K9
abbrev rmX3_take : Room := { frames := 2, cells := 0, slots := 0, locals := 43 }
theorem iX3_take_X3 : ∀ w ∈ u_ws RX3 TX3 4, w ∈ wsX3_take := fun _ h => List.mem_cons_of_mem _ (List.mem_append_right _ h)
theorem mX3_take_f9 : Cond.fieldLink RX3 9 "BarrierLights$Link" "plan" "I" ∈ wsX3_take := by decide +kernel
theorem mX3_take_f15 : Cond.fieldLink RX3 15 "BarrierLights$Link" "localClock" "I" ∈ wsX3_take := by decide +kernel
theorem mX3_take_iX8 : Cond.initialized RX8 ∈ wsX3_take := by decide +kernel
theorem mX3_take_sX8_wrap : Cond.static yX8_wrap ∈ wsX3_take := by decide +kernel
theorem mX3_take_f21 : Cond.fieldLink RX3 21 "BarrierLights$Link" "lastNumber" "I" ∈ wsX3_take := by decide +kernel
theorem mX3_take_f18 : Cond.fieldLink RX3 18 "BarrierLights$Link" "silence" "I" ∈ wsX3_take := by decide +kernel
set_option maxRecDepth 100000 in
set_option maxHeartbeats 4000000 in
theorem k_X3_take {l : Launch} {D : va_G} {ad : Nat → Nat} {aI aZ aF : ClassId} {b : Nat} {p1 : Int32} {p2 : Int32} {p3 : Int32} (hb : isL b) {K : Mem} {u : Mem} (hf : f_X3_take b p1 p2 p3 K = some u) : cV (EC l D ad aI aZ aF) yX3_take wsX3_take rmX3_take [.ref (ad b), .int p1, .int p2, .int p3] K u := by
  rw [f_X3_take] at hf
  refine j_entV (cc := cX3_take) (maxL := 4) (EC_ok l D ad aI aZ aF) (by decide) rfl (Nat.le_of_ble_eq_true rfl) (fun G C ret => ?_)
  refine j_sub [0, 1, 2, 3] (lv2 := [(0, .ref (ad b)), (1, .int p1), (2, .int p2), (3, .int p3)]) rfl ?_
  refine j_aload_n C 0 dX3_take_0 rfl rfl ?_
  refine j_aload_n C 0 dX3_take_1 rfl rfl ?_
  refine j_get C 0 iX3_take_X3 (g_L hb) rfl (by decide) mX3_take_f9 rfl rfl dX3_take_2 ?_
  refine j_iconst C (v := (-1)) dX3_take_5 (by decide) ?_
  obtain ⟨v1, h2, hf⟩ := bd hf
  have jj3 : jW (EC l D ad aI aZ aF) G K 21 [(0, .ref (ad b)), (1, .int p1), (2, .int p2), (3, .int p3)] [.int v1, .ref (ad b)] := by
    refine j_put C (ty := .int) 1 iX3_take_X3 tyX3 tyX3_ok nmX3 (g_L hb) (s_L_1 hb _) rfl (by decide) mX3_take_f15 rfl rfl (by decide +kernel) rfl rfl (Nat.le_of_ble_eq_true rfl) dX3_take_21 hf (fun K6 hf => ?_)
    refine j_aload_n C 0 dX3_take_24 rfl rfl ?_
    refine j_iload_n C 2 dX3_take_25 rfl rfl ?_
    refine j_put C (ty := .int) 0 iX3_take_X3 tyX3 tyX3_ok nmX3 (g_L hb) (s_L_0 hb _) rfl (by decide) mX3_take_f9 rfl rfl (by decide +kernel) rfl rfl (Nat.le_of_ble_eq_true rfl) dX3_take_26 hf (fun K7 hf => ?_)
    refine j_aload_n C 0 dX3_take_29 rfl rfl ?_
    refine j_iload_n C 1 dX3_take_30 rfl rfl ?_
    refine j_put C (ty := .int) 3 iX3_take_X3 tyX3 tyX3_ok nmX3 (g_L hb) (s_L_3 hb _) rfl (by decide) mX3_take_f21 rfl rfl (by decide +kernel) rfl rfl (Nat.le_of_ble_eq_true rfl) dX3_take_31 hf (fun K8 hf => ?_)
    refine j_aload_n C 0 dX3_take_34 rfl rfl ?_
    refine j_iconst C (v := 0) dX3_take_35 (by decide) ?_
    refine j_put C (ty := .int) 2 iX3_take_X3 tyX3 tyX3_ok nmX3 (g_L hb) (s_L_2 hb _) rfl (by decide) mX3_take_f18 rfl rfl (by decide +kernel) rfl rfl (Nat.le_of_ble_eq_true rfl) dX3_take_36 hf (fun K9 hf => ?_)
    cases hf
    exact ret _ _ dX3_take_39
  clear hf
  have hf := h2
  clear h2
  refine j_icmp_ne C 13 dX3_take_6 (by decide) hf (fun hf => ?_) (fun hf => ?_)
  · refine j_iconst C (v := 0) dX3_take_9 (by decide) ?_
    refine j_goto C 21 dX3_take_10 (by decide) ?_
    cases hf
    exact jj3
  · refine j_aload_n C 0 dX3_take_13 rfl rfl ?_
    refine j_get C 1 iX3_take_X3 (g_L hb) rfl (by decide) mX3_take_f15 rfl rfl dX3_take_14 ?_
    refine j_iload_n C 3 dX3_take_17 rfl rfl ?_
    obtain ⟨u4, h5, hf⟩ := bd hf
    refine j_cNI C [.int ((K b 1)), .int p3] gX3_take_X8_wrap_n24 rfl nm_RX3_24 mX3_take_iX8 mX3_take_sX8_wrap hdX8_wrap.2 ⟨⟨rfl, rfl⟩, Nat.le_of_ble_eq_true rfl, Nat.le_of_ble_eq_true rfl⟩ rfl (k_X8_wrap h5) dX3_take_18 rfl (Nat.le_of_ble_eq_true rfl) ?_
    cases hf
    exact jj3
/-- BarrierLights$Link.fitTo(II)V -/
def f_X3_fitTo (b : Nat) (p1 : Int32) (p2 : Int32) (K : Mem) : Option (Mem) := if (K b 0) = p1 then ((f_X8_wrap (K b 1) p2 K).bind fun u1 => st K b 1 u1 fun K3 => some K3) else (some K)
abbrev rmX3_fitTo : Room := { frames := 2, cells := 0, slots := 0, locals := 43 }
theorem iX3_fitTo_X3 : ∀ w ∈ u_ws RX3 TX3 4, w ∈ wsX3_fitTo := fun _ h => List.mem_cons_of_mem _ (List.mem_append_right _ h)
theorem mX3_fitTo_f9 : Cond.fieldLink RX3 9 "BarrierLights$Link" "plan" "I" ∈ wsX3_fitTo := by decide +kernel
theorem mX3_fitTo_f15 : Cond.fieldLink RX3 15 "BarrierLights$Link" "localClock" "I" ∈ wsX3_fitTo := by decide +kernel
theorem mX3_fitTo_iX8 : Cond.initialized RX8 ∈ wsX3_fitTo := by decide +kernel
theorem mX3_fitTo_sX8_wrap : Cond.static yX8_wrap ∈ wsX3_fitTo := by decide +kernel
set_option maxRecDepth 100000 in
set_option maxHeartbeats 4000000 in
theorem k_X3_fitTo {l : Launch} {D : va_G} {ad : Nat → Nat} {aI aZ aF : ClassId} {b : Nat} {p1 : Int32} {p2 : Int32} (hb : isL b) {K : Mem} {u : Mem} (hf : f_X3_fitTo b p1 p2 K = some u) : cV (EC l D ad aI aZ aF) yX3_fitTo wsX3_fitTo rmX3_fitTo [.ref (ad b), .int p1, .int p2] K u := by
  rw [f_X3_fitTo] at hf
  refine j_entV (cc := cX3_fitTo) (maxL := 3) (EC_ok l D ad aI aZ aF) (by decide) rfl (Nat.le_of_ble_eq_true rfl) (fun G C ret => ?_)
  refine j_sub [0, 1, 2] (lv2 := [(0, .ref (ad b)), (1, .int p1), (2, .int p2)]) rfl ?_
  refine j_aload_n C 0 dX3_fitTo_0 rfl rfl ?_
  refine j_get C 0 iX3_fitTo_X3 (g_L hb) rfl (by decide) mX3_fitTo_f9 rfl rfl dX3_fitTo_1 ?_
  refine j_iload_n C 1 dX3_fitTo_4 rfl rfl ?_
  refine j_icmp_ne C 20 dX3_fitTo_5 (by decide) hf (fun hf => ?_) (fun hf => ?_)
  · refine j_aload_n C 0 dX3_fitTo_8 rfl rfl ?_
    refine j_aload_n C 0 dX3_fitTo_9 rfl rfl ?_
    refine j_get C 1 iX3_fitTo_X3 (g_L hb) rfl (by decide) mX3_fitTo_f15 rfl rfl dX3_fitTo_10 ?_
    refine j_iload_n C 2 dX3_fitTo_13 rfl rfl ?_
    obtain ⟨u1, h2, hf⟩ := bd hf
    refine j_cNI C [.int ((K b 1)), .int p2] gX3_fitTo_X8_wrap_n24 rfl nm_RX3_24 mX3_fitTo_iX8 mX3_fitTo_sX8_wrap hdX8_wrap.2 ⟨⟨rfl, rfl⟩, Nat.le_of_ble_eq_true rfl, Nat.le_of_ble_eq_true rfl⟩ rfl (k_X8_wrap h2) dX3_fitTo_14 rfl (Nat.le_of_ble_eq_true rfl) ?_
    refine j_put C (ty := .int) 1 iX3_fitTo_X3 tyX3 tyX3_ok nmX3 (g_L hb) (s_L_1 hb _) rfl (by decide) mX3_fitTo_f15 rfl rfl (by decide +kernel) rfl rfl (Nat.le_of_ble_eq_true rfl) dX3_fitTo_17 hf (fun K3 hf => ?_)
    cases hf
    exact ret _ _ dX3_fitTo_20
  · cases hf
    exact ret _ _ dX3_fitTo_20
/-- BarrierLights$Link.shownClock()I -/
def f_X3_shownClock (b : Nat) (K : Mem) : Option (Int32) := if (K b 0) = (-1) then (some (-1)) else (some (K b 1))
abbrev rmX3_shownClock : Room := { frames := 0, cells := 0, slots := 0, locals := 0 }
theorem iX3_shownClock_X3 : ∀ w ∈ u_ws RX3 TX3 4, w ∈ wsX3_shownClock := fun _ h => List.mem_cons_of_mem _ (List.mem_append_right _ h)
theorem mX3_shownClock_f9 : Cond.fieldLink RX3 9 "BarrierLights$Link" "plan" "I" ∈ wsX3_shownClock := by decide +kernel
theorem mX3_shownClock_f15 : Cond.fieldLink RX3 15 "BarrierLights$Link" "localClock" "I" ∈ wsX3_shownClock := by decide +kernel
set_option maxRecDepth 100000 in
set_option maxHeartbeats 4000000 in
theorem k_X3_shownClock {l : Launch} {D : va_G} {ad : Nat → Nat} {aI aZ aF : ClassId} {b : Nat} (hb : isL b) {K : Mem} {u : Int32} (hf : f_X3_shownClock b K = some u) : cI (EC l D ad aI aZ aF) yX3_shownClock wsX3_shownClock rmX3_shownClock [.ref (ad b)] K u K := by
  rw [f_X3_shownClock] at hf
  refine j_entI (cc := cX3_shownClock) (maxL := 1) (EC_ok l D ad aI aZ aF) (Or.inl rfl) (by decide) rfl (Nat.le_of_ble_eq_true rfl) (fun G C ret => ?_)
  refine j_sub [0] (lv2 := [(0, .ref (ad b))]) rfl ?_
  refine j_aload_n C 0 dX3_shownClock_0 rfl rfl ?_
  refine j_get C 0 iX3_shownClock_X3 (g_L hb) rfl (by decide) mX3_shownClock_f9 rfl rfl dX3_shownClock_1 ?_
  refine j_iconst C (v := (-1)) dX3_shownClock_4 (by decide) ?_
  refine j_icmp_ne C 12 dX3_shownClock_5 (by decide) hf (fun hf => ?_) (fun hf => ?_)
  · refine j_iconst C (v := (-1)) dX3_shownClock_8 (by decide) ?_
    refine j_goto C 16 dX3_shownClock_9 (by decide) ?_
    cases hf
    exact ret _ _ dX3_shownClock_16 (fun h => by cases h)
  · refine j_aload_n C 0 dX3_shownClock_12 rfl rfl ?_
    refine j_get C 1 iX3_shownClock_X3 (g_L hb) rfl (by decide) mX3_shownClock_f15 rfl rfl dX3_shownClock_13 ?_
    cases hf
    exact ret _ _ dX3_shownClock_16 (fun h => by cases h)
/-- BarrierLights$Plans.make(IIII)Z -/
def f_X5_make (p1 : Int32) (p2 : Int32) (p3 : Int32) (p4 : Int32) (K : Mem) : Option (Int32 × Mem) := (if p1 < 0 then (some 0) else (if 4 ≤ p1 then (some 0) else (if p2 < 20 then (some 0) else (if 120 < p2 then (some 0) else (if p3 < 0 then (some 0) else (if p2 ≤ p3 then (some 0) else (if p4 < 1 then (some 0) else (if p2 ≤ p4 then (some 0) else (some 1)))))))) : Option (Int32)).bind fun v1 => lt v1 fun x4 => if x4 = 0 then (if bb x4 = true then some (x4, K) else none) else (if inb p1 4 = true then (st K 2 (ix p1) p2 fun K6 => if inb p1 4 = true then (st K6 3 (ix p1) p3 fun K7 => if inb p1 4 = true then (st K7 4 (ix p1) p4 fun K8 => if bb x4 = true then some (x4, K8) else none) else none) else none) else none)
abbrev rmX5_make : Room := { frames := 0, cells := 0, slots := 0, locals := 0 }
theorem iX5_make_X5 : ∀ w ∈ u_ws RX5 TX5 3, w ∈ wsX5_make := fun _ h => List.mem_cons_of_mem _ (List.mem_append_right _ h)
theorem mX5_make_f9 : Cond.fieldLink RX5 9 "BarrierLights$Plans" "cycles" "[I" ∈ wsX5_make := by decide +kernel
theorem mX5_make_f15 : Cond.fieldLink RX5 15 "BarrierLights$Plans" "offsets" "[I" ∈ wsX5_make := by decide +kernel
theorem mX5_make_f18 : Cond.fieldLink RX5 18 "BarrierLights$Plans" "splits" "[I" ∈ wsX5_make := by decide +kernel
set_option maxRecDepth 100000 in
set_option maxHeartbeats 4000000 in
theorem k_X5_make {l : Launch} {D : va_G} {ad : Nat → Nat} {aI aZ aF : ClassId} {p1 : Int32} {p2 : Int32} {p3 : Int32} {p4 : Int32} {K : Mem} {u : Int32 × Mem} (hf : f_X5_make p1 p2 p3 p4 K = some u) : cI (EC l D ad aI aZ aF) yX5_make wsX5_make rmX5_make [.ref (ad 1), .int p1, .int p2, .int p3, .int p4] K u.1 u.2 := by
  rw [f_X5_make] at hf
  refine j_entI (cc := cX5_make) (maxL := 6) (EC_ok l D ad aI aZ aF) (Or.inr rfl) (by decide) rfl (Nat.le_of_ble_eq_true rfl) (fun G C ret => ?_)
  refine j_sub [0, 1, 2, 3, 4] (lv2 := [(0, .ref (ad 1)), (1, .int p1), (2, .int p2), (3, .int p3), (4, .int p4)]) rfl ?_
  refine j_iload_n C 1 dX5_make_0 rfl rfl ?_
  obtain ⟨v1, h2, hf⟩ := bd hf
  have jj3 : jW (EC l D ad aI aZ aF) G K 47 [(0, .ref (ad 1)), (1, .int p1), (2, .int p2), (3, .int p3), (4, .int p4)] [.int v1] := by
    refine j_istore C (fun y => [(5, .int y), (0, .ref (ad 1)), (1, .int p1), (2, .int p2), (3, .int p3), (4, .int p4)]) dX5_make_47 (by decide) (fun _ => rfl) hf (fun x4 hf => ?_)
    refine j_iload C 0 dX5_make_49 rfl ?_
    refine j_if_eq C 76 dX5_make_51 (by decide) hf (fun hf => ?_) (fun hf => ?_)
    · refine j_iload C 0 dX5_make_76 rfl ?_
      refine j_chk hf (fun hb5 hf => ?_)
      cases hf
      exact ret _ _ dX5_make_78 (fun _ => hb5)
    · refine j_aload_n C 1 dX5_make_54 rfl rfl ?_
      refine j_get C 0 iX5_make_X5 g_1 rfl (by decide) mX5_make_f9 rfl rfl dX5_make_55 ?_
      refine j_iload_n C 2 dX5_make_58 rfl rfl ?_
      refine j_iload_n C 3 dX5_make_59 rfl rfl ?_
      refine j_iast C 0 g_2 (s_2 _ _) rfl dX5_make_60 hf (fun K6 hf => ?_)
      refine j_aload_n C 1 dX5_make_61 rfl rfl ?_
      refine j_get C 1 iX5_make_X5 g_1 rfl (by decide) mX5_make_f15 rfl rfl dX5_make_62 ?_
      refine j_iload_n C 2 dX5_make_65 rfl rfl ?_
      refine j_iload_n C 4 dX5_make_66 rfl rfl ?_
      refine j_iast C 0 g_3 (s_3 _ _) rfl dX5_make_67 hf (fun K7 hf => ?_)
      refine j_aload_n C 1 dX5_make_68 rfl rfl ?_
      refine j_get C 2 iX5_make_X5 g_1 rfl (by decide) mX5_make_f18 rfl rfl dX5_make_69 ?_
      refine j_iload_n C 2 dX5_make_72 rfl rfl ?_
      refine j_iload C 5 dX5_make_73 rfl ?_
      refine j_iast C 0 g_4 (s_4 _ _) rfl dX5_make_75 hf (fun K8 hf => ?_)
      refine j_iload C 0 dX5_make_76 rfl ?_
      refine j_chk hf (fun hb9 hf => ?_)
      cases hf
      exact ret _ _ dX5_make_78 (fun _ => hb9)
  clear hf
  have hf := h2
  clear h2
  refine j_if_lt C 46 dX5_make_1 (by decide) hf (fun hf => ?_) (fun hf => ?_)
  · refine j_iconst C (v := 0) dX5_make_46 (by decide) ?_
    cases hf
    exact jj3
  · refine j_iload_n C 1 dX5_make_4 rfl rfl ?_
    refine j_iconst C (v := 4) dX5_make_5 (by decide) ?_
    refine j_icmp_ge C 46 dX5_make_6 (by decide) hf (fun hf => ?_) (fun hf => ?_)
    · refine j_iconst C (v := 0) dX5_make_46 (by decide) ?_
      cases hf
      exact jj3
    · refine j_iload_n C 2 dX5_make_9 rfl rfl ?_
      refine j_bipush C (v := 20) dX5_make_10 (by decide) ?_
      refine j_icmp_lt C 46 dX5_make_12 (by decide) hf (fun hf => ?_) (fun hf => ?_)
      · refine j_iconst C (v := 0) dX5_make_46 (by decide) ?_
        cases hf
        exact jj3
      · refine j_iload_n C 2 dX5_make_15 rfl rfl ?_
        refine j_bipush C (v := 120) dX5_make_16 (by decide) ?_
        refine j_icmp_gt C 46 dX5_make_18 (by decide) hf (fun hf => ?_) (fun hf => ?_)
        · refine j_iconst C (v := 0) dX5_make_46 (by decide) ?_
          cases hf
          exact jj3
        · refine j_iload_n C 3 dX5_make_21 rfl rfl ?_
          refine j_if_lt C 46 dX5_make_22 (by decide) hf (fun hf => ?_) (fun hf => ?_)
          · refine j_iconst C (v := 0) dX5_make_46 (by decide) ?_
            cases hf
            exact jj3
          · refine j_iload_n C 3 dX5_make_25 rfl rfl ?_
            refine j_iload_n C 2 dX5_make_26 rfl rfl ?_
            refine j_icmp_ge C 46 dX5_make_27 (by decide) hf (fun hf => ?_) (fun hf => ?_)
            · refine j_iconst C (v := 0) dX5_make_46 (by decide) ?_
              cases hf
              exact jj3
            · refine j_iload C 4 dX5_make_30 rfl ?_
              refine j_iconst C (v := 1) dX5_make_32 (by decide) ?_
              refine j_icmp_lt C 46 dX5_make_33 (by decide) hf (fun hf => ?_) (fun hf => ?_)
              · refine j_iconst C (v := 0) dX5_make_46 (by decide) ?_
                cases hf
                exact jj3
              · refine j_iload C 4 dX5_make_36 rfl ?_
                refine j_iload_n C 2 dX5_make_38 rfl rfl ?_
                refine j_icmp_ge C 46 dX5_make_39 (by decide) hf (fun hf => ?_) (fun hf => ?_)
                · refine j_iconst C (v := 0) dX5_make_46 (by decide) ?_
                  cases hf
                  exact jj3
                · refine j_iconst C (v := 1) dX5_make_42 (by decide) ?_
                  refine j_goto C 47 dX5_make_43 (by decide) ?_
                  cases hf
                  exact jj3
/-- BarrierLights$Table.write(III)V -/
def f_X7_write (b : Nat) (p1 : Int32) (p2 : Int32) (p3 : Int32) (K : Mem) : Option (Mem) := lt ((p1 * 8) + p2) fun x1 => if x1 < 0 then (some K) else (if 64 ≤ x1 then (some K) else (if inb x1 64 = true then (st K (b + 1) (ix x1) p3 fun K2 => some K2) else none))
abbrev rmX7_write : Room := { frames := 0, cells := 0, slots := 0, locals := 0 }
theorem iX7_write_X7 : ∀ w ∈ u_ws RX7 TX7 1, w ∈ wsX7_write := fun _ h => List.mem_cons_of_mem _ (List.mem_append_right _ h)
theorem mX7_write_f9 : Cond.fieldLink RX7 9 "BarrierLights$Table" "entries" "[I" ∈ wsX7_write := by decide +kernel
set_option maxRecDepth 100000 in
set_option maxHeartbeats 4000000 in
theorem k_X7_write {l : Launch} {D : va_G} {ad : Nat → Nat} {aI aZ aF : ClassId} {b : Nat} {p1 : Int32} {p2 : Int32} {p3 : Int32} (hb : isT b) {K : Mem} {u : Mem} (hf : f_X7_write b p1 p2 p3 K = some u) : cV (EC l D ad aI aZ aF) yX7_write wsX7_write rmX7_write [.ref (ad b), .int p1, .int p2, .int p3] K u := by
  rw [f_X7_write] at hf
  refine j_entV (cc := cX7_write) (maxL := 5) (EC_ok l D ad aI aZ aF) (by decide) rfl (Nat.le_of_ble_eq_true rfl) (fun G C ret => ?_)
  refine j_sub [0, 1, 2, 3] (lv2 := [(0, .ref (ad b)), (1, .int p1), (2, .int p2), (3, .int p3)]) rfl ?_
  refine j_iload_n C 1 dX7_write_0 rfl rfl ?_
  refine j_bipush C (v := 8) dX7_write_1 (by decide) ?_
  refine j_imul C dX7_write_3 ?_
  refine j_iload_n C 2 dX7_write_4 rfl rfl ?_
  refine j_iadd C dX7_write_5 ?_
  refine j_istore C (fun y => [(4, .int y), (0, .ref (ad b)), (1, .int p1), (2, .int p2), (3, .int p3)]) dX7_write_6 (by decide) (fun _ => rfl) hf (fun x1 hf => ?_)
  refine j_iload C 0 dX7_write_8 rfl ?_
  refine j_if_lt C 31 dX7_write_10 (by decide) hf (fun hf => ?_) (fun hf => ?_)
  · cases hf
    exact ret _ _ dX7_write_31
  · refine j_iload C 0 dX7_write_13 rfl ?_
    refine j_aload_n C 1 dX7_write_15 rfl rfl ?_
    refine j_get C 0 iX7_write_X7 (g_T hb) rfl (by decide) mX7_write_f9 rfl rfl dX7_write_16 ?_
    refine j_alen C (v := 64) 0 (g_Ta hb) rfl rfl dX7_write_19 ?_
    refine j_icmp_ge C 31 dX7_write_20 (by decide) hf (fun hf => ?_) (fun hf => ?_)
    · cases hf
      exact ret _ _ dX7_write_31
    · refine j_aload_n C 1 dX7_write_23 rfl rfl ?_
      refine j_get C 0 iX7_write_X7 (g_T hb) rfl (by decide) mX7_write_f9 rfl rfl dX7_write_24 ?_
      refine j_iload C 0 dX7_write_27 rfl ?_
      refine j_iload_n C 4 dX7_write_29 rfl rfl ?_
      refine j_iast C 0 (g_Ta hb) (s_Ta hb _ _) rfl dX7_write_30 hf (fun K2 hf => ?_)
      cases hf
      exact ret _ _ dX7_write_31
/-- BarrierLights.controllerOf(I)LBarrierLights$Controller; -/
def f_X8_controllerOf (p1 : Int32) (K : Mem) : Option (Option Nat) := if p1 = 0 then (some (some 5)) else (if p1 = 1 then (some (some 24)) else (some none))
abbrev rmX8_controllerOf : Room := { frames := 0, cells := 0, slots := 0, locals := 0 }
theorem iX8_controllerOf_X8 : ∀ w ∈ u_ws RX8 TX8 4, w ∈ wsX8_controllerOf := fun _ h => List.mem_cons_of_mem _ (List.mem_append_right _ h)
theorem mX8_controllerOf_f19 : Cond.fieldLink RX8 19 "BarrierLights" "controller0" "LBarrierLights$Controller;" ∈ wsX8_controllerOf := by decide +kernel
theorem mX8_controllerOf_f23 : Cond.fieldLink RX8 23 "BarrierLights" "controller1" "LBarrierLights$Controller;" ∈ wsX8_controllerOf := by decide +kernel
set_option maxRecDepth 100000 in
set_option maxHeartbeats 4000000 in
theorem k_X8_controllerOf {l : Launch} {D : va_G} {ad : Nat → Nat} {aI aZ aF : ClassId} {p1 : Int32} {K : Mem} {u : Option Nat} (hf : f_X8_controllerOf p1 K = some u) : cQ (EC l D ad aI aZ aF) yX8_controllerOf wsX8_controllerOf rmX8_controllerOf [.ref (ad 0), .int p1] K (u.map ad) K := by
  rw [f_X8_controllerOf] at hf
  refine j_entQ (cc := cX8_controllerOf) (maxL := 2) (EC_ok l D ad aI aZ aF) (by decide) rfl (Nat.le_of_ble_eq_true rfl) (fun G C ret => ?_)
  refine j_sub [0, 1] (lv2 := [(0, .ref (ad 0)), (1, .int p1)]) rfl ?_
  refine j_iload_n C 1 dX8_controllerOf_0 rfl rfl ?_
  refine j_if_ne C 9 dX8_controllerOf_1 (by decide) hf (fun hf => ?_) (fun hf => ?_)
  · refine j_aload_n C 0 dX8_controllerOf_4 rfl rfl ?_
    refine j_get C 1 iX8_controllerOf_X8 g_0 rfl (by decide) mX8_controllerOf_f19 rfl rfl dX8_controllerOf_5 ?_
    cases hf
    exact ret _ _ dX8_controllerOf_8
  · refine j_iload_n C 1 dX8_controllerOf_9 rfl rfl ?_
    refine j_iconst C (v := 1) dX8_controllerOf_10 (by decide) ?_
    refine j_icmp_ne C 21 dX8_controllerOf_11 (by decide) hf (fun hf => ?_) (fun hf => ?_)
    · refine j_aload_n C 0 dX8_controllerOf_14 rfl rfl ?_
      refine j_get C 2 iX8_controllerOf_X8 g_0 rfl (by decide) mX8_controllerOf_f23 rfl rfl dX8_controllerOf_15 ?_
      refine j_goto C 22 dX8_controllerOf_18 (by decide) ?_
      cases hf
      exact ret _ _ dX8_controllerOf_22
    · refine j_null C dX8_controllerOf_21 ?_
      cases hf
      exact ret _ _ dX8_controllerOf_22
theorem q_X8_controllerOf {p1 : Int32} {K : Mem} {b : Nat} (h : f_X8_controllerOf p1 K = some (some b)) : isC b := by
  rw [f_X8_controllerOf] at h
  by_cases h0 : p1 = 0
  · rw [if_pos h0] at h
    cases h
    exact isC_5
  · rw [if_neg h0] at h
    by_cases h1 : p1 = 1
    · rw [if_pos h1] at h
      cases h
      exact isC_24
    · rw [if_neg h1] at h
      cases h
/-- BarrierLights.put(IIII)Z -/
def f_X8_put (p1 : Int32) (p2 : Int32) (p3 : Int32) (p4 : Int32) (K : Mem) : Option (Int32 × Mem) := (f_X8_controllerOf p1 K).bind fun u1 => oc u1 (some (0, K)) (fun b3 => (f_X8_isPhase p2 K).bind fun u5 => if u5 = 0 then (some (0, K)) else (if p3 < 0 then (some (0, K)) else (if 8 ≤ p3 then (some (0, K)) else (if p4 < 0 then (some (0, K)) else (if p4 ≤ 99 then ((f_X7_write (b3 + 1) p2 p3 p4 K).bind fun u7 => some (1, u7)) else (some (0, K)))))))
abbrev rmX8_put : Room := { frames := 1, cells := 0, slots := 0, locals := 24 }
theorem hdX8_controllerOf : yX8_controllerOf.cls = RX8 ∧ yX8_controllerOf.cls ≠ "java/lang/invoke/MethodHandle" ∧ yX8_controllerOf.cls ≠ "java/lang/invoke/VarHandle" ∧ (parseMethodDescriptor yX8_controllerOf.desc).map (fun d => d.parameters.length) = some 1 := by decide +kernel
theorem iX8_put_X0 : ∀ w ∈ u_ws RX0 TX0 16, w ∈ wsX8_put := fun _ h => List.mem_cons_of_mem _ (List.mem_append_left _ (List.mem_append_left _ (List.mem_append_right _ h)))
theorem hdX7_write : yX7_write.cls = RX7 ∧ yX7_write.cls ≠ "java/lang/invoke/MethodHandle" ∧ yX7_write.cls ≠ "java/lang/invoke/VarHandle" ∧ (parseMethodDescriptor yX7_write.desc).map (fun d => d.parameters.length) = some 3 := by decide +kernel
set_option maxRecDepth 100000 in
set_option maxHeartbeats 4000000 in
theorem k_X8_put {l : Launch} {D : va_G} {ad : Nat → Nat} {aI aZ aF : ClassId} {p1 : Int32} {p2 : Int32} {p3 : Int32} {p4 : Int32} {K : Mem} {u : Int32 × Mem} (hf : f_X8_put p1 p2 p3 p4 K = some u) : cI (EC l D ad aI aZ aF) yX8_put wsX8_put rmX8_put [.ref (ad 0), .int p1, .int p2, .int p3, .int p4] K u.1 u.2 := by
  rw [f_X8_put] at hf
  refine j_entI (cc := cX8_put) (maxL := 6) (EC_ok l D ad aI aZ aF) (Or.inr rfl) (by decide) rfl (Nat.le_of_ble_eq_true rfl) (fun G C ret => ?_)
  refine j_sub [0, 1, 2, 3, 4] (lv2 := [(0, .ref (ad 0)), (1, .int p1), (2, .int p2), (3, .int p3), (4, .int p4)]) rfl ?_
  refine j_aload_n C 0 dX8_put_0 rfl rfl ?_
  refine j_iload_n C 1 dX8_put_1 rfl rfl ?_
  obtain ⟨u1, h2, hf⟩ := bd hf
  refine j_cVQ C [.int p1] gX8_put_X8_controllerOf rfl hdX8_controllerOf ⟨⟨rfl, rfl⟩, Nat.le_of_ble_eq_true rfl, Nat.le_of_ble_eq_true rfl⟩ rfl g_0 rfl (k_X8_controllerOf h2) dX8_put_2 rfl (Nat.le_of_ble_eq_true rfl) ?_
  cases u1 with
  | none =>
    have hf := oc_n hf
    refine j_astoreN C [(5, .null), (0, .ref (ad 0)), (1, .int p1), (2, .int p2), (3, .int p3), (4, .int p4)] dX8_put_5 (by decide) rfl ?_
    refine j_aloadN C 0 dX8_put_7 rfl ?_
    refine j_ifnullN C 19 dX8_put_9 (by decide) ?_
    refine j_iconst C (v := 0) dX8_put_19 (by decide) ?_
    cases hf
    exact ret _ _ dX8_put_20 (fun _ => rfl)
  | some b3 =>
    have hk4 := q_X8_controllerOf h2
    have hf := oc_s hf
    refine j_astore C [(5, .ref (ad b3)), (0, .ref (ad 0)), (1, .int p1), (2, .int p2), (3, .int p3), (4, .int p4)] dX8_put_5 (by decide) rfl ?_
    refine j_aload C 0 dX8_put_7 rfl ?_
    refine j_ifnull C dX8_put_9 ?_
    refine j_iload_n C 3 dX8_put_12 rfl rfl ?_
    obtain ⟨u5, h6, hf⟩ := bd hf
    refine j_cSI C [.int p2] gX8_put_X8_isPhase rfl hdX8_isPhase.2 ⟨⟨rfl, rfl⟩, Nat.le_of_ble_eq_true rfl, Nat.le_of_ble_eq_true rfl⟩ rfl (k_X8_isPhase h6) dX8_put_13 rfl (Nat.le_of_ble_eq_true rfl) ?_
    refine j_if_ne C 21 dX8_put_16 (by decide) hf (fun hf => ?_) (fun hf => ?_)
    · refine j_iconst C (v := 0) dX8_put_19 (by decide) ?_
      cases hf
      exact ret _ _ dX8_put_20 (fun _ => rfl)
    · refine j_iload_n C 4 dX8_put_21 rfl rfl ?_
      refine j_if_lt C 43 dX8_put_22 (by decide) hf (fun hf => ?_) (fun hf => ?_)
      · refine j_iconst C (v := 0) dX8_put_43 (by decide) ?_
        cases hf
        exact ret _ _ dX8_put_44 (fun _ => rfl)
      · refine j_iload_n C 4 dX8_put_25 rfl rfl ?_
        refine j_bipush C (v := 8) dX8_put_26 (by decide) ?_
        refine j_icmp_ge C 43 dX8_put_28 (by decide) hf (fun hf => ?_) (fun hf => ?_)
        · refine j_iconst C (v := 0) dX8_put_43 (by decide) ?_
          cases hf
          exact ret _ _ dX8_put_44 (fun _ => rfl)
        · refine j_iload C 5 dX8_put_31 rfl ?_
          refine j_if_lt C 43 dX8_put_33 (by decide) hf (fun hf => ?_) (fun hf => ?_)
          · refine j_iconst C (v := 0) dX8_put_43 (by decide) ?_
            cases hf
            exact ret _ _ dX8_put_44 (fun _ => rfl)
          · refine j_iload C 5 dX8_put_36 rfl ?_
            refine j_bipush C (v := 99) dX8_put_38 (by decide) ?_
            refine j_icmp_le C 45 dX8_put_40 (by decide) hf (fun hf => ?_) (fun hf => ?_)
            · refine j_aload C 0 dX8_put_45 rfl ?_
              refine j_getN C 0 iX8_put_X0 (g_C hk4) rfl (by decide) nf_RX8_38 rfl rfl dX8_put_47 ?_
              refine j_iload_n C 3 dX8_put_50 rfl rfl ?_
              refine j_iload_n C 4 dX8_put_51 rfl rfl ?_
              refine j_iload C 5 dX8_put_52 rfl ?_
              obtain ⟨u7, h8, hf⟩ := bd hf
              refine j_cVV C [.int p2, .int p3, .int p4] gX8_put_X7_write rfl hdX7_write ⟨⟨rfl, rfl⟩, Nat.le_of_ble_eq_true rfl, Nat.le_of_ble_eq_true rfl⟩ rfl (g_T (isC_T1 hk4)) rfl (k_X7_write (isC_T1 hk4) h8) dX8_put_54 rfl (Nat.le_of_ble_eq_true rfl) ?_
              refine j_iconst C (v := 1) dX8_put_57 (by decide) ?_
              cases hf
              exact ret _ _ dX8_put_58 (fun _ => rfl)
            · refine j_iconst C (v := 0) dX8_put_43 (by decide) ?_
              cases hf
              exact ret _ _ dX8_put_44 (fun _ => rfl)
/-- BarrierLights.place(I)I -/
def f_X8_place (p1 : Int32) (K : Mem) : Option (Int32) := (f_X8_controllerOf p1 K).bind fun u1 => oc u1 (some (-1)) (fun b3 => some (K b3 9))
abbrev rmX8_place : Room := { frames := 1, cells := 0, slots := 0, locals := 21 }
theorem iX8_place_X0 : ∀ w ∈ u_ws RX0 TX0 16, w ∈ wsX8_place := fun _ h => List.mem_cons_of_mem _ (List.mem_append_left _ (List.mem_append_right _ h))
set_option maxRecDepth 100000 in
set_option maxHeartbeats 4000000 in
theorem k_X8_place {l : Launch} {D : va_G} {ad : Nat → Nat} {aI aZ aF : ClassId} {p1 : Int32} {K : Mem} {u : Int32} (hf : f_X8_place p1 K = some u) : cI (EC l D ad aI aZ aF) yX8_place wsX8_place rmX8_place [.ref (ad 0), .int p1] K u K := by
  rw [f_X8_place] at hf
  refine j_entI (cc := cX8_place) (maxL := 3) (EC_ok l D ad aI aZ aF) (Or.inl rfl) (by decide) rfl (Nat.le_of_ble_eq_true rfl) (fun G C ret => ?_)
  refine j_sub [0, 1] (lv2 := [(0, .ref (ad 0)), (1, .int p1)]) rfl ?_
  refine j_aload_n C 0 dX8_place_0 rfl rfl ?_
  refine j_iload_n C 1 dX8_place_1 rfl rfl ?_
  obtain ⟨u1, h2, hf⟩ := bd hf
  refine j_cVQ C [.int p1] gX8_place_X8_controllerOf rfl hdX8_controllerOf ⟨⟨rfl, rfl⟩, Nat.le_of_ble_eq_true rfl, Nat.le_of_ble_eq_true rfl⟩ rfl g_0 rfl (k_X8_controllerOf h2) dX8_place_2 rfl (Nat.le_of_ble_eq_true rfl) ?_
  cases u1 with
  | none =>
    have hf := oc_n hf
    refine j_astore_nN C [(2, .null), (0, .ref (ad 0)), (1, .int p1)] dX8_place_5 rfl (by decide) rfl ?_
    refine j_aload_nN C 0 dX8_place_6 rfl rfl ?_
    refine j_ifnonnullN C dX8_place_7 ?_
    refine j_iconst C (v := (-1)) dX8_place_10 (by decide) ?_
    refine j_goto C 18 dX8_place_11 (by decide) ?_
    cases hf
    exact ret _ _ dX8_place_18 (fun h => by cases h)
  | some b3 =>
    have hk4 := q_X8_controllerOf h2
    have hf := oc_s hf
    refine j_astore_n C [(2, .ref (ad b3)), (0, .ref (ad 0)), (1, .int p1)] dX8_place_5 rfl (by decide) rfl ?_
    refine j_aload_n C 0 dX8_place_6 rfl rfl ?_
    refine j_ifnonnull C 14 dX8_place_7 (by decide) ?_
    refine j_aload_n C 0 dX8_place_14 rfl rfl ?_
    refine j_getN C 9 iX8_place_X0 (g_C hk4) rfl (by decide) nf_RX8_73 rfl rfl dX8_place_15 ?_
    cases hf
    exact ret _ _ dX8_place_18 (fun h => by cases h)
/-- BarrierLights.detect(IIZ)Z -/
def f_X8_detect (p1 : Int32) (p2 : Int32) (p3 : Int32) (K : Mem) : Option (Int32 × Mem) := (f_X8_controllerOf p1 K).bind fun u1 => oc u1 (some (0, K)) (fun b3 => (f_X8_isPhase p2 K).bind fun u5 => if u5 = 0 then (some (0, K)) else ((f_X1_turn (b3 + 5) p2 p3 K).bind fun u7 => some (1, u7)))
abbrev rmX8_detect : Room := { frames := 2, cells := 0, slots := 0, locals := 42 }
theorem iX8_detect_X0 : ∀ w ∈ u_ws RX0 TX0 16, w ∈ wsX8_detect := fun _ h => List.mem_cons_of_mem _ (List.mem_append_left _ (List.mem_append_left _ (List.mem_append_right _ h)))
theorem hdX1_turn : yX1_turn.cls = RX1 ∧ yX1_turn.cls ≠ "java/lang/invoke/MethodHandle" ∧ yX1_turn.cls ≠ "java/lang/invoke/VarHandle" ∧ (parseMethodDescriptor yX1_turn.desc).map (fun d => d.parameters.length) = some 2 := by decide +kernel
set_option maxRecDepth 100000 in
set_option maxHeartbeats 4000000 in
theorem k_X8_detect {l : Launch} {D : va_G} {ad : Nat → Nat} {aI aZ aF : ClassId} {p1 : Int32} {p2 : Int32} {p3 : Int32} {K : Mem} {u : Int32 × Mem} (hf : f_X8_detect p1 p2 p3 K = some u) : cI (EC l D ad aI aZ aF) yX8_detect wsX8_detect rmX8_detect [.ref (ad 0), .int p1, .int p2, .int p3] K u.1 u.2 := by
  rw [f_X8_detect] at hf
  refine j_entI (cc := cX8_detect) (maxL := 5) (EC_ok l D ad aI aZ aF) (Or.inr rfl) (by decide) rfl (Nat.le_of_ble_eq_true rfl) (fun G C ret => ?_)
  refine j_sub [0, 1, 2, 3] (lv2 := [(0, .ref (ad 0)), (1, .int p1), (2, .int p2), (3, .int p3)]) rfl ?_
  refine j_aload_n C 0 dX8_detect_0 rfl rfl ?_
  refine j_iload_n C 1 dX8_detect_1 rfl rfl ?_
  obtain ⟨u1, h2, hf⟩ := bd hf
  refine j_cVQ C [.int p1] gX8_detect_X8_controllerOf rfl hdX8_controllerOf ⟨⟨rfl, rfl⟩, Nat.le_of_ble_eq_true rfl, Nat.le_of_ble_eq_true rfl⟩ rfl g_0 rfl (k_X8_controllerOf h2) dX8_detect_2 rfl (Nat.le_of_ble_eq_true rfl) ?_
  cases u1 with
  | none =>
    have hf := oc_n hf
    refine j_astoreN C [(4, .null), (0, .ref (ad 0)), (1, .int p1), (2, .int p2), (3, .int p3)] dX8_detect_5 (by decide) rfl ?_
    refine j_aloadN C 0 dX8_detect_7 rfl ?_
    refine j_ifnullN C 19 dX8_detect_9 (by decide) ?_
    refine j_iconst C (v := 0) dX8_detect_19 (by decide) ?_
    cases hf
    exact ret _ _ dX8_detect_20 (fun _ => rfl)
  | some b3 =>
    have hk4 := q_X8_controllerOf h2
    have hf := oc_s hf
    refine j_astore C [(4, .ref (ad b3)), (0, .ref (ad 0)), (1, .int p1), (2, .int p2), (3, .int p3)] dX8_detect_5 (by decide) rfl ?_
    refine j_aload C 0 dX8_detect_7 rfl ?_
    refine j_ifnull C dX8_detect_9 ?_
    refine j_iload_n C 3 dX8_detect_12 rfl rfl ?_
    obtain ⟨u5, h6, hf⟩ := bd hf
    refine j_cSI C [.int p2] gX8_detect_X8_isPhase rfl hdX8_isPhase.2 ⟨⟨rfl, rfl⟩, Nat.le_of_ble_eq_true rfl, Nat.le_of_ble_eq_true rfl⟩ rfl (k_X8_isPhase h6) dX8_detect_13 rfl (Nat.le_of_ble_eq_true rfl) ?_
    refine j_if_ne C 21 dX8_detect_16 (by decide) hf (fun hf => ?_) (fun hf => ?_)
    · refine j_iconst C (v := 0) dX8_detect_19 (by decide) ?_
      cases hf
      exact ret _ _ dX8_detect_20 (fun _ => rfl)
    · refine j_aload C 0 dX8_detect_21 rfl ?_
      refine j_getN C 2 iX8_detect_X0 (g_C hk4) rfl (by decide) nf_RX8_76 rfl rfl dX8_detect_23 ?_
      refine j_iload_n C 3 dX8_detect_26 rfl rfl ?_
      refine j_iload_n C 4 dX8_detect_27 rfl rfl ?_
      obtain ⟨u7, h8, hf⟩ := bd hf
      refine j_cVV C [.int p2, .int p3] gX8_detect_X1_turn rfl hdX1_turn ⟨⟨rfl, rfl⟩, Nat.le_of_ble_eq_true rfl, Nat.le_of_ble_eq_true rfl⟩ rfl (g_D (isC_D hk4)) rfl (k_X1_turn (isC_D hk4) h8) dX8_detect_28 rfl (Nat.le_of_ble_eq_true rfl) ?_
      refine j_iconst C (v := 1) dX8_detect_31 (by decide) ?_
      cases hf
      exact ret _ _ dX8_detect_32 (fun _ => rfl)
/-- BarrierLights.press(II)Z -/
def f_X8_press (p1 : Int32) (p2 : Int32) (K : Mem) : Option (Int32 × Mem) := (f_X8_controllerOf p1 K).bind fun u1 => oc u1 (some (0, K)) (fun b3 => (f_X8_isPhase p2 K).bind fun u5 => if u5 = 0 then (some (0, K)) else ((f_X0_takeButton b3 p2 K).bind fun u7 => if u7.1 = 0 then (some (0, u7.2)) else (some (1, u7.2))))
abbrev rmX8_press : Room := { frames := 2, cells := 0, slots := 0, locals := 45 }
theorem hdX0_takeButton : yX0_takeButton.cls = RX0 ∧ yX0_takeButton.cls ≠ "java/lang/invoke/MethodHandle" ∧ yX0_takeButton.cls ≠ "java/lang/invoke/VarHandle" ∧ (parseMethodDescriptor yX0_takeButton.desc).map (fun d => d.parameters.length) = some 1 := by decide +kernel
set_option maxRecDepth 100000 in
set_option maxHeartbeats 4000000 in
theorem k_X8_press {l : Launch} {D : va_G} {ad : Nat → Nat} {aI aZ aF : ClassId} {p1 : Int32} {p2 : Int32} {K : Mem} {u : Int32 × Mem} (hf : f_X8_press p1 p2 K = some u) : cI (EC l D ad aI aZ aF) yX8_press wsX8_press rmX8_press [.ref (ad 0), .int p1, .int p2] K u.1 u.2 := by
  rw [f_X8_press] at hf
  refine j_entI (cc := cX8_press) (maxL := 4) (EC_ok l D ad aI aZ aF) (Or.inr rfl) (by decide) rfl (Nat.le_of_ble_eq_true rfl) (fun G C ret => ?_)
  refine j_sub [0, 1, 2] (lv2 := [(0, .ref (ad 0)), (1, .int p1), (2, .int p2)]) rfl ?_
  refine j_aload_n C 0 dX8_press_0 rfl rfl ?_
  refine j_iload_n C 1 dX8_press_1 rfl rfl ?_
  obtain ⟨u1, h2, hf⟩ := bd hf
  refine j_cVQ C [.int p1] gX8_press_X8_controllerOf rfl hdX8_controllerOf ⟨⟨rfl, rfl⟩, Nat.le_of_ble_eq_true rfl, Nat.le_of_ble_eq_true rfl⟩ rfl g_0 rfl (k_X8_controllerOf h2) dX8_press_2 rfl (Nat.le_of_ble_eq_true rfl) ?_
  cases u1 with
  | none =>
    have hf := oc_n hf
    refine j_astore_nN C [(3, .null), (0, .ref (ad 0)), (1, .int p1), (2, .int p2)] dX8_press_5 rfl (by decide) rfl ?_
    refine j_aload_nN C 0 dX8_press_6 rfl rfl ?_
    refine j_ifnullN C 29 dX8_press_7 (by decide) ?_
    refine j_iconst C (v := 0) dX8_press_29 (by decide) ?_
    cases hf
    exact ret _ _ dX8_press_30 (fun _ => rfl)
  | some b3 =>
    have hk4 := q_X8_controllerOf h2
    have hf := oc_s hf
    refine j_astore_n C [(3, .ref (ad b3)), (0, .ref (ad 0)), (1, .int p1), (2, .int p2)] dX8_press_5 rfl (by decide) rfl ?_
    refine j_aload_n C 0 dX8_press_6 rfl rfl ?_
    refine j_ifnull C dX8_press_7 ?_
    refine j_iload_n C 3 dX8_press_10 rfl rfl ?_
    obtain ⟨u5, h6, hf⟩ := bd hf
    refine j_cSI C [.int p2] gX8_press_X8_isPhase rfl hdX8_isPhase.2 ⟨⟨rfl, rfl⟩, Nat.le_of_ble_eq_true rfl, Nat.le_of_ble_eq_true rfl⟩ rfl (k_X8_isPhase h6) dX8_press_11 rfl (Nat.le_of_ble_eq_true rfl) ?_
    refine j_if_eq C 29 dX8_press_14 (by decide) hf (fun hf => ?_) (fun hf => ?_)
    · refine j_iconst C (v := 0) dX8_press_29 (by decide) ?_
      cases hf
      exact ret _ _ dX8_press_30 (fun _ => rfl)
    · refine j_aload_n C 0 dX8_press_17 rfl rfl ?_
      refine j_iload_n C 3 dX8_press_18 rfl rfl ?_
      obtain ⟨u7, h8, hf⟩ := bd hf
      refine j_cVI C [.int p2] gX8_press_X0_takeButton rfl hdX0_takeButton ⟨⟨rfl, rfl⟩, Nat.le_of_ble_eq_true rfl, Nat.le_of_ble_eq_true rfl⟩ rfl (g_C hk4) rfl (k_X0_takeButton hk4 h8) dX8_press_19 rfl (Nat.le_of_ble_eq_true rfl) ?_
      refine j_if_eq C 29 dX8_press_22 (by decide) hf (fun hf => ?_) (fun hf => ?_)
      · refine j_iconst C (v := 0) dX8_press_29 (by decide) ?_
        cases hf
        exact ret _ _ dX8_press_30 (fun _ => rfl)
      · refine j_iconst C (v := 1) dX8_press_25 (by decide) ?_
        refine j_goto C 30 dX8_press_26 (by decide) ?_
        cases hf
        exact ret _ _ dX8_press_30 (fun _ => rfl)
/-- BarrierLights.target(III)Z -/
def f_X8_target (p1 : Int32) (p2 : Int32) (p3 : Int32) (K : Mem) : Option (Int32 × Mem) := (f_X8_controllerOf p1 K).bind fun u1 => oc u1 (some (0, K)) (fun b3 => (f_X8_isInput p2 K).bind fun u5 => if u5 = 0 then (some (0, K)) else ((f_X8_isPhase p3 K).bind fun u7 => if u7 = 0 then (some (0, K)) else ((f_X2_aim (b3 + 9) p2 p3 K).bind fun u9 => some (1, u9))))
abbrev rmX8_target : Room := { frames := 2, cells := 0, slots := 0, locals := 42 }
theorem iX8_target_X0 : ∀ w ∈ u_ws RX0 TX0 16, w ∈ wsX8_target := fun _ h => List.mem_cons_of_mem _ (List.mem_append_left _ (List.mem_append_left _ (List.mem_append_right _ h)))
theorem hdX2_aim : yX2_aim.cls = RX2 ∧ yX2_aim.cls ≠ "java/lang/invoke/MethodHandle" ∧ yX2_aim.cls ≠ "java/lang/invoke/VarHandle" ∧ (parseMethodDescriptor yX2_aim.desc).map (fun d => d.parameters.length) = some 2 := by decide +kernel
set_option maxRecDepth 100000 in
set_option maxHeartbeats 4000000 in
theorem k_X8_target {l : Launch} {D : va_G} {ad : Nat → Nat} {aI aZ aF : ClassId} {p1 : Int32} {p2 : Int32} {p3 : Int32} {K : Mem} {u : Int32 × Mem} (hf : f_X8_target p1 p2 p3 K = some u) : cI (EC l D ad aI aZ aF) yX8_target wsX8_target rmX8_target [.ref (ad 0), .int p1, .int p2, .int p3] K u.1 u.2 := by
  rw [f_X8_target] at hf
  refine j_entI (cc := cX8_target) (maxL := 5) (EC_ok l D ad aI aZ aF) (Or.inr rfl) (by decide) rfl (Nat.le_of_ble_eq_true rfl) (fun G C ret => ?_)
  refine j_sub [0, 1, 2, 3] (lv2 := [(0, .ref (ad 0)), (1, .int p1), (2, .int p2), (3, .int p3)]) rfl ?_
  refine j_aload_n C 0 dX8_target_0 rfl rfl ?_
  refine j_iload_n C 1 dX8_target_1 rfl rfl ?_
  obtain ⟨u1, h2, hf⟩ := bd hf
  refine j_cVQ C [.int p1] gX8_target_X8_controllerOf rfl hdX8_controllerOf ⟨⟨rfl, rfl⟩, Nat.le_of_ble_eq_true rfl, Nat.le_of_ble_eq_true rfl⟩ rfl g_0 rfl (k_X8_controllerOf h2) dX8_target_2 rfl (Nat.le_of_ble_eq_true rfl) ?_
  cases u1 with
  | none =>
    have hf := oc_n hf
    refine j_astoreN C [(4, .null), (0, .ref (ad 0)), (1, .int p1), (2, .int p2), (3, .int p3)] dX8_target_5 (by decide) rfl ?_
    refine j_aloadN C 0 dX8_target_7 rfl ?_
    refine j_ifnullN C 26 dX8_target_9 (by decide) ?_
    refine j_iconst C (v := 0) dX8_target_26 (by decide) ?_
    cases hf
    exact ret _ _ dX8_target_27 (fun _ => rfl)
  | some b3 =>
    have hk4 := q_X8_controllerOf h2
    have hf := oc_s hf
    refine j_astore C [(4, .ref (ad b3)), (0, .ref (ad 0)), (1, .int p1), (2, .int p2), (3, .int p3)] dX8_target_5 (by decide) rfl ?_
    refine j_aload C 0 dX8_target_7 rfl ?_
    refine j_ifnull C dX8_target_9 ?_
    refine j_iload_n C 3 dX8_target_12 rfl rfl ?_
    obtain ⟨u5, h6, hf⟩ := bd hf
    refine j_cSI C [.int p2] gX8_target_X8_isInput rfl hdX8_isInput.2 ⟨⟨rfl, rfl⟩, Nat.le_of_ble_eq_true rfl, Nat.le_of_ble_eq_true rfl⟩ rfl (k_X8_isInput h6) dX8_target_13 rfl (Nat.le_of_ble_eq_true rfl) ?_
    refine j_if_eq C 26 dX8_target_16 (by decide) hf (fun hf => ?_) (fun hf => ?_)
    · refine j_iconst C (v := 0) dX8_target_26 (by decide) ?_
      cases hf
      exact ret _ _ dX8_target_27 (fun _ => rfl)
    · refine j_iload_n C 4 dX8_target_19 rfl rfl ?_
      obtain ⟨u7, h8, hf⟩ := bd hf
      refine j_cSI C [.int p3] gX8_target_X8_isPhase rfl hdX8_isPhase.2 ⟨⟨rfl, rfl⟩, Nat.le_of_ble_eq_true rfl, Nat.le_of_ble_eq_true rfl⟩ rfl (k_X8_isPhase h8) dX8_target_20 rfl (Nat.le_of_ble_eq_true rfl) ?_
      refine j_if_ne C 28 dX8_target_23 (by decide) hf (fun hf => ?_) (fun hf => ?_)
      · refine j_iconst C (v := 0) dX8_target_26 (by decide) ?_
        cases hf
        exact ret _ _ dX8_target_27 (fun _ => rfl)
      · refine j_aload C 0 dX8_target_28 rfl ?_
        refine j_getN C 4 iX8_target_X0 (g_C hk4) rfl (by decide) nf_RX8_92 rfl rfl dX8_target_30 ?_
        refine j_iload_n C 3 dX8_target_33 rfl rfl ?_
        refine j_iload_n C 4 dX8_target_34 rfl rfl ?_
        obtain ⟨u9, h10, hf⟩ := bd hf
        refine j_cVV C [.int p2, .int p3] gX8_target_X2_aim rfl hdX2_aim ⟨⟨rfl, rfl⟩, Nat.le_of_ble_eq_true rfl, Nat.le_of_ble_eq_true rfl⟩ rfl (g_N (isC_N hk4)) rfl (k_X2_aim (isC_N hk4) h10) dX8_target_35 rfl (Nat.le_of_ble_eq_true rfl) ?_
        refine j_iconst C (v := 1) dX8_target_38 (by decide) ?_
        cases hf
        exact ret _ _ dX8_target_39 (fun _ => rfl)
/-- BarrierLights.preempt(IIZ)Z -/
def f_X8_preempt (p1 : Int32) (p2 : Int32) (p3 : Int32) (K : Mem) : Option (Int32 × Mem) := (f_X8_controllerOf p1 K).bind fun u1 => oc u1 (some (0, K)) (fun b3 => (f_X8_isInput p2 K).bind fun u5 => if u5 = 0 then (some (0, K)) else ((f_X2_turn (b3 + 9) p2 p3 K).bind fun u7 => some (1, u7)))
abbrev rmX8_preempt : Room := { frames := 2, cells := 0, slots := 0, locals := 42 }
theorem iX8_preempt_X0 : ∀ w ∈ u_ws RX0 TX0 16, w ∈ wsX8_preempt := fun _ h => List.mem_cons_of_mem _ (List.mem_append_left _ (List.mem_append_left _ (List.mem_append_right _ h)))
theorem hdX2_turn : yX2_turn.cls = RX2 ∧ yX2_turn.cls ≠ "java/lang/invoke/MethodHandle" ∧ yX2_turn.cls ≠ "java/lang/invoke/VarHandle" ∧ (parseMethodDescriptor yX2_turn.desc).map (fun d => d.parameters.length) = some 2 := by decide +kernel
set_option maxRecDepth 100000 in
set_option maxHeartbeats 4000000 in
theorem k_X8_preempt {l : Launch} {D : va_G} {ad : Nat → Nat} {aI aZ aF : ClassId} {p1 : Int32} {p2 : Int32} {p3 : Int32} {K : Mem} {u : Int32 × Mem} (hf : f_X8_preempt p1 p2 p3 K = some u) : cI (EC l D ad aI aZ aF) yX8_preempt wsX8_preempt rmX8_preempt [.ref (ad 0), .int p1, .int p2, .int p3] K u.1 u.2 := by
  rw [f_X8_preempt] at hf
  refine j_entI (cc := cX8_preempt) (maxL := 5) (EC_ok l D ad aI aZ aF) (Or.inr rfl) (by decide) rfl (Nat.le_of_ble_eq_true rfl) (fun G C ret => ?_)
  refine j_sub [0, 1, 2, 3] (lv2 := [(0, .ref (ad 0)), (1, .int p1), (2, .int p2), (3, .int p3)]) rfl ?_
  refine j_aload_n C 0 dX8_preempt_0 rfl rfl ?_
  refine j_iload_n C 1 dX8_preempt_1 rfl rfl ?_
  obtain ⟨u1, h2, hf⟩ := bd hf
  refine j_cVQ C [.int p1] gX8_preempt_X8_controllerOf rfl hdX8_controllerOf ⟨⟨rfl, rfl⟩, Nat.le_of_ble_eq_true rfl, Nat.le_of_ble_eq_true rfl⟩ rfl g_0 rfl (k_X8_controllerOf h2) dX8_preempt_2 rfl (Nat.le_of_ble_eq_true rfl) ?_
  cases u1 with
  | none =>
    have hf := oc_n hf
    refine j_astoreN C [(4, .null), (0, .ref (ad 0)), (1, .int p1), (2, .int p2), (3, .int p3)] dX8_preempt_5 (by decide) rfl ?_
    refine j_aloadN C 0 dX8_preempt_7 rfl ?_
    refine j_ifnullN C 19 dX8_preempt_9 (by decide) ?_
    refine j_iconst C (v := 0) dX8_preempt_19 (by decide) ?_
    cases hf
    exact ret _ _ dX8_preempt_20 (fun _ => rfl)
  | some b3 =>
    have hk4 := q_X8_controllerOf h2
    have hf := oc_s hf
    refine j_astore C [(4, .ref (ad b3)), (0, .ref (ad 0)), (1, .int p1), (2, .int p2), (3, .int p3)] dX8_preempt_5 (by decide) rfl ?_
    refine j_aload C 0 dX8_preempt_7 rfl ?_
    refine j_ifnull C dX8_preempt_9 ?_
    refine j_iload_n C 3 dX8_preempt_12 rfl rfl ?_
    obtain ⟨u5, h6, hf⟩ := bd hf
    refine j_cSI C [.int p2] gX8_preempt_X8_isInput rfl hdX8_isInput.2 ⟨⟨rfl, rfl⟩, Nat.le_of_ble_eq_true rfl, Nat.le_of_ble_eq_true rfl⟩ rfl (k_X8_isInput h6) dX8_preempt_13 rfl (Nat.le_of_ble_eq_true rfl) ?_
    refine j_if_ne C 21 dX8_preempt_16 (by decide) hf (fun hf => ?_) (fun hf => ?_)
    · refine j_iconst C (v := 0) dX8_preempt_19 (by decide) ?_
      cases hf
      exact ret _ _ dX8_preempt_20 (fun _ => rfl)
    · refine j_aload C 0 dX8_preempt_21 rfl ?_
      refine j_getN C 4 iX8_preempt_X0 (g_C hk4) rfl (by decide) nf_RX8_92 rfl rfl dX8_preempt_23 ?_
      refine j_iload_n C 3 dX8_preempt_26 rfl rfl ?_
      refine j_iload_n C 4 dX8_preempt_27 rfl rfl ?_
      obtain ⟨u7, h8, hf⟩ := bd hf
      refine j_cVV C [.int p2, .int p3] gX8_preempt_X2_turn rfl hdX2_turn ⟨⟨rfl, rfl⟩, Nat.le_of_ble_eq_true rfl, Nat.le_of_ble_eq_true rfl⟩ rfl (g_N (isC_N hk4)) rfl (k_X2_turn (isC_N hk4) h8) dX8_preempt_28 rfl (Nat.le_of_ble_eq_true rfl) ?_
      refine j_iconst C (v := 1) dX8_preempt_31 (by decide) ?_
      cases hf
      exact ret _ _ dX8_preempt_32 (fun _ => rfl)
/-- BarrierLights.plan(IIII)Z -/
def f_X8_plan (p1 : Int32) (p2 : Int32) (p3 : Int32) (p4 : Int32) (K : Mem) : Option (Int32 × Mem) := (f_X5_make p1 p2 p3 p4 K).bind fun u1 => if u1.1 = 0 then (some (0, u1.2)) else ((f_X3_fitTo (5 + 8) p1 p2 u1.2).bind fun u3 => (f_X3_fitTo (24 + 8) p1 p2 u3).bind fun u5 => some (1, u5))
abbrev rmX8_plan : Room := { frames := 3, cells := 0, slots := 0, locals := 65 }
theorem iX8_plan_X8 : ∀ w ∈ u_ws RX8 TX8 4, w ∈ wsX8_plan := fun _ h => List.mem_cons_of_mem _ (List.mem_append_left _ (List.mem_append_left _ (List.mem_append_left _ (List.mem_append_right _ h))))
theorem mX8_plan_f10 : Cond.fieldLink RX8 10 "BarrierLights" "plans" "LBarrierLights$Plans;" ∈ wsX8_plan := by decide +kernel
theorem hdX5_make : yX5_make.cls = RX5 ∧ yX5_make.cls ≠ "java/lang/invoke/MethodHandle" ∧ yX5_make.cls ≠ "java/lang/invoke/VarHandle" ∧ (parseMethodDescriptor yX5_make.desc).map (fun d => d.parameters.length) = some 4 := by decide +kernel
theorem mX8_plan_f19 : Cond.fieldLink RX8 19 "BarrierLights" "controller0" "LBarrierLights$Controller;" ∈ wsX8_plan := by decide +kernel
theorem iX8_plan_X0 : ∀ w ∈ u_ws RX0 TX0 16, w ∈ wsX8_plan := fun _ h => List.mem_cons_of_mem _ (List.mem_append_left _ (List.mem_append_left _ (List.mem_append_right _ h)))
theorem hdX3_fitTo : yX3_fitTo.cls = RX3 ∧ yX3_fitTo.cls ≠ "java/lang/invoke/MethodHandle" ∧ yX3_fitTo.cls ≠ "java/lang/invoke/VarHandle" ∧ (parseMethodDescriptor yX3_fitTo.desc).map (fun d => d.parameters.length) = some 2 := by decide +kernel
theorem mX8_plan_f23 : Cond.fieldLink RX8 23 "BarrierLights" "controller1" "LBarrierLights$Controller;" ∈ wsX8_plan := by decide +kernel
set_option maxRecDepth 100000 in
set_option maxHeartbeats 4000000 in
theorem k_X8_plan {l : Launch} {D : va_G} {ad : Nat → Nat} {aI aZ aF : ClassId} {p1 : Int32} {p2 : Int32} {p3 : Int32} {p4 : Int32} {K : Mem} {u : Int32 × Mem} (hf : f_X8_plan p1 p2 p3 p4 K = some u) : cI (EC l D ad aI aZ aF) yX8_plan wsX8_plan rmX8_plan [.ref (ad 0), .int p1, .int p2, .int p3, .int p4] K u.1 u.2 := by
  rw [f_X8_plan] at hf
  refine j_entI (cc := cX8_plan) (maxL := 5) (EC_ok l D ad aI aZ aF) (Or.inr rfl) (by decide) rfl (Nat.le_of_ble_eq_true rfl) (fun G C ret => ?_)
  refine j_sub [0, 1, 2, 3, 4] (lv2 := [(0, .ref (ad 0)), (1, .int p1), (2, .int p2), (3, .int p3), (4, .int p4)]) rfl ?_
  refine j_aload_n C 0 dX8_plan_0 rfl rfl ?_
  refine j_get C 0 iX8_plan_X8 g_0 rfl (by decide) mX8_plan_f10 rfl rfl dX8_plan_1 ?_
  refine j_iload_n C 1 dX8_plan_4 rfl rfl ?_
  refine j_iload_n C 2 dX8_plan_5 rfl rfl ?_
  refine j_iload_n C 3 dX8_plan_6 rfl rfl ?_
  refine j_iload C 4 dX8_plan_7 rfl ?_
  obtain ⟨u1, h2, hf⟩ := bd hf
  refine j_cVI C [.int p1, .int p2, .int p3, .int p4] gX8_plan_X5_make rfl hdX5_make ⟨⟨rfl, rfl⟩, Nat.le_of_ble_eq_true rfl, Nat.le_of_ble_eq_true rfl⟩ rfl g_1 rfl (k_X5_make h2) dX8_plan_9 rfl (Nat.le_of_ble_eq_true rfl) ?_
  refine j_if_ne C 17 dX8_plan_12 (by decide) hf (fun hf => ?_) (fun hf => ?_)
  · refine j_iconst C (v := 0) dX8_plan_15 (by decide) ?_
    cases hf
    exact ret _ _ dX8_plan_16 (fun _ => rfl)
  · refine j_aload_n C 0 dX8_plan_17 rfl rfl ?_
    refine j_get C 1 iX8_plan_X8 g_0 rfl (by decide) mX8_plan_f19 rfl rfl dX8_plan_18 ?_
    refine j_getN C 3 iX8_plan_X0 (g_C isC_5) rfl (by decide) nf_RX8_107 rfl rfl dX8_plan_21 ?_
    refine j_iload_n C 1 dX8_plan_24 rfl rfl ?_
    refine j_iload_n C 2 dX8_plan_25 rfl rfl ?_
    obtain ⟨u3, h4, hf⟩ := bd hf
    refine j_cVV C [.int p1, .int p2] gX8_plan_X3_fitTo rfl hdX3_fitTo ⟨⟨rfl, rfl⟩, Nat.le_of_ble_eq_true rfl, Nat.le_of_ble_eq_true rfl⟩ rfl (g_L (isC_L isC_5)) rfl (k_X3_fitTo (isC_L isC_5) h4) dX8_plan_26 rfl (Nat.le_of_ble_eq_true rfl) ?_
    refine j_aload_n C 0 dX8_plan_29 rfl rfl ?_
    refine j_get C 2 iX8_plan_X8 g_0 rfl (by decide) mX8_plan_f23 rfl rfl dX8_plan_30 ?_
    refine j_getN C 3 iX8_plan_X0 (g_C isC_24) rfl (by decide) nf_RX8_107 rfl rfl dX8_plan_33 ?_
    refine j_iload_n C 1 dX8_plan_36 rfl rfl ?_
    refine j_iload_n C 2 dX8_plan_37 rfl rfl ?_
    obtain ⟨u5, h6, hf⟩ := bd hf
    refine j_cVV C [.int p1, .int p2] gX8_plan_X3_fitTo rfl hdX3_fitTo ⟨⟨rfl, rfl⟩, Nat.le_of_ble_eq_true rfl, Nat.le_of_ble_eq_true rfl⟩ rfl (g_L (isC_L isC_24)) rfl (k_X3_fitTo (isC_L isC_24) h6) dX8_plan_38 rfl (Nat.le_of_ble_eq_true rfl) ?_
    refine j_iconst C (v := 1) dX8_plan_41 (by decide) ?_
    cases hf
    exact ret _ _ dX8_plan_42 (fun _ => rfl)
/-- BarrierLights.message(III)Z -/
def f_X8_message (p1 : Int32) (p2 : Int32) (p3 : Int32) (K : Mem) : Option (Int32 × Mem) := (f_X8_controllerOf p1 K).bind fun u1 => oc u1 (some (0, K)) (fun b3 => (f_X5_isMade p3 K).bind fun u5 => if u5 = 0 then (some (0, K)) else ((f_X3_expects (b3 + 8) p2 K).bind fun u7 => if u7 = 0 then (some (0, K)) else ((f_X5_cycleOf p3 K).bind fun u9 => (f_X3_take (b3 + 8) p2 p3 u9 K).bind fun u11 => some (1, u11))))
abbrev rmX8_message : Room := { frames := 3, cells := 0, slots := 0, locals := 66 }
theorem iX8_message_X8 : ∀ w ∈ u_ws RX8 TX8 4, w ∈ wsX8_message := fun _ h => List.mem_cons_of_mem _ (List.mem_append_left _ (List.mem_append_left _ (List.mem_append_left _ (List.mem_append_right _ h))))
theorem mX8_message_f10 : Cond.fieldLink RX8 10 "BarrierLights" "plans" "LBarrierLights$Plans;" ∈ wsX8_message := by decide +kernel
theorem iX8_message_X0 : ∀ w ∈ u_ws RX0 TX0 16, w ∈ wsX8_message := fun _ h => List.mem_cons_of_mem _ (List.mem_append_left _ (List.mem_append_left _ (List.mem_append_right _ h)))
theorem hdX3_expects : yX3_expects.cls = RX3 ∧ yX3_expects.cls ≠ "java/lang/invoke/MethodHandle" ∧ yX3_expects.cls ≠ "java/lang/invoke/VarHandle" ∧ (parseMethodDescriptor yX3_expects.desc).map (fun d => d.parameters.length) = some 1 := by decide +kernel
theorem hdX3_take : yX3_take.cls = RX3 ∧ yX3_take.cls ≠ "java/lang/invoke/MethodHandle" ∧ yX3_take.cls ≠ "java/lang/invoke/VarHandle" ∧ (parseMethodDescriptor yX3_take.desc).map (fun d => d.parameters.length) = some 3 := by decide +kernel
set_option maxRecDepth 100000 in
set_option maxHeartbeats 4000000 in
theorem k_X8_message {l : Launch} {D : va_G} {ad : Nat → Nat} {aI aZ aF : ClassId} {p1 : Int32} {p2 : Int32} {p3 : Int32} {K : Mem} {u : Int32 × Mem} (hf : f_X8_message p1 p2 p3 K = some u) : cI (EC l D ad aI aZ aF) yX8_message wsX8_message rmX8_message [.ref (ad 0), .int p1, .int p2, .int p3] K u.1 u.2 := by
  rw [f_X8_message] at hf
  refine j_entI (cc := cX8_message) (maxL := 5) (EC_ok l D ad aI aZ aF) (Or.inr rfl) (by decide) rfl (Nat.le_of_ble_eq_true rfl) (fun G C ret => ?_)
  refine j_sub [0, 1, 2, 3] (lv2 := [(0, .ref (ad 0)), (1, .int p1), (2, .int p2), (3, .int p3)]) rfl ?_
  refine j_aload_n C 0 dX8_message_0 rfl rfl ?_
  refine j_iload_n C 1 dX8_message_1 rfl rfl ?_
  obtain ⟨u1, h2, hf⟩ := bd hf
  refine j_cVQ C [.int p1] gX8_message_X8_controllerOf rfl hdX8_controllerOf ⟨⟨rfl, rfl⟩, Nat.le_of_ble_eq_true rfl, Nat.le_of_ble_eq_true rfl⟩ rfl g_0 rfl (k_X8_controllerOf h2) dX8_message_2 rfl (Nat.le_of_ble_eq_true rfl) ?_
  cases u1 with
  | none =>
    have hf := oc_n hf
    refine j_astoreN C [(4, .null), (0, .ref (ad 0)), (1, .int p1), (2, .int p2), (3, .int p3)] dX8_message_5 (by decide) rfl ?_
    refine j_aloadN C 0 dX8_message_7 rfl ?_
    refine j_ifnullN C 35 dX8_message_9 (by decide) ?_
    refine j_iconst C (v := 0) dX8_message_35 (by decide) ?_
    cases hf
    exact ret _ _ dX8_message_36 (fun _ => rfl)
  | some b3 =>
    have hk4 := q_X8_controllerOf h2
    have hf := oc_s hf
    refine j_astore C [(4, .ref (ad b3)), (0, .ref (ad 0)), (1, .int p1), (2, .int p2), (3, .int p3)] dX8_message_5 (by decide) rfl ?_
    refine j_aload C 0 dX8_message_7 rfl ?_
    refine j_ifnull C dX8_message_9 ?_
    refine j_aload_n C 1 dX8_message_12 rfl rfl ?_
    refine j_get C 0 iX8_message_X8 g_0 rfl (by decide) mX8_message_f10 rfl rfl dX8_message_13 ?_
    refine j_iload_n C 4 dX8_message_16 rfl rfl ?_
    obtain ⟨u5, h6, hf⟩ := bd hf
    refine j_cVI C [.int p3] gX8_message_X5_isMade rfl hdX5_isMade ⟨⟨rfl, rfl⟩, Nat.le_of_ble_eq_true rfl, Nat.le_of_ble_eq_true rfl⟩ rfl g_1 rfl (k_X5_isMade h6) dX8_message_17 rfl (Nat.le_of_ble_eq_true rfl) ?_
    refine j_if_eq C 35 dX8_message_20 (by decide) hf (fun hf => ?_) (fun hf => ?_)
    · refine j_iconst C (v := 0) dX8_message_35 (by decide) ?_
      cases hf
      exact ret _ _ dX8_message_36 (fun _ => rfl)
    · refine j_aload C 0 dX8_message_23 rfl ?_
      refine j_getN C 3 iX8_message_X0 (g_C hk4) rfl (by decide) nf_RX8_107 rfl rfl dX8_message_25 ?_
      refine j_iload_n C 3 dX8_message_28 rfl rfl ?_
      obtain ⟨u7, h8, hf⟩ := bd hf
      refine j_cVI C [.int p2] gX8_message_X3_expects rfl hdX3_expects ⟨⟨rfl, rfl⟩, Nat.le_of_ble_eq_true rfl, Nat.le_of_ble_eq_true rfl⟩ rfl (g_L (isC_L hk4)) rfl (k_X3_expects (isC_L hk4) h8) dX8_message_29 rfl (Nat.le_of_ble_eq_true rfl) ?_
      refine j_if_ne C 37 dX8_message_32 (by decide) hf (fun hf => ?_) (fun hf => ?_)
      · refine j_iconst C (v := 0) dX8_message_35 (by decide) ?_
        cases hf
        exact ret _ _ dX8_message_36 (fun _ => rfl)
      · refine j_aload C 0 dX8_message_37 rfl ?_
        refine j_getN C 3 iX8_message_X0 (g_C hk4) rfl (by decide) nf_RX8_107 rfl rfl dX8_message_39 ?_
        refine j_iload_n C 3 dX8_message_42 rfl rfl ?_
        refine j_iload_n C 4 dX8_message_43 rfl rfl ?_
        refine j_aload_n C 1 dX8_message_44 rfl rfl ?_
        refine j_get C 0 iX8_message_X8 g_0 rfl (by decide) mX8_message_f10 rfl rfl dX8_message_45 ?_
        refine j_iload_n C 4 dX8_message_48 rfl rfl ?_
        obtain ⟨u9, h10, hf⟩ := bd hf
        refine j_cVI C [.int p3] gX8_message_X5_cycleOf rfl hdX5_cycleOf ⟨⟨rfl, rfl⟩, Nat.le_of_ble_eq_true rfl, Nat.le_of_ble_eq_true rfl⟩ rfl g_1 rfl (k_X5_cycleOf h10) dX8_message_49 rfl (Nat.le_of_ble_eq_true rfl) ?_
        obtain ⟨u11, h12, hf⟩ := bd hf
        refine j_cVV C [.int p2, .int p3, .int u9] gX8_message_X3_take rfl hdX3_take ⟨⟨rfl, rfl⟩, Nat.le_of_ble_eq_true rfl, Nat.le_of_ble_eq_true rfl⟩ rfl (g_L (isC_L hk4)) rfl (k_X3_take (isC_L hk4) h12) dX8_message_52 rfl (Nat.le_of_ble_eq_true rfl) ?_
        refine j_iconst C (v := 1) dX8_message_55 (by decide) ?_
        cases hf
        exact ret _ _ dX8_message_56 (fun _ => rfl)
/-- BarrierLights.fault(III)Z -/
def f_X8_fault (p1 : Int32) (p2 : Int32) (p3 : Int32) (K : Mem) : Option (Int32 × Mem) := (f_X8_controllerOf p1 K).bind fun u1 => oc u1 (some (0, K)) (fun b3 => (f_X8_isPhase p2 K).bind fun u5 => if u5 = 0 then (some (0, K)) else (if p3 < 0 then (some (0, K)) else (if p3 ≤ 3 then (if inb p2 8 = true then (st K (b3 + 18) (ix p2) p3 fun K7 => some (1, K7)) else none) else (some (0, K)))))
abbrev rmX8_fault : Room := { frames := 1, cells := 0, slots := 0, locals := 21 }
theorem iX8_fault_X0 : ∀ w ∈ u_ws RX0 TX0 16, w ∈ wsX8_fault := fun _ h => List.mem_cons_of_mem _ (List.mem_append_left _ (List.mem_append_right _ h))
set_option maxRecDepth 100000 in
set_option maxHeartbeats 4000000 in
theorem k_X8_fault {l : Launch} {D : va_G} {ad : Nat → Nat} {aI aZ aF : ClassId} {p1 : Int32} {p2 : Int32} {p3 : Int32} {K : Mem} {u : Int32 × Mem} (hf : f_X8_fault p1 p2 p3 K = some u) : cI (EC l D ad aI aZ aF) yX8_fault wsX8_fault rmX8_fault [.ref (ad 0), .int p1, .int p2, .int p3] K u.1 u.2 := by
  rw [f_X8_fault] at hf
  refine j_entI (cc := cX8_fault) (maxL := 5) (EC_ok l D ad aI aZ aF) (Or.inr rfl) (by decide) rfl (Nat.le_of_ble_eq_true rfl) (fun G C ret => ?_)
  refine j_sub [0, 1, 2, 3] (lv2 := [(0, .ref (ad 0)), (1, .int p1), (2, .int p2), (3, .int p3)]) rfl ?_
  refine j_aload_n C 0 dX8_fault_0 rfl rfl ?_
  refine j_iload_n C 1 dX8_fault_1 rfl rfl ?_
  obtain ⟨u1, h2, hf⟩ := bd hf
  refine j_cVQ C [.int p1] gX8_fault_X8_controllerOf rfl hdX8_controllerOf ⟨⟨rfl, rfl⟩, Nat.le_of_ble_eq_true rfl, Nat.le_of_ble_eq_true rfl⟩ rfl g_0 rfl (k_X8_controllerOf h2) dX8_fault_2 rfl (Nat.le_of_ble_eq_true rfl) ?_
  cases u1 with
  | none =>
    have hf := oc_n hf
    refine j_astoreN C [(4, .null), (0, .ref (ad 0)), (1, .int p1), (2, .int p2), (3, .int p3)] dX8_fault_5 (by decide) rfl ?_
    refine j_aloadN C 0 dX8_fault_7 rfl ?_
    refine j_ifnullN C 28 dX8_fault_9 (by decide) ?_
    refine j_iconst C (v := 0) dX8_fault_28 (by decide) ?_
    cases hf
    exact ret _ _ dX8_fault_29 (fun _ => rfl)
  | some b3 =>
    have hk4 := q_X8_controllerOf h2
    have hf := oc_s hf
    refine j_astore C [(4, .ref (ad b3)), (0, .ref (ad 0)), (1, .int p1), (2, .int p2), (3, .int p3)] dX8_fault_5 (by decide) rfl ?_
    refine j_aload C 0 dX8_fault_7 rfl ?_
    refine j_ifnull C dX8_fault_9 ?_
    refine j_iload_n C 3 dX8_fault_12 rfl rfl ?_
    obtain ⟨u5, h6, hf⟩ := bd hf
    refine j_cSI C [.int p2] gX8_fault_X8_isPhase rfl hdX8_isPhase.2 ⟨⟨rfl, rfl⟩, Nat.le_of_ble_eq_true rfl, Nat.le_of_ble_eq_true rfl⟩ rfl (k_X8_isPhase h6) dX8_fault_13 rfl (Nat.le_of_ble_eq_true rfl) ?_
    refine j_if_eq C 28 dX8_fault_16 (by decide) hf (fun hf => ?_) (fun hf => ?_)
    · refine j_iconst C (v := 0) dX8_fault_28 (by decide) ?_
      cases hf
      exact ret _ _ dX8_fault_29 (fun _ => rfl)
    · refine j_iload_n C 4 dX8_fault_19 rfl rfl ?_
      refine j_if_lt C 28 dX8_fault_20 (by decide) hf (fun hf => ?_) (fun hf => ?_)
      · refine j_iconst C (v := 0) dX8_fault_28 (by decide) ?_
        cases hf
        exact ret _ _ dX8_fault_29 (fun _ => rfl)
      · refine j_iload_n C 4 dX8_fault_23 rfl rfl ?_
        refine j_iconst C (v := 3) dX8_fault_24 (by decide) ?_
        refine j_icmp_le C 30 dX8_fault_25 (by decide) hf (fun hf => ?_) (fun hf => ?_)
        · refine j_aload C 0 dX8_fault_30 rfl ?_
          refine j_getN C 8 iX8_fault_X0 (g_C hk4) rfl (by decide) nf_RX8_128 rfl rfl dX8_fault_32 ?_
          refine j_iload_n C 3 dX8_fault_35 rfl rfl ?_
          refine j_iload_n C 4 dX8_fault_36 rfl rfl ?_
          refine j_iast C 0 (g_Cf hk4) (s_Cf hk4 _ _) rfl dX8_fault_37 hf (fun K7 hf => ?_)
          refine j_iconst C (v := 1) dX8_fault_38 (by decide) ?_
          cases hf
          exact ret _ _ dX8_fault_39 (fun _ => rfl)
        · refine j_iconst C (v := 0) dX8_fault_28 (by decide) ?_
          cases hf
          exact ret _ _ dX8_fault_29 (fun _ => rfl)
/-- BarrierLights.reset(I)Z -/
def f_X8_reset (p1 : Int32) (K : Mem) : Option (Int32 × Mem) := (f_X8_controllerOf p1 K).bind fun u1 => oc u1 (some (0, K)) (fun b3 => if (K b3 11) = 0 then (some (0, K)) else ((f_X0_start b3 K).bind fun u5 => some (1, u5)))
abbrev rmX8_reset : Room := { frames := 2, cells := 0, slots := 0, locals := 41 }
theorem iX8_reset_X0 : ∀ w ∈ u_ws RX0 TX0 16, w ∈ wsX8_reset := fun _ h => List.mem_cons_of_mem _ (List.mem_append_left _ (List.mem_append_left _ (List.mem_append_left _ (List.mem_append_right _ h))))
set_option maxRecDepth 100000 in
set_option maxHeartbeats 4000000 in
theorem k_X8_reset {l : Launch} {D : va_G} {ad : Nat → Nat} {aI aZ aF : ClassId} {p1 : Int32} {K : Mem} {u : Int32 × Mem} (hf : f_X8_reset p1 K = some u) : cI (EC l D ad aI aZ aF) yX8_reset wsX8_reset rmX8_reset [.ref (ad 0), .int p1] K u.1 u.2 := by
  rw [f_X8_reset] at hf
  refine j_entI (cc := cX8_reset) (maxL := 3) (EC_ok l D ad aI aZ aF) (Or.inr rfl) (by decide) rfl (Nat.le_of_ble_eq_true rfl) (fun G C ret => ?_)
  refine j_sub [0, 1] (lv2 := [(0, .ref (ad 0)), (1, .int p1)]) rfl ?_
  refine j_aload_n C 0 dX8_reset_0 rfl rfl ?_
  refine j_iload_n C 1 dX8_reset_1 rfl rfl ?_
  obtain ⟨u1, h2, hf⟩ := bd hf
  refine j_cVQ C [.int p1] gX8_reset_X8_controllerOf rfl hdX8_controllerOf ⟨⟨rfl, rfl⟩, Nat.le_of_ble_eq_true rfl, Nat.le_of_ble_eq_true rfl⟩ rfl g_0 rfl (k_X8_controllerOf h2) dX8_reset_2 rfl (Nat.le_of_ble_eq_true rfl) ?_
  cases u1 with
  | none =>
    have hf := oc_n hf
    refine j_astore_nN C [(2, .null), (0, .ref (ad 0)), (1, .int p1)] dX8_reset_5 rfl (by decide) rfl ?_
    refine j_aload_nN C 0 dX8_reset_6 rfl rfl ?_
    refine j_ifnullN C 17 dX8_reset_7 (by decide) ?_
    refine j_iconst C (v := 0) dX8_reset_17 (by decide) ?_
    cases hf
    exact ret _ _ dX8_reset_18 (fun _ => rfl)
  | some b3 =>
    have hk4 := q_X8_controllerOf h2
    have hf := oc_s hf
    refine j_astore_n C [(2, .ref (ad b3)), (0, .ref (ad 0)), (1, .int p1)] dX8_reset_5 rfl (by decide) rfl ?_
    refine j_aload_n C 0 dX8_reset_6 rfl rfl ?_
    refine j_ifnull C dX8_reset_7 ?_
    refine j_aload_n C 0 dX8_reset_10 rfl rfl ?_
    refine j_getN C 11 iX8_reset_X0 (g_C hk4) rfl (by decide) nf_RX8_132 rfl rfl dX8_reset_11 ?_
    refine j_if_ne C 19 dX8_reset_14 (by decide) hf (fun hf => ?_) (fun hf => ?_)
    · refine j_iconst C (v := 0) dX8_reset_17 (by decide) ?_
      cases hf
      exact ret _ _ dX8_reset_18 (fun _ => rfl)
    · refine j_aload_n C 0 dX8_reset_19 rfl rfl ?_
      obtain ⟨u5, h6, hf⟩ := bd hf
      refine j_cVV C [] gX8_reset_X0_start rfl hdX0_start ⟨⟨rfl, rfl⟩, Nat.le_of_ble_eq_true rfl, Nat.le_of_ble_eq_true rfl⟩ rfl (g_C hk4) rfl (k_X0_start hk4 h6) dX8_reset_20 rfl (Nat.le_of_ble_eq_true rfl) ?_
      refine j_iconst C (v := 1) dX8_reset_23 (by decide) ?_
      cases hf
      exact ret _ _ dX8_reset_24 (fun _ => rfl)
/-- BarrierLights.lamp(II)I -/
def f_X8_lamp (p1 : Int32) (p2 : Int32) (K : Mem) : Option (Int32) := (f_X8_controllerOf p1 K).bind fun u1 => oc u1 (some (-1)) (fun b3 => (f_X8_isPhase p2 K).bind fun u5 => if u5 = 0 then (some (-1)) else ((f_X0_lampsOf b3 p2 K).bind fun u7 => some u7))
abbrev rmX8_lamp : Room := { frames := 2, cells := 0, slots := 0, locals := 44 }
set_option maxRecDepth 100000 in
set_option maxHeartbeats 4000000 in
theorem k_X8_lamp {l : Launch} {D : va_G} {ad : Nat → Nat} {aI aZ aF : ClassId} {p1 : Int32} {p2 : Int32} {K : Mem} {u : Int32} (hf : f_X8_lamp p1 p2 K = some u) : cI (EC l D ad aI aZ aF) yX8_lamp wsX8_lamp rmX8_lamp [.ref (ad 0), .int p1, .int p2] K u K := by
  rw [f_X8_lamp] at hf
  refine j_entI (cc := cX8_lamp) (maxL := 4) (EC_ok l D ad aI aZ aF) (Or.inl rfl) (by decide) rfl (Nat.le_of_ble_eq_true rfl) (fun G C ret => ?_)
  refine j_sub [0, 1, 2] (lv2 := [(0, .ref (ad 0)), (1, .int p1), (2, .int p2)]) rfl ?_
  refine j_aload_n C 0 dX8_lamp_0 rfl rfl ?_
  refine j_iload_n C 1 dX8_lamp_1 rfl rfl ?_
  obtain ⟨u1, h2, hf⟩ := bd hf
  refine j_cVQ C [.int p1] gX8_lamp_X8_controllerOf rfl hdX8_controllerOf ⟨⟨rfl, rfl⟩, Nat.le_of_ble_eq_true rfl, Nat.le_of_ble_eq_true rfl⟩ rfl g_0 rfl (k_X8_controllerOf h2) dX8_lamp_2 rfl (Nat.le_of_ble_eq_true rfl) ?_
  cases u1 with
  | none =>
    have hf := oc_n hf
    refine j_astore_nN C [(3, .null), (0, .ref (ad 0)), (1, .int p1), (2, .int p2)] dX8_lamp_5 rfl (by decide) rfl ?_
    refine j_aload_nN C 0 dX8_lamp_6 rfl rfl ?_
    refine j_ifnullN C 17 dX8_lamp_7 (by decide) ?_
    refine j_iconst C (v := (-1)) dX8_lamp_17 (by decide) ?_
    refine j_goto C 26 dX8_lamp_18 (by decide) ?_
    cases hf
    exact ret _ _ dX8_lamp_26 (fun h => by cases h)
  | some b3 =>
    have hk4 := q_X8_controllerOf h2
    have hf := oc_s hf
    refine j_astore_n C [(3, .ref (ad b3)), (0, .ref (ad 0)), (1, .int p1), (2, .int p2)] dX8_lamp_5 rfl (by decide) rfl ?_
    refine j_aload_n C 0 dX8_lamp_6 rfl rfl ?_
    refine j_ifnull C dX8_lamp_7 ?_
    refine j_iload_n C 3 dX8_lamp_10 rfl rfl ?_
    obtain ⟨u5, h6, hf⟩ := bd hf
    refine j_cSI C [.int p2] gX8_lamp_X8_isPhase rfl hdX8_isPhase.2 ⟨⟨rfl, rfl⟩, Nat.le_of_ble_eq_true rfl, Nat.le_of_ble_eq_true rfl⟩ rfl (k_X8_isPhase h6) dX8_lamp_11 rfl (Nat.le_of_ble_eq_true rfl) ?_
    refine j_if_ne C 21 dX8_lamp_14 (by decide) hf (fun hf => ?_) (fun hf => ?_)
    · refine j_iconst C (v := (-1)) dX8_lamp_17 (by decide) ?_
      refine j_goto C 26 dX8_lamp_18 (by decide) ?_
      cases hf
      exact ret _ _ dX8_lamp_26 (fun h => by cases h)
    · refine j_aload_n C 0 dX8_lamp_21 rfl rfl ?_
      refine j_iload_n C 3 dX8_lamp_22 rfl rfl ?_
      obtain ⟨u7, h8, hf⟩ := bd hf
      refine j_cVI C [.int p2] gX8_lamp_X0_lampsOf rfl hdX0_lampsOf ⟨⟨rfl, rfl⟩, Nat.le_of_ble_eq_true rfl, Nat.le_of_ble_eq_true rfl⟩ rfl (g_C hk4) rfl (k_X0_lampsOf hk4 h8) dX8_lamp_23 rfl (Nat.le_of_ble_eq_true rfl) ?_
      cases hf
      exact ret _ _ dX8_lamp_26 (fun h => by cases h)
/-- BarrierLights.signs(II)I -/
def f_X8_signs (p1 : Int32) (p2 : Int32) (K : Mem) : Option (Int32) := (f_X8_controllerOf p1 K).bind fun u1 => oc u1 (some (-1)) (fun b3 => (f_X8_isPhase p2 K).bind fun u5 => if u5 = 0 then (some (-1)) else ((f_X0_signsOf b3 p2 K).bind fun u7 => some u7))
abbrev rmX8_signs : Room := { frames := 2, cells := 0, slots := 0, locals := 44 }
theorem hdX0_signsOf : yX0_signsOf.cls = RX0 ∧ yX0_signsOf.cls ≠ "java/lang/invoke/MethodHandle" ∧ yX0_signsOf.cls ≠ "java/lang/invoke/VarHandle" ∧ (parseMethodDescriptor yX0_signsOf.desc).map (fun d => d.parameters.length) = some 1 := by decide +kernel
set_option maxRecDepth 100000 in
set_option maxHeartbeats 4000000 in
theorem k_X8_signs {l : Launch} {D : va_G} {ad : Nat → Nat} {aI aZ aF : ClassId} {p1 : Int32} {p2 : Int32} {K : Mem} {u : Int32} (hf : f_X8_signs p1 p2 K = some u) : cI (EC l D ad aI aZ aF) yX8_signs wsX8_signs rmX8_signs [.ref (ad 0), .int p1, .int p2] K u K := by
  rw [f_X8_signs] at hf
  refine j_entI (cc := cX8_signs) (maxL := 4) (EC_ok l D ad aI aZ aF) (Or.inl rfl) (by decide) rfl (Nat.le_of_ble_eq_true rfl) (fun G C ret => ?_)
  refine j_sub [0, 1, 2] (lv2 := [(0, .ref (ad 0)), (1, .int p1), (2, .int p2)]) rfl ?_
  refine j_aload_n C 0 dX8_signs_0 rfl rfl ?_
  refine j_iload_n C 1 dX8_signs_1 rfl rfl ?_
  obtain ⟨u1, h2, hf⟩ := bd hf
  refine j_cVQ C [.int p1] gX8_signs_X8_controllerOf rfl hdX8_controllerOf ⟨⟨rfl, rfl⟩, Nat.le_of_ble_eq_true rfl, Nat.le_of_ble_eq_true rfl⟩ rfl g_0 rfl (k_X8_controllerOf h2) dX8_signs_2 rfl (Nat.le_of_ble_eq_true rfl) ?_
  cases u1 with
  | none =>
    have hf := oc_n hf
    refine j_astore_nN C [(3, .null), (0, .ref (ad 0)), (1, .int p1), (2, .int p2)] dX8_signs_5 rfl (by decide) rfl ?_
    refine j_aload_nN C 0 dX8_signs_6 rfl rfl ?_
    refine j_ifnullN C 17 dX8_signs_7 (by decide) ?_
    refine j_iconst C (v := (-1)) dX8_signs_17 (by decide) ?_
    refine j_goto C 26 dX8_signs_18 (by decide) ?_
    cases hf
    exact ret _ _ dX8_signs_26 (fun h => by cases h)
  | some b3 =>
    have hk4 := q_X8_controllerOf h2
    have hf := oc_s hf
    refine j_astore_n C [(3, .ref (ad b3)), (0, .ref (ad 0)), (1, .int p1), (2, .int p2)] dX8_signs_5 rfl (by decide) rfl ?_
    refine j_aload_n C 0 dX8_signs_6 rfl rfl ?_
    refine j_ifnull C dX8_signs_7 ?_
    refine j_iload_n C 3 dX8_signs_10 rfl rfl ?_
    obtain ⟨u5, h6, hf⟩ := bd hf
    refine j_cSI C [.int p2] gX8_signs_X8_isPhase rfl hdX8_isPhase.2 ⟨⟨rfl, rfl⟩, Nat.le_of_ble_eq_true rfl, Nat.le_of_ble_eq_true rfl⟩ rfl (k_X8_isPhase h6) dX8_signs_11 rfl (Nat.le_of_ble_eq_true rfl) ?_
    refine j_if_ne C 21 dX8_signs_14 (by decide) hf (fun hf => ?_) (fun hf => ?_)
    · refine j_iconst C (v := (-1)) dX8_signs_17 (by decide) ?_
      refine j_goto C 26 dX8_signs_18 (by decide) ?_
      cases hf
      exact ret _ _ dX8_signs_26 (fun h => by cases h)
    · refine j_aload_n C 0 dX8_signs_21 rfl rfl ?_
      refine j_iload_n C 3 dX8_signs_22 rfl rfl ?_
      obtain ⟨u7, h8, hf⟩ := bd hf
      refine j_cVI C [.int p2] gX8_signs_X0_signsOf rfl hdX0_signsOf ⟨⟨rfl, rfl⟩, Nat.le_of_ble_eq_true rfl, Nat.le_of_ble_eq_true rfl⟩ rfl (g_C hk4) rfl (k_X0_signsOf hk4 h8) dX8_signs_23 rfl (Nat.le_of_ble_eq_true rfl) ?_
      cases hf
      exact ret _ _ dX8_signs_26 (fun h => by cases h)
/-- BarrierLights.crossing(II)I -/
def f_X8_crossing (p1 : Int32) (p2 : Int32) (K : Mem) : Option (Int32) := (f_X8_controllerOf p1 K).bind fun u1 => oc u1 (some (-1)) (fun b3 => if p2 = 0 then (some (K b3 12)) else (if p2 = 1 then ((f_X0_way b3 K).bind fun u6 => some u6) else (if p2 = 2 then (some (K b3 11)) else (if p2 = 3 then (some (K (b3 + 8) 0)) else (if p2 = 4 then ((f_X3_shownClock (b3 + 8) K).bind fun u11 => some u11) else (if p2 = 5 then (some (K (b3 + 16) 0)) else (if p2 = 6 then (some (K (b3 + 17) 0)) else (some (-1)))))))))
abbrev rmX8_crossing : Room := { frames := 3, cells := 0, slots := 0, locals := 62 }
theorem iX8_crossing_X0 : ∀ w ∈ u_ws RX0 TX0 16, w ∈ wsX8_crossing := fun _ h => List.mem_cons_of_mem _ (List.mem_append_left _ (List.mem_append_left _ (List.mem_append_left _ (List.mem_append_left _ (List.mem_append_right _ h)))))
theorem hdX0_way : yX0_way.cls = RX0 ∧ yX0_way.cls ≠ "java/lang/invoke/MethodHandle" ∧ yX0_way.cls ≠ "java/lang/invoke/VarHandle" ∧ (parseMethodDescriptor yX0_way.desc).map (fun d => d.parameters.length) = some 0 := by decide +kernel
theorem iX8_crossing_X3 : ∀ w ∈ u_ws RX3 TX3 4, w ∈ wsX8_crossing := fun _ h => List.mem_cons_of_mem _ (List.mem_append_left _ (List.mem_append_left _ (List.mem_append_left _ (List.mem_append_right _ h))))
theorem hdX3_shownClock : yX3_shownClock.cls = RX3 ∧ yX3_shownClock.cls ≠ "java/lang/invoke/MethodHandle" ∧ yX3_shownClock.cls ≠ "java/lang/invoke/VarHandle" ∧ (parseMethodDescriptor yX3_shownClock.desc).map (fun d => d.parameters.length) = some 0 := by decide +kernel
theorem iX8_crossing_X6 : ∀ w ∈ u_ws RX6 TX6 10, w ∈ wsX8_crossing := fun _ h => List.mem_cons_of_mem _ (List.mem_append_left _ (List.mem_append_left _ (List.mem_append_right _ h)))
set_option maxRecDepth 100000 in
set_option maxHeartbeats 4000000 in
theorem k_X8_crossing {l : Launch} {D : va_G} {ad : Nat → Nat} {aI aZ aF : ClassId} {p1 : Int32} {p2 : Int32} {K : Mem} {u : Int32} (hf : f_X8_crossing p1 p2 K = some u) : cI (EC l D ad aI aZ aF) yX8_crossing wsX8_crossing rmX8_crossing [.ref (ad 0), .int p1, .int p2] K u K := by
  rw [f_X8_crossing] at hf
  refine j_entI (cc := cX8_crossing) (maxL := 4) (EC_ok l D ad aI aZ aF) (Or.inl rfl) (by decide) rfl (Nat.le_of_ble_eq_true rfl) (fun G C ret => ?_)
  refine j_sub [0, 1, 2] (lv2 := [(0, .ref (ad 0)), (1, .int p1), (2, .int p2)]) rfl ?_
  refine j_aload_n C 0 dX8_crossing_0 rfl rfl ?_
  refine j_iload_n C 1 dX8_crossing_1 rfl rfl ?_
  obtain ⟨u1, h2, hf⟩ := bd hf
  refine j_cVQ C [.int p1] gX8_crossing_X8_controllerOf rfl hdX8_controllerOf ⟨⟨rfl, rfl⟩, Nat.le_of_ble_eq_true rfl, Nat.le_of_ble_eq_true rfl⟩ rfl g_0 rfl (k_X8_controllerOf h2) dX8_crossing_2 rfl (Nat.le_of_ble_eq_true rfl) ?_
  cases u1 with
  | none =>
    have hf := oc_n hf
    refine j_astore_nN C [(3, .null), (0, .ref (ad 0)), (1, .int p1), (2, .int p2)] dX8_crossing_5 rfl (by decide) rfl ?_
    refine j_aload_nN C 0 dX8_crossing_6 rfl rfl ?_
    refine j_ifnonnullN C dX8_crossing_7 ?_
    refine j_iconst C (v := (-1)) dX8_crossing_10 (by decide) ?_
    cases hf
    exact ret _ _ dX8_crossing_11 (fun h => by cases h)
  | some b3 =>
    have hk4 := q_X8_controllerOf h2
    have hf := oc_s hf
    refine j_astore_n C [(3, .ref (ad b3)), (0, .ref (ad 0)), (1, .int p1), (2, .int p2)] dX8_crossing_5 rfl (by decide) rfl ?_
    refine j_aload_n C 0 dX8_crossing_6 rfl rfl ?_
    refine j_ifnonnull C 12 dX8_crossing_7 (by decide) ?_
    refine j_iload_n C 3 dX8_crossing_12 rfl rfl ?_
    refine j_case hf (fun c5 hf => ?_) (fun c5 hf => ?_)
    · refine j_tabIn C 56 dX8_crossing_13 (by rw [c5]; decide) (by rw [c5]; decide) (by rw [c5]; rfl) (by decide) ?_
      refine j_aload_n C 0 dX8_crossing_56 rfl rfl ?_
      refine j_getN C 12 iX8_crossing_X0 (g_C hk4) rfl (by decide) nf_RX8_150 rfl rfl dX8_crossing_57 ?_
      cases hf
      exact ret _ _ dX8_crossing_60 (fun h => by cases h)
    refine j_case hf (fun c8 hf => ?_) (fun c8 hf => ?_)
    · refine j_tabIn C 61 dX8_crossing_13 (by rw [c8]; decide) (by rw [c8]; decide) (by rw [c8]; rfl) (by decide) ?_
      refine j_aload_n C 0 dX8_crossing_61 rfl rfl ?_
      obtain ⟨u6, h7, hf⟩ := bd hf
      refine j_cVI C [] gX8_crossing_X0_way rfl hdX0_way ⟨⟨rfl, rfl⟩, Nat.le_of_ble_eq_true rfl, Nat.le_of_ble_eq_true rfl⟩ rfl (g_C hk4) rfl (k_X0_way hk4 h7) dX8_crossing_62 rfl (Nat.le_of_ble_eq_true rfl) ?_
      cases hf
      exact ret _ _ dX8_crossing_65 (fun h => by cases h)
    refine j_case hf (fun c9 hf => ?_) (fun c9 hf => ?_)
    · refine j_tabIn C 66 dX8_crossing_13 (by rw [c9]; decide) (by rw [c9]; decide) (by rw [c9]; rfl) (by decide) ?_
      refine j_aload_n C 0 dX8_crossing_66 rfl rfl ?_
      refine j_getN C 11 iX8_crossing_X0 (g_C hk4) rfl (by decide) nf_RX8_132 rfl rfl dX8_crossing_67 ?_
      cases hf
      exact ret _ _ dX8_crossing_70 (fun h => by cases h)
    refine j_case hf (fun c10 hf => ?_) (fun c10 hf => ?_)
    · refine j_tabIn C 71 dX8_crossing_13 (by rw [c10]; decide) (by rw [c10]; decide) (by rw [c10]; rfl) (by decide) ?_
      refine j_aload_n C 0 dX8_crossing_71 rfl rfl ?_
      refine j_getN C 3 iX8_crossing_X0 (g_C hk4) rfl (by decide) nf_RX8_107 rfl rfl dX8_crossing_72 ?_
      refine j_getN C 0 iX8_crossing_X3 (g_L (isC_L hk4)) rfl (by decide) nf_RX8_157 rfl rfl dX8_crossing_75 ?_
      cases hf
      exact ret _ _ dX8_crossing_78 (fun h => by cases h)
    refine j_case hf (fun c13 hf => ?_) (fun c13 hf => ?_)
    · refine j_tabIn C 79 dX8_crossing_13 (by rw [c13]; decide) (by rw [c13]; decide) (by rw [c13]; rfl) (by decide) ?_
      refine j_aload_n C 0 dX8_crossing_79 rfl rfl ?_
      refine j_getN C 3 iX8_crossing_X0 (g_C hk4) rfl (by decide) nf_RX8_107 rfl rfl dX8_crossing_80 ?_
      obtain ⟨u11, h12, hf⟩ := bd hf
      refine j_cVI C [] gX8_crossing_X3_shownClock rfl hdX3_shownClock ⟨⟨rfl, rfl⟩, Nat.le_of_ble_eq_true rfl, Nat.le_of_ble_eq_true rfl⟩ rfl (g_L (isC_L hk4)) rfl (k_X3_shownClock (isC_L hk4) h12) dX8_crossing_83 rfl (Nat.le_of_ble_eq_true rfl) ?_
      cases hf
      exact ret _ _ dX8_crossing_86 (fun h => by cases h)
    refine j_case hf (fun c14 hf => ?_) (fun c14 hf => ?_)
    · refine j_tabIn C 87 dX8_crossing_13 (by rw [c14]; decide) (by rw [c14]; decide) (by rw [c14]; rfl) (by decide) ?_
      refine j_aload_n C 0 dX8_crossing_87 rfl rfl ?_
      refine j_getN C 6 iX8_crossing_X0 (g_C hk4) rfl (by decide) nf_RX8_163 rfl rfl dX8_crossing_88 ?_
      refine j_getN C 0 iX8_crossing_X6 (g_R (isC_R0 hk4)) rfl (by decide) nf_RX8_167 rfl rfl dX8_crossing_91 ?_
      cases hf
      exact ret _ _ dX8_crossing_94 (fun h => by cases h)
    refine j_case hf (fun c15 hf => ?_) (fun c15 hf => ?_)
    · refine j_tabIn C 95 dX8_crossing_13 (by rw [c15]; decide) (by rw [c15]; decide) (by rw [c15]; rfl) (by decide) ?_
      refine j_aload_n C 0 dX8_crossing_95 rfl rfl ?_
      refine j_getN C 7 iX8_crossing_X0 (g_C hk4) rfl (by decide) nf_RX8_172 rfl rfl dX8_crossing_96 ?_
      refine j_getN C 0 iX8_crossing_X6 (g_R (isC_R1 hk4)) rfl (by decide) nf_RX8_167 rfl rfl dX8_crossing_99 ?_
      cases hf
      exact ret _ _ dX8_crossing_102 (fun h => by cases h)
    refine j_tabOut C 103 dX8_crossing_13 (by have ec5 := lv_neT c5 (a := 0) (by decide); have ec8 := lv_neT c8 (a := 1) (by decide); have ec9 := lv_neT c9 (a := 2) (by decide); have ec10 := lv_neT c10 (a := 3) (by decide); have ec13 := lv_neT c13 (a := 4) (by decide); have ec14 := lv_neT c14 (a := 5) (by decide); have ec15 := lv_neT c15 (a := 6) (by decide); omega) (by decide) ?_
    refine j_iconst C (v := (-1)) dX8_crossing_103 (by decide) ?_
    cases hf
    exact ret _ _ dX8_crossing_104 (fun h => by cases h)
/-- BarrierLights.occupancy(II)F -/
def f_X8_occupancy (p1 : Int32) (p2 : Int32) (K : Mem) : Option (UInt32) := (f_X8_controllerOf p1 K).bind fun u1 => oc u1 (some FP.fconst0) (fun b3 => (f_X8_isPhase p2 K).bind fun u5 => if u5 = 0 then (some FP.fconst0) else (if inb p2 8 = true then (some (((K ((b3 + 5) + 2) (ix p2))).toUInt32)) else none))
abbrev rmX8_occupancy : Room := { frames := 1, cells := 0, slots := 0, locals := 21 }
theorem iX8_occupancy_X0 : ∀ w ∈ u_ws RX0 TX0 16, w ∈ wsX8_occupancy := fun _ h => List.mem_cons_of_mem _ (List.mem_append_left _ (List.mem_append_left _ (List.mem_append_right _ h)))
theorem iX8_occupancy_X1 : ∀ w ∈ u_ws RX1 TX1 4, w ∈ wsX8_occupancy := fun _ h => List.mem_cons_of_mem _ (List.mem_append_left _ (List.mem_append_right _ h))
set_option maxRecDepth 100000 in
set_option maxHeartbeats 4000000 in
theorem k_X8_occupancy {l : Launch} {D : va_G} {ad : Nat → Nat} {aI aZ aF : ClassId} {p1 : Int32} {p2 : Int32} {K : Mem} {u : UInt32} (hf : f_X8_occupancy p1 p2 K = some u) : cF (EC l D ad aI aZ aF) yX8_occupancy wsX8_occupancy rmX8_occupancy [.ref (ad 0), .int p1, .int p2] K u K := by
  rw [f_X8_occupancy] at hf
  refine j_entF (cc := cX8_occupancy) (maxL := 4) (EC_ok l D ad aI aZ aF) (by decide) rfl (Nat.le_of_ble_eq_true rfl) (fun G C ret => ?_)
  refine j_sub [0, 1, 2] (lv2 := [(0, .ref (ad 0)), (1, .int p1), (2, .int p2)]) rfl ?_
  refine j_aload_n C 0 dX8_occupancy_0 rfl rfl ?_
  refine j_iload_n C 1 dX8_occupancy_1 rfl rfl ?_
  obtain ⟨u1, h2, hf⟩ := bd hf
  refine j_cVQ C [.int p1] gX8_occupancy_X8_controllerOf rfl hdX8_controllerOf ⟨⟨rfl, rfl⟩, Nat.le_of_ble_eq_true rfl, Nat.le_of_ble_eq_true rfl⟩ rfl g_0 rfl (k_X8_controllerOf h2) dX8_occupancy_2 rfl (Nat.le_of_ble_eq_true rfl) ?_
  cases u1 with
  | none =>
    have hf := oc_n hf
    refine j_astore_nN C [(3, .null), (0, .ref (ad 0)), (1, .int p1), (2, .int p2)] dX8_occupancy_5 rfl (by decide) rfl ?_
    refine j_aload_nN C 0 dX8_occupancy_6 rfl rfl ?_
    refine j_ifnullN C 17 dX8_occupancy_7 (by decide) ?_
    refine j_fconst0 C dX8_occupancy_17 ?_
    refine j_goto C 30 dX8_occupancy_18 (by decide) ?_
    cases hf
    exact ret _ _ dX8_occupancy_30
  | some b3 =>
    have hk4 := q_X8_controllerOf h2
    have hf := oc_s hf
    refine j_astore_n C [(3, .ref (ad b3)), (0, .ref (ad 0)), (1, .int p1), (2, .int p2)] dX8_occupancy_5 rfl (by decide) rfl ?_
    refine j_aload_n C 0 dX8_occupancy_6 rfl rfl ?_
    refine j_ifnull C dX8_occupancy_7 ?_
    refine j_iload_n C 3 dX8_occupancy_10 rfl rfl ?_
    obtain ⟨u5, h6, hf⟩ := bd hf
    refine j_cSI C [.int p2] gX8_occupancy_X8_isPhase rfl hdX8_isPhase.2 ⟨⟨rfl, rfl⟩, Nat.le_of_ble_eq_true rfl, Nat.le_of_ble_eq_true rfl⟩ rfl (k_X8_isPhase h6) dX8_occupancy_11 rfl (Nat.le_of_ble_eq_true rfl) ?_
    refine j_if_ne C 21 dX8_occupancy_14 (by decide) hf (fun hf => ?_) (fun hf => ?_)
    · refine j_fconst0 C dX8_occupancy_17 ?_
      refine j_goto C 30 dX8_occupancy_18 (by decide) ?_
      cases hf
      exact ret _ _ dX8_occupancy_30
    · refine j_aload_n C 0 dX8_occupancy_21 rfl rfl ?_
      refine j_getN C 2 iX8_occupancy_X0 (g_C hk4) rfl (by decide) nf_RX8_76 rfl rfl dX8_occupancy_22 ?_
      refine j_getN C 1 iX8_occupancy_X1 (g_D (isC_D hk4)) rfl (by decide) nf_RX8_175 rfl rfl dX8_occupancy_25 ?_
      refine j_iload_n C 3 dX8_occupancy_28 rfl rfl ?_
      refine j_fald C 2 (g_D2 (isC_D hk4)) rfl dX8_occupancy_29 hf (fun hf => ?_)
      cases hf
      exact ret _ _ dX8_occupancy_30
/-- java/lang/Integer.bitCount(I)I -/
def f_J6_bitCount_0f7a4 (p0 : Int32) (K : Mem) : Option (Int32) := lt (p0 - ((jushr p0 1) &&& 1431655765)) fun x1 => lt ((x1 &&& 858993459) + ((jushr x1 2) &&& 858993459)) fun x2 => lt ((x2 + (jushr x2 4)) &&& 252645135) fun x3 => lt (x3 + (jushr x3 8)) fun x4 => lt (x4 + (jushr x4 16)) fun x5 => some (x5 &&& 63)
abbrev rmJ6_bitCount_0f7a4 : Room := { frames := 0, cells := 0, slots := 0, locals := 0 }
theorem mJ6_bitCount_0f7a4_c265 : Cond.constant RJ6 265 1431655765 ∈ wsJ6_bitCount_0f7a4 := by decide +kernel
theorem mJ6_bitCount_0f7a4_c266 : Cond.constant RJ6 266 858993459 ∈ wsJ6_bitCount_0f7a4 := by decide +kernel
theorem mJ6_bitCount_0f7a4_c267 : Cond.constant RJ6 267 252645135 ∈ wsJ6_bitCount_0f7a4 := by decide +kernel
set_option maxRecDepth 100000 in
set_option maxHeartbeats 4000000 in
theorem k_J6_bitCount_0f7a4 {l : Launch} {D : va_G} {ad : Nat → Nat} {aI aZ aF : ClassId} {p0 : Int32} {K : Mem} {u : Int32} (hf : f_J6_bitCount_0f7a4 p0 K = some u) : cI (EC l D ad aI aZ aF) yJ6_bitCount_0f7a4 wsJ6_bitCount_0f7a4 rmJ6_bitCount_0f7a4 [.int p0] K u K := by
  rw [f_J6_bitCount_0f7a4] at hf
  refine j_entIF (cc := cJ6_bitCount_0f7a4) (maxL := 1) (EC_ok l D ad aI aZ aF) (Or.inl rfl) (by decide +kernel) rfl (Nat.le_of_ble_eq_true rfl) (fun G C ret => ?_)
  refine j_sub [0] (lv2 := [(0, .int p0)]) rfl ?_
  refine j_iload_n C 0 dJ6_bitCount_0f7a4_0 rfl rfl ?_
  refine j_iload_n C 0 dJ6_bitCount_0f7a4_1 rfl rfl ?_
  refine j_iconst C (v := 1) dJ6_bitCount_0f7a4_2 (by decide) ?_
  refine j_iushr C dJ6_bitCount_0f7a4_3 ?_
  refine j_ldci C mJ6_bitCount_0f7a4_c265 dJ6_bitCount_0f7a4_4 ?_
  refine j_iand C dJ6_bitCount_0f7a4_7 ?_
  refine j_isub C dJ6_bitCount_0f7a4_8 ?_
  refine j_istore_n C (fun y => [(0, .int y)]) dJ6_bitCount_0f7a4_9 rfl (by decide) (fun _ => rfl) hf (fun x1 hf => ?_)
  refine j_iload_n C 0 dJ6_bitCount_0f7a4_10 rfl rfl ?_
  refine j_ldci C mJ6_bitCount_0f7a4_c266 dJ6_bitCount_0f7a4_11 ?_
  refine j_iand C dJ6_bitCount_0f7a4_14 ?_
  refine j_iload_n C 0 dJ6_bitCount_0f7a4_15 rfl rfl ?_
  refine j_iconst C (v := 2) dJ6_bitCount_0f7a4_16 (by decide) ?_
  refine j_iushr C dJ6_bitCount_0f7a4_17 ?_
  refine j_ldci C mJ6_bitCount_0f7a4_c266 dJ6_bitCount_0f7a4_18 ?_
  refine j_iand C dJ6_bitCount_0f7a4_21 ?_
  refine j_iadd C dJ6_bitCount_0f7a4_22 ?_
  refine j_istore_n C (fun y => [(0, .int y)]) dJ6_bitCount_0f7a4_23 rfl (by decide) (fun _ => rfl) hf (fun x2 hf => ?_)
  refine j_iload_n C 0 dJ6_bitCount_0f7a4_24 rfl rfl ?_
  refine j_iload_n C 0 dJ6_bitCount_0f7a4_25 rfl rfl ?_
  refine j_iconst C (v := 4) dJ6_bitCount_0f7a4_26 (by decide) ?_
  refine j_iushr C dJ6_bitCount_0f7a4_27 ?_
  refine j_iadd C dJ6_bitCount_0f7a4_28 ?_
  refine j_ldci C mJ6_bitCount_0f7a4_c267 dJ6_bitCount_0f7a4_29 ?_
  refine j_iand C dJ6_bitCount_0f7a4_32 ?_
  refine j_istore_n C (fun y => [(0, .int y)]) dJ6_bitCount_0f7a4_33 rfl (by decide) (fun _ => rfl) hf (fun x3 hf => ?_)
  refine j_iload_n C 0 dJ6_bitCount_0f7a4_34 rfl rfl ?_
  refine j_iload_n C 0 dJ6_bitCount_0f7a4_35 rfl rfl ?_
  refine j_bipush C (v := 8) dJ6_bitCount_0f7a4_36 (by decide) ?_
  refine j_iushr C dJ6_bitCount_0f7a4_38 ?_
  refine j_iadd C dJ6_bitCount_0f7a4_39 ?_
  refine j_istore_n C (fun y => [(0, .int y)]) dJ6_bitCount_0f7a4_40 rfl (by decide) (fun _ => rfl) hf (fun x4 hf => ?_)
  refine j_iload_n C 0 dJ6_bitCount_0f7a4_41 rfl rfl ?_
  refine j_iload_n C 0 dJ6_bitCount_0f7a4_42 rfl rfl ?_
  refine j_bipush C (v := 16) dJ6_bitCount_0f7a4_43 (by decide) ?_
  refine j_iushr C dJ6_bitCount_0f7a4_45 ?_
  refine j_iadd C dJ6_bitCount_0f7a4_46 ?_
  refine j_istore_n C (fun y => [(0, .int y)]) dJ6_bitCount_0f7a4_47 rfl (by decide) (fun _ => rfl) hf (fun x5 hf => ?_)
  refine j_iload_n C 0 dJ6_bitCount_0f7a4_48 rfl rfl ?_
  refine j_bipush C (v := 63) dJ6_bitCount_0f7a4_49 (by decide) ?_
  refine j_iand C dJ6_bitCount_0f7a4_51 ?_
  cases hf
  exact ret _ _ dJ6_bitCount_0f7a4_52 (fun h => by cases h)
