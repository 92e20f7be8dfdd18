/-- BarrierLights$Table.at(II)I -/
def f_X7_at (b : Nat) (p1 : Int32) (p2 : Int32) (K : Mem) : Option (Int32) := lt ((p1 * 8) + p2) fun x1 => if x1 < 0 then (some 0) else (if 64 ≤ x1 then (some 0) else (if inb x1 64 = true then (some (K (b + 1) (ix x1))) else none))
abbrev rmX7_at : Room := { frames := 0, cells := 0, slots := 0, locals := 0 }
theorem iX7_at_X7 : ∀ w ∈ u_ws RX7 TX7 1, w ∈ wsX7_at := fun _ h => List.mem_cons_of_mem _ (List.mem_append_right _ h)
theorem mX7_at_f9 : Cond.fieldLink RX7 9 "BarrierLights$Table" "entries" "[I" ∈ wsX7_at := by decide +kernel
set_option maxRecDepth 100000 in
set_option maxHeartbeats 4000000 in
theorem k_X7_at {l : Launch} {D : va_G} {ad : Nat → Nat} {aI aZ aF : ClassId} {b : Nat} {p1 : Int32} {p2 : Int32} (hb : isT b) {K : Mem} {u : Int32} (hf : f_X7_at b p1 p2 K = some u) : cI (EC l D ad aI aZ aF) yX7_at wsX7_at rmX7_at [.ref (ad b), .int p1, .int p2] K u K := by
  rw [f_X7_at] at hf
  refine j_entI (cc := cX7_at) (maxL := 4) (EC_ok l D ad aI aZ aF) (Or.inl rfl) (by decide) rfl (Nat.le_of_ble_eq_true rfl) (fun G C ret => ?_)
  refine j_sub [0, 1, 2] (lv2 := [(0, .ref (ad b)), (1, .int p1), (2, .int p2)]) rfl ?_
  refine j_iload_n C 1 dX7_at_0 rfl rfl ?_
  refine j_bipush C (v := 8) dX7_at_1 (by decide) ?_
  refine j_imul C dX7_at_3 ?_
  refine j_iload_n C 2 dX7_at_4 rfl rfl ?_
  refine j_iadd C dX7_at_5 ?_
  refine j_istore_n C (fun y => [(3, .int y), (0, .ref (ad b)), (1, .int p1), (2, .int p2)]) dX7_at_6 rfl (by decide) (fun _ => rfl) hf (fun x1 hf => ?_)
  refine j_iload_n C 0 dX7_at_7 rfl rfl ?_
  refine j_if_lt C 29 dX7_at_8 (by decide) hf (fun hf => ?_) (fun hf => ?_)
  · refine j_iconst C (v := 0) dX7_at_29 (by decide) ?_
    cases hf
    exact ret _ _ dX7_at_30 (fun h => by cases h)
  · refine j_iload_n C 0 dX7_at_11 rfl rfl ?_
    refine j_aload_n C 1 dX7_at_12 rfl rfl ?_
    refine j_get C 0 iX7_at_X7 (g_T hb) rfl (by decide) mX7_at_f9 rfl rfl dX7_at_13 ?_
    refine j_alen C (v := 64) 0 (g_Ta hb) rfl rfl dX7_at_16 ?_
    refine j_icmp_ge C 29 dX7_at_17 (by decide) hf (fun hf => ?_) (fun hf => ?_)
    · refine j_iconst C (v := 0) dX7_at_29 (by decide) ?_
      cases hf
      exact ret _ _ dX7_at_30 (fun h => by cases h)
    · refine j_aload_n C 1 dX7_at_20 rfl rfl ?_
      refine j_get C 0 iX7_at_X7 (g_T hb) rfl (by decide) mX7_at_f9 rfl rfl dX7_at_21 ?_
      refine j_iload_n C 0 dX7_at_24 rfl rfl ?_
      refine j_iald C 0 (g_Ta hb) rfl dX7_at_25 hf (fun hf => ?_)
      refine j_goto C 30 dX7_at_26 (by decide) ?_
      cases hf
      exact ret _ _ dX7_at_30 (fun h => by cases h)
/-- BarrierLights$Table.isUsed(I)Z -/
def f_X7_isUsed (b : Nat) (p1 : Int32) (K : Mem) : Option (Int32) := (f_X7_at b p1 0 K).bind fun u1 => if u1 = 0 then (some 0) else (some 1)
abbrev rmX7_isUsed : Room := { frames := 1, cells := 0, slots := 0, locals := 23 }
theorem hdX7_at : yX7_at.cls = RX7 ∧ yX7_at.cls ≠ "java/lang/invoke/MethodHandle" ∧ yX7_at.cls ≠ "java/lang/invoke/VarHandle" ∧ (parseMethodDescriptor yX7_at.desc).map (fun d => d.parameters.length) = some 2 := by decide +kernel
set_option maxRecDepth 100000 in
set_option maxHeartbeats 4000000 in
theorem k_X7_isUsed {l : Launch} {D : va_G} {ad : Nat → Nat} {aI aZ aF : ClassId} {b : Nat} {p1 : Int32} (hb : isT b) {K : Mem} {u : Int32} (hf : f_X7_isUsed b p1 K = some u) : cI (EC l D ad aI aZ aF) yX7_isUsed wsX7_isUsed rmX7_isUsed [.ref (ad b), .int p1] K u K := by
  rw [f_X7_isUsed] at hf
  refine j_entI (cc := cX7_isUsed) (maxL := 2) (EC_ok l D ad aI aZ aF) (Or.inr rfl) (by decide) rfl (Nat.le_of_ble_eq_true rfl) (fun G C ret => ?_)
  refine j_sub [0, 1] (lv2 := [(0, .ref (ad b)), (1, .int p1)]) rfl ?_
  refine j_aload_n C 0 dX7_isUsed_0 rfl rfl ?_
  refine j_iload_n C 1 dX7_isUsed_1 rfl rfl ?_
  refine j_iconst C (v := 0) dX7_isUsed_2 (by decide) ?_
  obtain ⟨u1, h2, hf⟩ := bd hf
  refine j_cVI C [.int p1, .int 0] gX7_isUsed_X7_at rfl hdX7_at ⟨⟨rfl, rfl⟩, Nat.le_of_ble_eq_true rfl, Nat.le_of_ble_eq_true rfl⟩ rfl (g_T hb) rfl (k_X7_at hb h2) dX7_isUsed_3 rfl (Nat.le_of_ble_eq_true rfl) ?_
  refine j_if_eq C 13 dX7_isUsed_6 (by decide) hf (fun hf => ?_) (fun hf => ?_)
  · refine j_iconst C (v := 0) dX7_isUsed_13 (by decide) ?_
    cases hf
    exact ret _ _ dX7_isUsed_14 (fun _ => rfl)
  · refine j_iconst C (v := 1) dX7_isUsed_9 (by decide) ?_
    refine j_goto C 14 dX7_isUsed_10 (by decide) ?_
    cases hf
    exact ret _ _ dX7_isUsed_14 (fun _ => rfl)
/-- BarrierLights$Table.isRight(II)Z -/
def f_X7_isRight (b : Nat) (p1 : Int32) (p2 : Int32) (K : Mem) : Option (Int32) := (f_X7_at b p1 p2 K).bind fun u1 => lt u1 fun x3 => (f_X7_at b p1 5 K).bind fun u4 => (if u4 = 0 then (some 0) else (some 1) : Option (Int32)).bind fun v6 => lt v6 fun x9 => if p2 = 0 then (if 30 < x3 then (some 0) else (some 1)) else (if p2 = 1 then (if 10 < x3 then (some 0) else (some 1)) else (if p2 = 2 then ((f_X7_at b p1 0 K).bind fun u12 => if x3 < u12 then (some 0) else (if 60 < x3 then (some 0) else (some 1))) else (if p2 = 3 then (if x3 < 3 then (some 0) else (if 6 < x3 then (some 0) else (some 1))) else (if p2 = 4 then (if 4 < x3 then (some 0) else (some 1)) else (if p2 = 5 then (if 20 < x3 then (some 0) else (some 1)) else (if p2 = 6 then (if x9 = 0 then (if x3 = 0 then (some 1) else (some 0)) else (if x3 < 1 then (some 0) else (if 20 < x3 then (some 0) else (some 1)))) else (if x3 < 3 then (some 1) else (if x3 = 3 then (if x9 = 0 then (some 0) else (some 1)) else (some 0)))))))))
abbrev rmX7_isRight : Room := { frames := 1, cells := 0, slots := 0, locals := 23 }
set_option maxRecDepth 100000 in
set_option maxHeartbeats 4000000 in
theorem k_X7_isRight {l : Launch} {D : va_G} {ad : Nat → Nat} {aI aZ aF : ClassId} {b : Nat} {p1 : Int32} {p2 : Int32} (hb : isT b) {K : Mem} {u : Int32} (hf : f_X7_isRight b p1 p2 K = some u) : cI (EC l D ad aI aZ aF) yX7_isRight wsX7_isRight rmX7_isRight [.ref (ad b), .int p1, .int p2] K u K := by
  rw [f_X7_isRight] at hf
  refine j_entI (cc := cX7_isRight) (maxL := 5) (EC_ok l D ad aI aZ aF) (Or.inr rfl) (by decide) rfl (Nat.le_of_ble_eq_true rfl) (fun G C ret => ?_)
  refine j_sub [0, 1, 2] (lv2 := [(0, .ref (ad b)), (1, .int p1), (2, .int p2)]) rfl ?_
  refine j_aload_n C 0 dX7_isRight_0 rfl rfl ?_
  refine j_iload_n C 1 dX7_isRight_1 rfl rfl ?_
  refine j_iload_n C 2 dX7_isRight_2 rfl rfl ?_
  obtain ⟨u1, h2, hf⟩ := bd hf
  refine j_cVI C [.int p1, .int p2] gX7_isRight_X7_at rfl hdX7_at ⟨⟨rfl, rfl⟩, Nat.le_of_ble_eq_true rfl, Nat.le_of_ble_eq_true rfl⟩ rfl (g_T hb) rfl (k_X7_at hb h2) dX7_isRight_3 rfl (Nat.le_of_ble_eq_true rfl) ?_
  refine j_istore_n C (fun y => [(3, .int y), (0, .ref (ad b)), (1, .int p1), (2, .int p2)]) dX7_isRight_6 rfl (by decide) (fun _ => rfl) hf (fun x3 hf => ?_)
  refine j_aload_n C 1 dX7_isRight_7 rfl rfl ?_
  refine j_iload_n C 2 dX7_isRight_8 rfl rfl ?_
  refine j_iconst C (v := 5) dX7_isRight_9 (by decide) ?_
  obtain ⟨u4, h5, hf⟩ := bd hf
  refine j_cVI C [.int p1, .int 5] gX7_isRight_X7_at rfl hdX7_at ⟨⟨rfl, rfl⟩, Nat.le_of_ble_eq_true rfl, Nat.le_of_ble_eq_true rfl⟩ rfl (g_T hb) rfl (k_X7_at hb h5) dX7_isRight_10 rfl (Nat.le_of_ble_eq_true rfl) ?_
  obtain ⟨v6, h7, hf⟩ := bd hf
  have jj8 : jW (EC l D ad aI aZ aF) G K 21 [(0, .ref (ad b)), (1, .int p1), (2, .int p2), (3, .int x3)] [.int v6] := by
    refine j_istore C (fun y => [(4, .int y), (0, .ref (ad b)), (1, .int p1), (2, .int p2), (3, .int x3)]) dX7_isRight_21 (by decide) (fun _ => rfl) hf (fun x9 hf => ?_)
    refine j_iload_n C 3 dX7_isRight_23 rfl rfl ?_
    refine j_case hf (fun c10 hf => ?_) (fun c10 hf => ?_)
    · refine j_tabIn C 68 dX7_isRight_24 (by rw [c10]; decide) (by rw [c10]; decide) (by rw [c10]; rfl) (by decide) ?_
      refine j_iload_n C 4 dX7_isRight_68 rfl rfl ?_
      refine j_bipush C (v := 30) dX7_isRight_69 (by decide) ?_
      refine j_icmp_gt C 78 dX7_isRight_71 (by decide) hf (fun hf => ?_) (fun hf => ?_)
      · refine j_iconst C (v := 0) dX7_isRight_78 (by decide) ?_
        cases hf
        exact ret _ _ dX7_isRight_79 (fun _ => rfl)
      · refine j_iconst C (v := 1) dX7_isRight_74 (by decide) ?_
        refine j_goto C 79 dX7_isRight_75 (by decide) ?_
        cases hf
        exact ret _ _ dX7_isRight_79 (fun _ => rfl)
    refine j_case hf (fun c11 hf => ?_) (fun c11 hf => ?_)
    · refine j_tabIn C 80 dX7_isRight_24 (by rw [c11]; decide) (by rw [c11]; decide) (by rw [c11]; rfl) (by decide) ?_
      refine j_iload_n C 4 dX7_isRight_80 rfl rfl ?_
      refine j_bipush C (v := 10) dX7_isRight_81 (by decide) ?_
      refine j_icmp_gt C 90 dX7_isRight_83 (by decide) hf (fun hf => ?_) (fun hf => ?_)
      · refine j_iconst C (v := 0) dX7_isRight_90 (by decide) ?_
        cases hf
        exact ret _ _ dX7_isRight_91 (fun _ => rfl)
      · refine j_iconst C (v := 1) dX7_isRight_86 (by decide) ?_
        refine j_goto C 91 dX7_isRight_87 (by decide) ?_
        cases hf
        exact ret _ _ dX7_isRight_91 (fun _ => rfl)
    refine j_case hf (fun c14 hf => ?_) (fun c14 hf => ?_)
    · refine j_tabIn C 92 dX7_isRight_24 (by rw [c14]; decide) (by rw [c14]; decide) (by rw [c14]; rfl) (by decide) ?_
      refine j_iload_n C 4 dX7_isRight_92 rfl rfl ?_
      refine j_aload_n C 1 dX7_isRight_93 rfl rfl ?_
      refine j_iload_n C 2 dX7_isRight_94 rfl rfl ?_
      refine j_iconst C (v := 0) dX7_isRight_95 (by decide) ?_
      obtain ⟨u12, h13, hf⟩ := bd hf
      refine j_cVI C [.int p1, .int 0] gX7_isRight_X7_at rfl hdX7_at ⟨⟨rfl, rfl⟩, Nat.le_of_ble_eq_true rfl, Nat.le_of_ble_eq_true rfl⟩ rfl (g_T hb) rfl (k_X7_at hb h13) dX7_isRight_96 rfl (Nat.le_of_ble_eq_true rfl) ?_
      refine j_icmp_lt C 112 dX7_isRight_99 (by decide) hf (fun hf => ?_) (fun hf => ?_)
      · refine j_iconst C (v := 0) dX7_isRight_112 (by decide) ?_
        cases hf
        exact ret _ _ dX7_isRight_113 (fun _ => rfl)
      · refine j_iload_n C 4 dX7_isRight_102 rfl rfl ?_
        refine j_bipush C (v := 60) dX7_isRight_103 (by decide) ?_
        refine j_icmp_gt C 112 dX7_isRight_105 (by decide) hf (fun hf => ?_) (fun hf => ?_)
        · refine j_iconst C (v := 0) dX7_isRight_112 (by decide) ?_
          cases hf
          exact ret _ _ dX7_isRight_113 (fun _ => rfl)
        · refine j_iconst C (v := 1) dX7_isRight_108 (by decide) ?_
          refine j_goto C 113 dX7_isRight_109 (by decide) ?_
          cases hf
          exact ret _ _ dX7_isRight_113 (fun _ => rfl)
    refine j_case hf (fun c15 hf => ?_) (fun c15 hf => ?_)
    · refine j_tabIn C 114 dX7_isRight_24 (by rw [c15]; decide) (by rw [c15]; decide) (by rw [c15]; rfl) (by decide) ?_
      refine j_iload_n C 4 dX7_isRight_114 rfl rfl ?_
      refine j_iconst C (v := 3) dX7_isRight_115 (by decide) ?_
      refine j_icmp_lt C 129 dX7_isRight_116 (by decide) hf (fun hf => ?_) (fun hf => ?_)
      · refine j_iconst C (v := 0) dX7_isRight_129 (by decide) ?_
        cases hf
        exact ret _ _ dX7_isRight_130 (fun _ => rfl)
      · refine j_iload_n C 4 dX7_isRight_119 rfl rfl ?_
        refine j_bipush C (v := 6) dX7_isRight_120 (by decide) ?_
        refine j_icmp_gt C 129 dX7_isRight_122 (by decide) hf (fun hf => ?_) (fun hf => ?_)
        · refine j_iconst C (v := 0) dX7_isRight_129 (by decide) ?_
          cases hf
          exact ret _ _ dX7_isRight_130 (fun _ => rfl)
        · refine j_iconst C (v := 1) dX7_isRight_125 (by decide) ?_
          refine j_goto C 130 dX7_isRight_126 (by decide) ?_
          cases hf
          exact ret _ _ dX7_isRight_130 (fun _ => rfl)
    refine j_case hf (fun c16 hf => ?_) (fun c16 hf => ?_)
    · refine j_tabIn C 131 dX7_isRight_24 (by rw [c16]; decide) (by rw [c16]; decide) (by rw [c16]; rfl) (by decide) ?_
      refine j_iload_n C 4 dX7_isRight_131 rfl rfl ?_
      refine j_iconst C (v := 4) dX7_isRight_132 (by decide) ?_
      refine j_icmp_gt C 140 dX7_isRight_133 (by decide) hf (fun hf => ?_) (fun hf => ?_)
      · refine j_iconst C (v := 0) dX7_isRight_140 (by decide) ?_
        cases hf
        exact ret _ _ dX7_isRight_141 (fun _ => rfl)
      · refine j_iconst C (v := 1) dX7_isRight_136 (by decide) ?_
        refine j_goto C 141 dX7_isRight_137 (by decide) ?_
        cases hf
        exact ret _ _ dX7_isRight_141 (fun _ => rfl)
    refine j_case hf (fun c17 hf => ?_) (fun c17 hf => ?_)
    · refine j_tabIn C 142 dX7_isRight_24 (by rw [c17]; decide) (by rw [c17]; decide) (by rw [c17]; rfl) (by decide) ?_
      refine j_iload_n C 4 dX7_isRight_142 rfl rfl ?_
      refine j_bipush C (v := 20) dX7_isRight_143 (by decide) ?_
      refine j_icmp_gt C 152 dX7_isRight_145 (by decide) hf (fun hf => ?_) (fun hf => ?_)
      · refine j_iconst C (v := 0) dX7_isRight_152 (by decide) ?_
        cases hf
        exact ret _ _ dX7_isRight_153 (fun _ => rfl)
      · refine j_iconst C (v := 1) dX7_isRight_148 (by decide) ?_
        refine j_goto C 153 dX7_isRight_149 (by decide) ?_
        cases hf
        exact ret _ _ dX7_isRight_153 (fun _ => rfl)
    refine j_case hf (fun c18 hf => ?_) (fun c18 hf => ?_)
    · refine j_tabIn C 154 dX7_isRight_24 (by rw [c18]; decide) (by rw [c18]; decide) (by rw [c18]; rfl) (by decide) ?_
      refine j_iload C 0 dX7_isRight_154 rfl ?_
      refine j_if_eq C 178 dX7_isRight_156 (by decide) hf (fun hf => ?_) (fun hf => ?_)
      · refine j_iload_n C 4 dX7_isRight_178 rfl rfl ?_
        refine j_if_ne C 186 dX7_isRight_179 (by decide) hf (fun hf => ?_) (fun hf => ?_)
        · refine j_iconst C (v := 1) dX7_isRight_182 (by decide) ?_
          refine j_goto C 187 dX7_isRight_183 (by decide) ?_
          cases hf
          exact ret _ _ dX7_isRight_187 (fun _ => rfl)
        · refine j_iconst C (v := 0) dX7_isRight_186 (by decide) ?_
          cases hf
          exact ret _ _ dX7_isRight_187 (fun _ => rfl)
      · refine j_iload_n C 4 dX7_isRight_159 rfl rfl ?_
        refine j_iconst C (v := 1) dX7_isRight_160 (by decide) ?_
        refine j_icmp_lt C 174 dX7_isRight_161 (by decide) hf (fun hf => ?_) (fun hf => ?_)
        · refine j_iconst C (v := 0) dX7_isRight_174 (by decide) ?_
          refine j_goto C 187 dX7_isRight_175 (by decide) ?_
          cases hf
          exact ret _ _ dX7_isRight_187 (fun _ => rfl)
        · refine j_iload_n C 4 dX7_isRight_164 rfl rfl ?_
          refine j_bipush C (v := 20) dX7_isRight_165 (by decide) ?_
          refine j_icmp_gt C 174 dX7_isRight_167 (by decide) hf (fun hf => ?_) (fun hf => ?_)
          · refine j_iconst C (v := 0) dX7_isRight_174 (by decide) ?_
            refine j_goto C 187 dX7_isRight_175 (by decide) ?_
            cases hf
            exact ret _ _ dX7_isRight_187 (fun _ => rfl)
          · refine j_iconst C (v := 1) dX7_isRight_170 (by decide) ?_
            refine j_goto C 187 dX7_isRight_171 (by decide) ?_
            cases hf
            exact ret _ _ dX7_isRight_187 (fun _ => rfl)
    refine j_tabOut C 188 dX7_isRight_24 (by have ec10 := lv_neT c10 (a := 0) (by decide); have ec11 := lv_neT c11 (a := 1) (by decide); have ec14 := lv_neT c14 (a := 2) (by decide); have ec15 := lv_neT c15 (a := 3) (by decide); have ec16 := lv_neT c16 (a := 4) (by decide); have ec17 := lv_neT c17 (a := 5) (by decide); have ec18 := lv_neT c18 (a := 6) (by decide); omega) (by decide) ?_
    refine j_iload_n C 4 dX7_isRight_188 rfl rfl ?_
    refine j_iconst C (v := 3) dX7_isRight_189 (by decide) ?_
    refine j_icmp_lt C 203 dX7_isRight_190 (by decide) hf (fun hf => ?_) (fun hf => ?_)
    · refine j_iconst C (v := 1) dX7_isRight_203 (by decide) ?_
      refine j_goto C 208 dX7_isRight_204 (by decide) ?_
      cases hf
      exact ret _ _ dX7_isRight_208 (fun _ => rfl)
    · refine j_iload_n C 4 dX7_isRight_193 rfl rfl ?_
      refine j_iconst C (v := 3) dX7_isRight_194 (by decide) ?_
      refine j_icmp_ne C 207 dX7_isRight_195 (by decide) hf (fun hf => ?_) (fun hf => ?_)
      · refine j_iload C 0 dX7_isRight_198 rfl ?_
        refine j_if_eq C 207 dX7_isRight_200 (by decide) hf (fun hf => ?_) (fun hf => ?_)
        · refine j_iconst C (v := 0) dX7_isRight_207 (by decide) ?_
          cases hf
          exact ret _ _ dX7_isRight_208 (fun _ => rfl)
        · refine j_iconst C (v := 1) dX7_isRight_203 (by decide) ?_
          refine j_goto C 208 dX7_isRight_204 (by decide) ?_
          cases hf
          exact ret _ _ dX7_isRight_208 (fun _ => rfl)
      · refine j_iconst C (v := 0) dX7_isRight_207 (by decide) ?_
        cases hf
        exact ret _ _ dX7_isRight_208 (fun _ => rfl)
  clear hf
  have hf := h7
  clear h7
  refine j_if_eq C 20 dX7_isRight_13 (by decide) hf (fun hf => ?_) (fun hf => ?_)
  · refine j_iconst C (v := 0) dX7_isRight_20 (by decide) ?_
    cases hf
    refine j_sub [1, 2, 3, 0] rfl ?_
    exact jj8
  · refine j_iconst C (v := 1) dX7_isRight_16 (by decide) ?_
    refine j_goto C 21 dX7_isRight_17 (by decide) ?_
    cases hf
    refine j_sub [1, 2, 3, 0] rfl ?_
    exact jj8
/-- BarrierLights.bit(I)I -/
def f_X8_bit (p0 : Int32) (K : Mem) : Option (Int32) := if p0 < 0 then (some 0) else (if 8 ≤ p0 then (some 0) else (some (jshl 1 p0)))
abbrev rmX8_bit : Room := { frames := 0, cells := 0, slots := 0, locals := 0 }
set_option maxRecDepth 100000 in
set_option maxHeartbeats 4000000 in
theorem k_X8_bit {l : Launch} {D : va_G} {ad : Nat → Nat} {aI aZ aF : ClassId} {p0 : Int32} {K : Mem} {u : Int32} (hf : f_X8_bit p0 K = some u) : cI (EC l D ad aI aZ aF) yX8_bit wsX8_bit rmX8_bit [.int p0] K u K := by
  rw [f_X8_bit] at hf
  refine j_entI (cc := cX8_bit) (maxL := 1) (EC_ok l D ad aI aZ aF) (Or.inl rfl) (by decide) rfl (Nat.le_of_ble_eq_true rfl) (fun G C ret => ?_)
  refine j_sub [0] (lv2 := [(0, .int p0)]) rfl ?_
  refine j_iload_n C 0 dX8_bit_0 rfl rfl ?_
  refine j_if_lt C 16 dX8_bit_1 (by decide) hf (fun hf => ?_) (fun hf => ?_)
  · refine j_iconst C (v := 0) dX8_bit_16 (by decide) ?_
    cases hf
    exact ret _ _ dX8_bit_17 (fun h => by cases h)
  · refine j_iload_n C 0 dX8_bit_4 rfl rfl ?_
    refine j_bipush C (v := 8) dX8_bit_5 (by decide) ?_
    refine j_icmp_ge C 16 dX8_bit_7 (by decide) hf (fun hf => ?_) (fun hf => ?_)
    · refine j_iconst C (v := 0) dX8_bit_16 (by decide) ?_
      cases hf
      exact ret _ _ dX8_bit_17 (fun h => by cases h)
    · refine j_iconst C (v := 1) dX8_bit_10 (by decide) ?_
      refine j_iload_n C 0 dX8_bit_11 rfl rfl ?_
      refine j_ishl C dX8_bit_12 ?_
      refine j_goto C 17 dX8_bit_13 (by decide) ?_
      cases hf
      exact ret _ _ dX8_bit_17 (fun h => by cases h)
/-- BarrierLights$Table.used()I -/
def f_X7_used_L4 (c0 : Nat) : Nat → Int32 → Int32 → Mem → Option (Int32 × Int32)
  | 0, _, _, _ => none
  | n + 1, y1, y2, K => if 8 ≤ y2 then (some (y1, y2)) else ((f_X7_isUsed c0 y2 K).bind fun u3 => (if u3 = 0 then (some y1) else ((f_X8_bit y2 K).bind fun u8 => lt (y1 ||| u8) fun x10 => some x10) : Option (Int32)).bind fun v5 => lt (y2 + 1) fun x11 => f_X7_used_L4 c0 n v5 x11 K)
def f_X7_used (b : Nat) (K : Mem) : Option (Int32) := lt 0 fun x1 => lt 0 fun x2 => (f_X7_used_L4 b 70 x1 x2 K).bind fun v12 => some v12.1
abbrev rmX7_used : Room := { frames := 2, cells := 0, slots := 0, locals := 44 }
theorem hdX7_isUsed : yX7_isUsed.cls = RX7 ∧ yX7_isUsed.cls ≠ "java/lang/invoke/MethodHandle" ∧ yX7_isUsed.cls ≠ "java/lang/invoke/VarHandle" ∧ (parseMethodDescriptor yX7_isUsed.desc).map (fun d => d.parameters.length) = some 1 := by decide +kernel
theorem mX7_used_iX8 : Cond.initialized RX8 ∈ wsX7_used := by decide +kernel
theorem mX7_used_sX8_bit : Cond.static yX8_bit ∈ wsX7_used := by decide +kernel
theorem hdX8_bit : yX8_bit.cls = RX8 ∧ yX8_bit.cls ≠ "java/lang/invoke/MethodHandle" ∧ yX8_bit.cls ≠ "java/lang/invoke/VarHandle" ∧ (parseMethodDescriptor yX8_bit.desc).map (fun d => d.parameters.length) = some 1 := by decide +kernel
set_option maxRecDepth 100000 in
set_option maxHeartbeats 4000000 in
theorem lp_X7_used_L4 {l : Launch} {D : va_G} {ad : Nat → Nat} {aI aZ aF : ClassId} {G : jG} {c0 : Nat} (hc0 : isT c0) (C : jC (EC l D ad aI aZ aF) G cX7_used yX7_used.cls wsX7_used rmX7_used 3) : ∀ (n : Nat) (y1 y2 : Int32) (K : Mem) (v : Int32 × Int32), f_X7_used_L4 c0 n y1 y2 K = some v → jW (EC l D ad aI aZ aF) G K 31 [(0, .ref (ad c0)), (1, .int v.1), (2, .int v.2)] [] → jW (EC l D ad aI aZ aF) G K 4 [(0, .ref (ad c0)), (1, .int y1), (2, .int y2)] [] := by
  intro n
  induction n with
  | zero =>
    intro y1 y2 K v hf jj
    rw [f_X7_used_L4] at hf
    cases hf
  | succ n ih =>
    intro y1 y2 K v hf jj
    rw [f_X7_used_L4] at hf
    refine j_iload_n C 2 dX7_used_4 rfl rfl ?_
    refine j_bipush C (v := 8) dX7_used_5 (by decide) ?_
    refine j_icmp_ge C 31 dX7_used_7 (by decide) hf (fun hf => ?_) (fun hf => ?_)
    · cases hf
      exact jj
    · refine j_aload_n C 0 dX7_used_10 rfl rfl ?_
      refine j_iload_n C 2 dX7_used_11 rfl rfl ?_
      obtain ⟨u3, h4, hf⟩ := bd hf
      refine j_cVI C [.int y2] gX7_used_X7_isUsed rfl hdX7_isUsed ⟨⟨rfl, rfl⟩, Nat.le_of_ble_eq_true rfl, Nat.le_of_ble_eq_true rfl⟩ rfl (g_T hc0) rfl (k_X7_isUsed hc0 h4) dX7_used_12 rfl (Nat.le_of_ble_eq_true rfl) ?_
      obtain ⟨v5, h6, hf⟩ := bd hf
      have jj7 : jW (EC l D ad aI aZ aF) G K 25 [(0, .ref (ad c0)), (1, .int v5), (2, .int y2)] [] := by
        refine j_iinc C (v := (y2 + 1)) 2 (fun y => [(2, .int y), (0, .ref (ad c0)), (1, .int v5)]) dX7_used_25 rfl rfl (by decide) (fun _ => rfl) hf (fun x11 hf => ?_)
        refine j_goto C 4 dX7_used_28 (by decide) ?_
        refine j_sub [1, 2, 0] rfl ?_
        exact ih _ _ _ _ hf jj
      clear hf
      have hf := h6
      clear h6
      refine j_if_eq C 25 dX7_used_15 (by decide) hf (fun hf => ?_) (fun hf => ?_)
      · cases hf
        exact jj7
      · refine j_iload_n C 1 dX7_used_18 rfl rfl ?_
        refine j_iload_n C 2 dX7_used_19 rfl rfl ?_
        obtain ⟨u8, h9, hf⟩ := bd hf
        refine j_cNI C [.int y2] gX7_used_X8_bit_n29 rfl nm_RX7_29 mX7_used_iX8 mX7_used_sX8_bit hdX8_bit.2 ⟨⟨rfl, rfl⟩, Nat.le_of_ble_eq_true rfl, Nat.le_of_ble_eq_true rfl⟩ rfl (k_X8_bit h9) dX7_used_20 rfl (Nat.le_of_ble_eq_true rfl) ?_
        refine j_ior C dX7_used_23 ?_
        refine j_istore_n C (fun y => [(1, .int y), (0, .ref (ad c0)), (2, .int y2)]) dX7_used_24 rfl (by decide) (fun _ => rfl) hf (fun x10 hf => ?_)
        cases hf
        refine j_sub [1, 0, 2] rfl ?_
        exact jj7
set_option maxRecDepth 100000 in
set_option maxHeartbeats 4000000 in
theorem k_X7_used {l : Launch} {D : va_G} {ad : Nat → Nat} {aI aZ aF : ClassId} {b : Nat} (hb : isT b) {K : Mem} {u : Int32} (hf : f_X7_used b K = some u) : cI (EC l D ad aI aZ aF) yX7_used wsX7_used rmX7_used [.ref (ad b)] K u K := by
  rw [f_X7_used] at hf
  refine j_entI (cc := cX7_used) (maxL := 3) (EC_ok l D ad aI aZ aF) (Or.inl rfl) (by decide) rfl (Nat.le_of_ble_eq_true rfl) (fun G C ret => ?_)
  refine j_sub [0] (lv2 := [(0, .ref (ad b))]) rfl ?_
  refine j_iconst C (v := 0) dX7_used_0 (by decide) ?_
  refine j_istore_n C (fun y => [(1, .int y), (0, .ref (ad b))]) dX7_used_1 rfl (by decide) (fun _ => rfl) hf (fun x1 hf => ?_)
  refine j_iconst C (v := 0) dX7_used_2 (by decide) ?_
  refine j_istore_n C (fun y => [(2, .int y), (1, .int x1), (0, .ref (ad b))]) dX7_used_3 rfl (by decide) (fun _ => rfl) hf (fun x2 hf => ?_)
  obtain ⟨v12, h13, hf⟩ := bd hf
  refine j_sub [2, 1, 0] (lv2 := [(0, .ref (ad b)), (1, .int x1), (2, .int x2)]) rfl ?_
  refine lp_X7_used_L4 hb C 70 _ _ _ _ h13 ?_
  refine j_iload_n C 1 dX7_used_31 rfl rfl ?_
  cases hf
  exact ret _ _ dX7_used_32 (fun h => by cases h)
/-- BarrierLights$Table.wrongPlace()I -/
def f_X7_wrongPlace_L10 (cont : Int32 → Option (Int32)) (c0 : Nat) (c1 : Int32) : Nat → Int32 → Mem → Option (Int32)
  | 0, _, _ => none
  | n + 1, y2, K => if 8 ≤ y2 then (cont y2) else ((f_X7_isUsed c0 c1 K).bind fun u3 => if u3 = 0 then (lt (y2 + 1) fun x5 => f_X7_wrongPlace_L10 cont c0 c1 n x5 K) else ((f_X7_isRight c0 c1 y2 K).bind fun u6 => if u6 = 0 then (some ((c1 * 8) + y2)) else (lt (y2 + 1) fun x8 => f_X7_wrongPlace_L10 cont c0 c1 n x8 K)))
def f_X7_wrongPlace_L2 (cont : Int32 → Option (Int32)) (c0 : Nat) : Nat → Int32 → Mem → Option (Int32)
  | 0, _, _ => none
  | n + 1, y1, K => if 8 ≤ y1 then (cont y1) else (lt 0 fun x2 => f_X7_wrongPlace_L10 (fun v9 => lt (y1 + 1) fun x10 => f_X7_wrongPlace_L2 cont c0 n x10 K) c0 y1 70 x2 K)
def f_X7_wrongPlace (b : Nat) (K : Mem) : Option (Int32) := lt 0 fun x1 => f_X7_wrongPlace_L2 (fun v11 => (f_X7_used b K).bind fun u12 => if (u12 &&& 51) = 0 then (some 64) else ((f_X7_used b K).bind fun u14 => if (u14 &&& 204) = 0 then (some 65) else (some (-1)))) b 70 x1 K
abbrev rmX7_wrongPlace : Room := { frames := 3, cells := 0, slots := 0, locals := 66 }
theorem hdX7_isRight : yX7_isRight.cls = RX7 ∧ yX7_isRight.cls ≠ "java/lang/invoke/MethodHandle" ∧ yX7_isRight.cls ≠ "java/lang/invoke/VarHandle" ∧ (parseMethodDescriptor yX7_isRight.desc).map (fun d => d.parameters.length) = some 2 := by decide +kernel
theorem hdX7_used : yX7_used.cls = RX7 ∧ yX7_used.cls ≠ "java/lang/invoke/MethodHandle" ∧ yX7_used.cls ≠ "java/lang/invoke/VarHandle" ∧ (parseMethodDescriptor yX7_used.desc).map (fun d => d.parameters.length) = some 0 := by decide +kernel
set_option maxRecDepth 100000 in
set_option maxHeartbeats 4000000 in
theorem lp_X7_wrongPlace_L10 {l : Launch} {D : va_G} {ad : Nat → Nat} {aI aZ aF : ClassId} {G : jG} {c0 : Nat} {c1 : Int32} (hc0 : isT c0) {K0 : Mem} {u : Int32} (C : jC (EC l D ad aI aZ aF) G cX7_wrongPlace yX7_wrongPlace.cls wsX7_wrongPlace rmX7_wrongPlace 3) (ret : ∀ (pc : Nat) (lv : List (Nat × Value)), decode cX7_wrongPlace pc = .ok (.ireturn, 1) → (.int = FieldType.boolean → bb u = true) → jW (EC l D ad aI aZ aF) G K0 pc lv [.int u]) {cont : Int32 → Option (Int32)} (hcont : ∀ v , cont v = some u → jW (EC l D ad aI aZ aF) G K0 46 [(0, .ref (ad c0)), (1, .int c1), (2, .int v)] []) : ∀ (n : Nat) (y2 : Int32) (K : Mem), K = K0 → f_X7_wrongPlace_L10 cont c0 c1 n y2 K = some u → jW (EC l D ad aI aZ aF) G K 10 [(0, .ref (ad c0)), (1, .int c1), (2, .int y2)] [] := by
  intro n
  induction n with
  | zero =>
    intro y2 K hK hf
    rw [f_X7_wrongPlace_L10] at hf
    cases hf
  | succ n ih =>
    intro y2 K hK hf
    subst hK
    rw [f_X7_wrongPlace_L10] at hf
    refine j_iload_n C 2 dX7_wrongPlace_10 rfl rfl ?_
    refine j_bipush C (v := 8) dX7_wrongPlace_11 (by decide) ?_
    refine j_icmp_ge C 46 dX7_wrongPlace_13 (by decide) hf (fun hf => ?_) (fun hf => ?_)
    · exact hcont _ hf
    · refine j_aload_n C 0 dX7_wrongPlace_16 rfl rfl ?_
      refine j_iload_n C 1 dX7_wrongPlace_17 rfl rfl ?_
      obtain ⟨u3, h4, hf⟩ := bd hf
      refine j_cVI C [.int c1] gX7_wrongPlace_X7_isUsed rfl hdX7_isUsed ⟨⟨rfl, rfl⟩, Nat.le_of_ble_eq_true rfl, Nat.le_of_ble_eq_true rfl⟩ rfl (g_T hc0) rfl (k_X7_isUsed hc0 h4) dX7_wrongPlace_18 rfl (Nat.le_of_ble_eq_true rfl) ?_
      refine j_if_eq C 40 dX7_wrongPlace_21 (by decide) hf (fun hf => ?_) (fun hf => ?_)
      · refine j_iinc C (v := (y2 + 1)) 2 (fun y => [(2, .int y), (0, .ref (ad c0)), (1, .int c1)]) dX7_wrongPlace_40 rfl rfl (by decide) (fun _ => rfl) hf (fun x5 hf => ?_)
        refine j_goto C 10 dX7_wrongPlace_43 (by decide) ?_
        refine j_sub [1, 2, 0] rfl ?_
        exact ih _ _ rfl hf
      · refine j_aload_n C 0 dX7_wrongPlace_24 rfl rfl ?_
        refine j_iload_n C 1 dX7_wrongPlace_25 rfl rfl ?_
        refine j_iload_n C 2 dX7_wrongPlace_26 rfl rfl ?_
        obtain ⟨u6, h7, hf⟩ := bd hf
        refine j_cVI C [.int c1, .int y2] gX7_wrongPlace_X7_isRight rfl hdX7_isRight ⟨⟨rfl, rfl⟩, Nat.le_of_ble_eq_true rfl, Nat.le_of_ble_eq_true rfl⟩ rfl (g_T hc0) rfl (k_X7_isRight hc0 h7) dX7_wrongPlace_27 rfl (Nat.le_of_ble_eq_true rfl) ?_
        refine j_if_ne C 40 dX7_wrongPlace_30 (by decide) hf (fun hf => ?_) (fun hf => ?_)
        · refine j_iload_n C 1 dX7_wrongPlace_33 rfl rfl ?_
          refine j_bipush C (v := 8) dX7_wrongPlace_34 (by decide) ?_
          refine j_imul C dX7_wrongPlace_36 ?_
          refine j_iload_n C 2 dX7_wrongPlace_37 rfl rfl ?_
          refine j_iadd C dX7_wrongPlace_38 ?_
          cases hf
          exact ret _ _ dX7_wrongPlace_39 (fun h => by cases h)
        · refine j_iinc C (v := (y2 + 1)) 2 (fun y => [(2, .int y), (0, .ref (ad c0)), (1, .int c1)]) dX7_wrongPlace_40 rfl rfl (by decide) (fun _ => rfl) hf (fun x8 hf => ?_)
          refine j_goto C 10 dX7_wrongPlace_43 (by decide) ?_
          refine j_sub [1, 2, 0] rfl ?_
          exact ih _ _ rfl hf
set_option maxRecDepth 100000 in
set_option maxHeartbeats 4000000 in
theorem lp_X7_wrongPlace_L2 {l : Launch} {D : va_G} {ad : Nat → Nat} {aI aZ aF : ClassId} {G : jG} {c0 : Nat} (hc0 : isT c0) {K0 : Mem} {u : Int32} (C : jC (EC l D ad aI aZ aF) G cX7_wrongPlace yX7_wrongPlace.cls wsX7_wrongPlace rmX7_wrongPlace 3) (ret : ∀ (pc : Nat) (lv : List (Nat × Value)), decode cX7_wrongPlace pc = .ok (.ireturn, 1) → (.int = FieldType.boolean → bb u = true) → jW (EC l D ad aI aZ aF) G K0 pc lv [.int u]) {cont : Int32 → Option (Int32)} (hcont : ∀ v , cont v = some u → jW (EC l D ad aI aZ aF) G K0 52 [(0, .ref (ad c0)), (1, .int v)] []) : ∀ (n : Nat) (y1 : Int32) (K : Mem), K = K0 → f_X7_wrongPlace_L2 cont c0 n y1 K = some u → jW (EC l D ad aI aZ aF) G K 2 [(0, .ref (ad c0)), (1, .int y1)] [] := by
  intro n
  induction n with
  | zero =>
    intro y1 K hK hf
    rw [f_X7_wrongPlace_L2] at hf
    cases hf
  | succ n ih =>
    intro y1 K hK hf
    subst hK
    rw [f_X7_wrongPlace_L2] at hf
    refine j_iload_n C 1 dX7_wrongPlace_2 rfl rfl ?_
    refine j_bipush C (v := 8) dX7_wrongPlace_3 (by decide) ?_
    refine j_icmp_ge C 52 dX7_wrongPlace_5 (by decide) hf (fun hf => ?_) (fun hf => ?_)
    · exact hcont _ hf
    · refine j_iconst C (v := 0) dX7_wrongPlace_8 (by decide) ?_
      refine j_istore_n C (fun y => [(2, .int y), (0, .ref (ad c0)), (1, .int y1)]) dX7_wrongPlace_9 rfl (by decide) (fun _ => rfl) hf (fun x2 hf => ?_)
      refine j_sub [1, 2, 0] (lv2 := [(0, .ref (ad c0)), (1, .int y1), (2, .int x2)]) rfl ?_
      refine lp_X7_wrongPlace_L10 hc0 C ret (fun v9 hf => ?_) 70 _ _ rfl hf
      refine j_iinc C (v := (y1 + 1)) 1 (fun y => [(1, .int y), (0, .ref (ad c0)), (2, .int v9)]) dX7_wrongPlace_46 rfl rfl (by decide) (fun _ => rfl) hf (fun x10 hf => ?_)
      refine j_goto C 2 dX7_wrongPlace_49 (by decide) ?_
      refine j_sub [1, 0] rfl ?_
      exact ih _ _ rfl hf
set_option maxRecDepth 100000 in
set_option maxHeartbeats 4000000 in
theorem k_X7_wrongPlace {l : Launch} {D : va_G} {ad : Nat → Nat} {aI aZ aF : ClassId} {b : Nat} (hb : isT b) {K : Mem} {u : Int32} (hf : f_X7_wrongPlace b K = some u) : cI (EC l D ad aI aZ aF) yX7_wrongPlace wsX7_wrongPlace rmX7_wrongPlace [.ref (ad b)] K u K := by
  rw [f_X7_wrongPlace] at hf
  refine j_entI (cc := cX7_wrongPlace) (maxL := 3) (EC_ok l D ad aI aZ aF) (Or.inl rfl) (by decide) rfl (Nat.le_of_ble_eq_true rfl) (fun G C ret => ?_)
  refine j_sub [0] (lv2 := [(0, .ref (ad b))]) rfl ?_
  refine j_iconst C (v := 0) dX7_wrongPlace_0 (by decide) ?_
  refine j_istore_n C (fun y => [(1, .int y), (0, .ref (ad b))]) dX7_wrongPlace_1 rfl (by decide) (fun _ => rfl) hf (fun x1 hf => ?_)
  refine j_sub [1, 0] (lv2 := [(0, .ref (ad b)), (1, .int x1)]) rfl ?_
  refine lp_X7_wrongPlace_L2 hb C ret (fun v11 hf => ?_) 70 _ _ rfl hf
  refine j_aload_n C 0 dX7_wrongPlace_52 rfl rfl ?_
  obtain ⟨u12, h13, hf⟩ := bd hf
  refine j_cVI C [] gX7_wrongPlace_X7_used rfl hdX7_used ⟨⟨rfl, rfl⟩, Nat.le_of_ble_eq_true rfl, Nat.le_of_ble_eq_true rfl⟩ rfl (g_T hb) rfl (k_X7_used hb h13) dX7_wrongPlace_53 rfl (Nat.le_of_ble_eq_true rfl) ?_
  refine j_bipush C (v := 51) dX7_wrongPlace_56 (by decide) ?_
  refine j_iand C dX7_wrongPlace_58 ?_
  refine j_if_ne C 65 dX7_wrongPlace_59 (by decide) hf (fun hf => ?_) (fun hf => ?_)
  · refine j_bipush C (v := 64) dX7_wrongPlace_62 (by decide) ?_
    cases hf
    exact ret _ _ dX7_wrongPlace_64 (fun h => by cases h)
  · refine j_aload_n C 0 dX7_wrongPlace_65 rfl rfl ?_
    obtain ⟨u14, h15, hf⟩ := bd hf
    refine j_cVI C [] gX7_wrongPlace_X7_used rfl hdX7_used ⟨⟨rfl, rfl⟩, Nat.le_of_ble_eq_true rfl, Nat.le_of_ble_eq_true rfl⟩ rfl (g_T hb) rfl (k_X7_used hb h15) dX7_wrongPlace_66 rfl (Nat.le_of_ble_eq_true rfl) ?_
    refine j_sipush C (v := 204) dX7_wrongPlace_69 (by decide) ?_
    refine j_iand C dX7_wrongPlace_72 ?_
    refine j_if_ne C 81 dX7_wrongPlace_73 (by decide) hf (fun hf => ?_) (fun hf => ?_)
    · refine j_bipush C (v := 65) dX7_wrongPlace_76 (by decide) ?_
      refine j_goto C 82 dX7_wrongPlace_78 (by decide) ?_
      cases hf
      exact ret _ _ dX7_wrongPlace_82 (fun h => by cases h)
    · refine j_iconst C (v := (-1)) dX7_wrongPlace_81 (by decide) ?_
      cases hf
      exact ret _ _ dX7_wrongPlace_82 (fun h => by cases h)
/-- BarrierLights$Table.copyFrom(LBarrierLights$Table;)V -/
def f_X7_copyFrom (b : Nat) (p1 : Nat) (K : Mem) : Option (Mem) := lt (kr K (b + 1) (va_cpy (K (p1 + 1)) (K (b + 1)) 0 0 64)) fun K1 => some K1
abbrev rmX7_copyFrom : Room := { frames := 1, cells := 0, slots := 0, locals := 40 }
theorem iX7_copyFrom_X7 : ∀ w ∈ u_ws RX7 TX7 1, w ∈ wsX7_copyFrom := fun _ h => List.mem_cons_of_mem _ (List.mem_append_right _ h)
theorem mX7_copyFrom_f9 : Cond.fieldLink RX7 9 "BarrierLights$Table" "entries" "[I" ∈ wsX7_copyFrom := by decide +kernel
theorem mX7_copyFrom_cp0 : Cond.methodLink RX7 15 arraycopyName ∈ wsX7_copyFrom := by decide +kernel
theorem mX7_copyFrom_cp1 : Cond.native arraycopyName ∈ wsX7_copyFrom := by decide +kernel
theorem mX7_copyFrom_cp2 : Cond.static arraycopyName ∈ wsX7_copyFrom := by decide +kernel
theorem mX7_copyFrom_cp3 : Cond.initialized "java/lang/System" ∈ wsX7_copyFrom := by decide +kernel
set_option maxRecDepth 100000 in
set_option maxHeartbeats 4000000 in
theorem k_X7_copyFrom {l : Launch} {D : va_G} {ad : Nat → Nat} {aI aZ aF : ClassId} {b : Nat} {p1 : Nat} (hb : isT b) (h1 : isT p1) {K : Mem} {u : Mem} (hf : f_X7_copyFrom b p1 K = some u) : cV (EC l D ad aI aZ aF) yX7_copyFrom wsX7_copyFrom rmX7_copyFrom [.ref (ad b), .ref (ad p1)] K u := by
  rw [f_X7_copyFrom] at hf
  refine j_entV (cc := cX7_copyFrom) (maxL := 2) (EC_ok l D ad aI aZ aF) (by decide) rfl (Nat.le_of_ble_eq_true rfl) (fun G C ret => ?_)
  refine j_sub [0, 1] (lv2 := [(0, .ref (ad b)), (1, .ref (ad p1))]) rfl ?_
  refine j_aload_n C 1 dX7_copyFrom_0 rfl rfl ?_
  refine j_get C 0 iX7_copyFrom_X7 (g_T h1) rfl (by decide) mX7_copyFrom_f9 rfl rfl dX7_copyFrom_1 ?_
  refine j_iconst C (v := 0) dX7_copyFrom_4 (by decide) ?_
  refine j_aload_n C 0 dX7_copyFrom_5 rfl rfl ?_
  refine j_get C 0 iX7_copyFrom_X7 (g_T hb) rfl (by decide) mX7_copyFrom_f9 rfl rfl dX7_copyFrom_6 ?_
  refine j_iconst C (v := 0) dX7_copyFrom_9 (by decide) ?_
  refine j_aload_n C 0 dX7_copyFrom_10 rfl rfl ?_
  refine j_get C 0 iX7_copyFrom_X7 (g_T hb) rfl (by decide) mX7_copyFrom_f9 rfl rfl dX7_copyFrom_11 ?_
  refine j_alen C (v := 64) 0 (g_Ta hb) rfl rfl dX7_copyFrom_14 ?_
  refine j_copy C 0 (kr K (b + 1) (va_cpy (K (p1 + 1)) (K (b + 1)) 0 0 64)) mX7_copyFrom_cp0 mX7_copyFrom_cp1 mX7_copyFrom_cp2 mX7_copyFrom_cp3 (g_Ta h1) (g_Ta hb) rfl rfl (by decide) (by decide) (by decide) (r_Ta hb _) (Nat.le_of_ble_eq_true rfl) (Nat.le_of_ble_eq_true rfl) dX7_copyFrom_15 hf (fun K1 hf => ?_)
  cases hf
  exact ret _ _ dX7_copyFrom_18
/-- BarrierLights$Ring.rest()V -/
def f_X6_rest (b : Nat) (K : Mem) : Option (Mem) := st K b 0 (-1) fun K1 => st K1 b 1 (-1) fun K2 => st K2 b 4 0 fun K3 => st K3 b 8 0 fun K4 => some K4
abbrev rmX6_rest : Room := { frames := 0, cells := 0, slots := 0, locals := 0 }
theorem iX6_rest_X6 : ∀ w ∈ u_ws RX6 TX6 10, w ∈ wsX6_rest := fun _ h => List.mem_cons_of_mem _ (List.mem_append_right _ h)
theorem mX6_rest_f9 : Cond.fieldLink RX6 9 "BarrierLights$Ring" "phase" "I" ∈ wsX6_rest := by decide +kernel
theorem mX6_rest_f15 : Cond.fieldLink RX6 15 "BarrierLights$Ring" "next" "I" ∈ wsX6_rest := by decide +kernel
theorem mX6_rest_f25 : Cond.fieldLink RX6 25 "BarrierLights$Ring" "lamps" "I" ∈ wsX6_rest := by decide +kernel
theorem mX6_rest_f37 : Cond.fieldLink RX6 37 "BarrierLights$Ring" "walkSign" "I" ∈ wsX6_rest := by decide +kernel
set_option maxRecDepth 100000 in
set_option maxHeartbeats 4000000 in
theorem k_X6_rest {l : Launch} {D : va_G} {ad : Nat → Nat} {aI aZ aF : ClassId} {b : Nat} (hb : isR b) {K : Mem} {u : Mem} (hf : f_X6_rest b K = some u) : cV (EC l D ad aI aZ aF) yX6_rest wsX6_rest rmX6_rest [.ref (ad b)] K u := by
  rw [f_X6_rest] at hf
  refine j_entV (cc := cX6_rest) (maxL := 1) (EC_ok l D ad aI aZ aF) (by decide) rfl (Nat.le_of_ble_eq_true rfl) (fun G C ret => ?_)
  refine j_sub [0] (lv2 := [(0, .ref (ad b))]) rfl ?_
  refine j_aload_n C 0 dX6_rest_0 rfl rfl ?_
  refine j_iconst C (v := (-1)) dX6_rest_1 (by decide) ?_
  refine j_put C (ty := .int) 0 iX6_rest_X6 tyX6 tyX6_ok nmX6 (g_R hb) (s_R_0 hb _) rfl (by decide) mX6_rest_f9 rfl rfl (by decide +kernel) rfl rfl (Nat.le_of_ble_eq_true rfl) dX6_rest_2 hf (fun K1 hf => ?_)
  refine j_aload_n C 0 dX6_rest_5 rfl rfl ?_
  refine j_iconst C (v := (-1)) dX6_rest_6 (by decide) ?_
  refine j_put C (ty := .int) 1 iX6_rest_X6 tyX6 tyX6_ok nmX6 (g_R hb) (s_R_1 hb _) rfl (by decide) mX6_rest_f15 rfl rfl (by decide +kernel) rfl rfl (Nat.le_of_ble_eq_true rfl) dX6_rest_7 hf (fun K2 hf => ?_)
  refine j_aload_n C 0 dX6_rest_10 rfl rfl ?_
  refine j_iconst C (v := 0) dX6_rest_11 (by decide) ?_
  refine j_put C (ty := .int) 4 iX6_rest_X6 tyX6 tyX6_ok nmX6 (g_R hb) (s_R_4 hb _) rfl (by decide) mX6_rest_f25 rfl rfl (by decide +kernel) rfl rfl (Nat.le_of_ble_eq_true rfl) dX6_rest_12 hf (fun K3 hf => ?_)
  refine j_aload_n C 0 dX6_rest_15 rfl rfl ?_
  refine j_iconst C (v := 0) dX6_rest_16 (by decide) ?_
  refine j_put C (ty := .int) 8 iX6_rest_X6 tyX6 tyX6_ok nmX6 (g_R hb) (s_R_8 hb _) rfl (by decide) mX6_rest_f37 rfl rfl (by decide +kernel) rfl rfl (Nat.le_of_ble_eq_true rfl) dX6_rest_17 hf (fun K4 hf => ?_)
  cases hf
  exact ret _ _ dX6_rest_20
/-- BarrierLights$Monitor.beginAnew()V -/
def f_X4_beginAnew_L7 (c0 : Nat) : Nat → Int32 → Mem → Option (Int32 × Mem)
  | 0, _, _ => none
  | n + 1, y1, K => if 8 ≤ y1 then (some (y1, K)) else (if inb y1 8 = true then (st K (c0 + 2) (ix y1) 0 fun K3 => if inb y1 8 = true then (st K3 (c0 + 3) (ix y1) 0 fun K4 => lt (y1 + 1) fun x5 => f_X4_beginAnew_L7 c0 n x5 K4) else none) else none)
def f_X4_beginAnew (b : Nat) (K : Mem) : Option (Mem) := st K b 3 0 fun K1 => lt 0 fun x2 => (f_X4_beginAnew_L7 b 70 x2 K1).bind fun v6 => some v6.2
abbrev rmX4_beginAnew : Room := { frames := 0, cells := 0, slots := 0, locals := 0 }
theorem iX4_beginAnew_X4 : ∀ w ∈ u_ws RX4 TX4 4, w ∈ wsX4_beginAnew := fun _ h => List.mem_cons_of_mem _ (List.mem_append_right _ h)
theorem mX4_beginAnew_f21 : Cond.fieldLink RX4 21 "BarrierLights$Monitor" "sawBefore" "Z" ∈ wsX4_beginAnew := by decide +kernel
theorem mX4_beginAnew_f15 : Cond.fieldLink RX4 15 "BarrierLights$Monitor" "shownBefore" "[I" ∈ wsX4_beginAnew := by decide +kernel
theorem mX4_beginAnew_f18 : Cond.fieldLink RX4 18 "BarrierLights$Monitor" "yellowTicks" "[I" ∈ wsX4_beginAnew := by decide +kernel
set_option maxRecDepth 100000 in
set_option maxHeartbeats 4000000 in
theorem lp_X4_beginAnew_L7 {l : Launch} {D : va_G} {ad : Nat → Nat} {aI aZ aF : ClassId} {G : jG} {c0 : Nat} (hc0 : isM c0) (C : jC (EC l D ad aI aZ aF) G cX4_beginAnew yX4_beginAnew.cls wsX4_beginAnew rmX4_beginAnew 2) : ∀ (n : Nat) (y1 : Int32) (K : Mem) (v : Int32 × Mem), f_X4_beginAnew_L7 c0 n y1 K = some v → jW (EC l D ad aI aZ aF) G v.2 33 [(0, .ref (ad c0)), (1, .int v.1)] [] → jW (EC l D ad aI aZ aF) G K 7 [(0, .ref (ad c0)), (1, .int y1)] [] := by
  intro n
  induction n with
  | zero =>
    intro y1 K v hf jj
    rw [f_X4_beginAnew_L7] at hf
    cases hf
  | succ n ih =>
    intro y1 K v hf jj
    rw [f_X4_beginAnew_L7] at hf
    refine j_iload_n C 1 dX4_beginAnew_7 rfl rfl ?_
    refine j_bipush C (v := 8) dX4_beginAnew_8 (by decide) ?_
    refine j_icmp_ge C 33 dX4_beginAnew_10 (by decide) hf (fun hf => ?_) (fun hf => ?_)
    · cases hf
      exact jj
    · refine j_aload_n C 0 dX4_beginAnew_13 rfl rfl ?_
      refine j_get C 1 iX4_beginAnew_X4 (g_M hc0) rfl (by decide) mX4_beginAnew_f15 rfl rfl dX4_beginAnew_14 ?_
      refine j_iload_n C 1 dX4_beginAnew_17 rfl rfl ?_
      refine j_iconst C (v := 0) dX4_beginAnew_18 (by decide) ?_
      refine j_iast C 0 (g_M2 hc0) (s_M2 hc0 _ _) rfl dX4_beginAnew_19 hf (fun K3 hf => ?_)
      refine j_aload_n C 0 dX4_beginAnew_20 rfl rfl ?_
      refine j_get C 2 iX4_beginAnew_X4 (g_M hc0) rfl (by decide) mX4_beginAnew_f18 rfl rfl dX4_beginAnew_21 ?_
      refine j_iload_n C 1 dX4_beginAnew_24 rfl rfl ?_
      refine j_iconst C (v := 0) dX4_beginAnew_25 (by decide) ?_
      refine j_iast C 0 (g_M3 hc0) (s_M3 hc0 _ _) rfl dX4_beginAnew_26 hf (fun K4 hf => ?_)
      refine j_iinc C (v := (y1 + 1)) 1 (fun y => [(1, .int y), (0, .ref (ad c0))]) dX4_beginAnew_27 rfl rfl (by decide) (fun _ => rfl) hf (fun x5 hf => ?_)
      refine j_goto C 7 dX4_beginAnew_30 (by decide) ?_
      refine j_sub [1, 0] rfl ?_
      exact ih _ _ _ hf jj
set_option maxRecDepth 100000 in
set_option maxHeartbeats 4000000 in
theorem k_X4_beginAnew {l : Launch} {D : va_G} {ad : Nat → Nat} {aI aZ aF : ClassId} {b : Nat} (hb : isM b) {K : Mem} {u : Mem} (hf : f_X4_beginAnew b K = some u) : cV (EC l D ad aI aZ aF) yX4_beginAnew wsX4_beginAnew rmX4_beginAnew [.ref (ad b)] K u := by
  rw [f_X4_beginAnew] at hf
  refine j_entV (cc := cX4_beginAnew) (maxL := 2) (EC_ok l D ad aI aZ aF) (by decide) rfl (Nat.le_of_ble_eq_true rfl) (fun G C ret => ?_)
  refine j_sub [0] (lv2 := [(0, .ref (ad b))]) rfl ?_
  refine j_aload_n C 0 dX4_beginAnew_0 rfl rfl ?_
  refine j_iconst C (v := 0) dX4_beginAnew_1 (by decide) ?_
  refine j_put C (ty := .boolean) 3 iX4_beginAnew_X4 tyX4 tyX4_ok nmX4 (g_M hb) (s_M_3 hb _) rfl (by decide) mX4_beginAnew_f21 rfl rfl (by decide +kernel) rfl rfl (Nat.le_of_ble_eq_true rfl) dX4_beginAnew_2 hf (fun K1 hf => ?_)
  refine j_iconst C (v := 0) dX4_beginAnew_5 (by decide) ?_
  refine j_istore_n C (fun y => [(1, .int y), (0, .ref (ad b))]) dX4_beginAnew_6 rfl (by decide) (fun _ => rfl) hf (fun x2 hf => ?_)
  obtain ⟨v6, h7, hf⟩ := bd hf
  refine j_sub [1, 0] (lv2 := [(0, .ref (ad b)), (1, .int x2)]) rfl ?_
  refine lp_X4_beginAnew_L7 hb C 70 _ _ _ h7 ?_
  cases hf
  exact ret _ _ dX4_beginAnew_33
/-- BarrierLights$Controller.start()V -/
def f_X0_start (b : Nat) (K : Mem) : Option (Mem) := st K b 11 0 fun K1 => (f_X6_rest (b + 16) K1).bind fun u2 => (f_X6_rest (b + 17) u2).bind fun u4 => st u4 b 12 1 fun K6 => st K6 b 13 (K6 b 10) fun K7 => st K7 b 14 0 fun K8 => (f_X4_beginAnew (b + 12) K8).bind fun u9 => some u9
abbrev rmX0_start : Room := { frames := 1, cells := 0, slots := 0, locals := 21 }
theorem iX0_start_X0 : ∀ w ∈ u_ws RX0 TX0 16, w ∈ wsX0_start := fun _ h => List.mem_cons_of_mem _ (List.mem_append_left _ (List.mem_append_left _ (List.mem_append_right _ h)))
theorem mX0_start_f70 : Cond.fieldLink RX0 70 "BarrierLights$Controller" "whyFlashing" "I" ∈ wsX0_start := by decide +kernel
theorem mX0_start_f52 : Cond.fieldLink RX0 52 "BarrierLights$Controller" "ring0" "LBarrierLights$Ring;" ∈ wsX0_start := by decide +kernel
theorem hdX6_rest : yX6_rest.cls = RX6 ∧ yX6_rest.cls ≠ "java/lang/invoke/MethodHandle" ∧ yX6_rest.cls ≠ "java/lang/invoke/VarHandle" ∧ (parseMethodDescriptor yX6_rest.desc).map (fun d => d.parameters.length) = some 0 := by decide +kernel
theorem mX0_start_f56 : Cond.fieldLink RX0 56 "BarrierLights$Controller" "ring1" "LBarrierLights$Ring;" ∈ wsX0_start := by decide +kernel
theorem mX0_start_f73 : Cond.fieldLink RX0 73 "BarrierLights$Controller" "side" "I" ∈ wsX0_start := by decide +kernel
theorem mX0_start_f67 : Cond.fieldLink RX0 67 "BarrierLights$Controller" "used" "I" ∈ wsX0_start := by decide +kernel
theorem mX0_start_f76 : Cond.fieldLink RX0 76 "BarrierLights$Controller" "calls" "I" ∈ wsX0_start := by decide +kernel
theorem mX0_start_f79 : Cond.fieldLink RX0 79 "BarrierLights$Controller" "walkCalls" "I" ∈ wsX0_start := by decide +kernel
theorem mX0_start_f45 : Cond.fieldLink RX0 45 "BarrierLights$Controller" "monitor" "LBarrierLights$Monitor;" ∈ wsX0_start := by decide +kernel
theorem hdX4_beginAnew : yX4_beginAnew.cls = RX4 ∧ yX4_beginAnew.cls ≠ "java/lang/invoke/MethodHandle" ∧ yX4_beginAnew.cls ≠ "java/lang/invoke/VarHandle" ∧ (parseMethodDescriptor yX4_beginAnew.desc).map (fun d => d.parameters.length) = some 0 := by decide +kernel
set_option maxRecDepth 100000 in
set_option maxHeartbeats 4000000 in
theorem k_X0_start {l : Launch} {D : va_G} {ad : Nat → Nat} {aI aZ aF : ClassId} {b : Nat} (hb : isC b) {K : Mem} {u : Mem} (hf : f_X0_start b K = some u) : cV (EC l D ad aI aZ aF) yX0_start wsX0_start rmX0_start [.ref (ad b)] K u := by
  rw [f_X0_start] at hf
  refine j_entV (cc := cX0_start) (maxL := 1) (EC_ok l D ad aI aZ aF) (by decide) rfl (Nat.le_of_ble_eq_true rfl) (fun G C ret => ?_)
  refine j_sub [0] (lv2 := [(0, .ref (ad b))]) rfl ?_
  refine j_aload_n C 0 dX0_start_0 rfl rfl ?_
  refine j_iconst C (v := 0) dX0_start_1 (by decide) ?_
  refine j_put C (ty := .int) 11 iX0_start_X0 tyX0 tyX0_ok nmX0 (g_C hb) (s_C_11 hb _) rfl (by decide) mX0_start_f70 rfl rfl (by decide +kernel) rfl rfl (Nat.le_of_ble_eq_true rfl) dX0_start_2 hf (fun K1 hf => ?_)
  refine j_aload_n C 0 dX0_start_5 rfl rfl ?_
  refine j_get C 6 iX0_start_X0 (g_C hb) rfl (by decide) mX0_start_f52 rfl rfl dX0_start_6 ?_
  obtain ⟨u2, h3, hf⟩ := bd hf
  refine j_cVV C [] gX0_start_X6_rest rfl hdX6_rest ⟨⟨rfl, rfl⟩, Nat.le_of_ble_eq_true rfl, Nat.le_of_ble_eq_true rfl⟩ rfl (g_R (isC_R0 hb)) rfl (k_X6_rest (isC_R0 hb) h3) dX0_start_9 rfl (Nat.le_of_ble_eq_true rfl) ?_
  refine j_aload_n C 0 dX0_start_12 rfl rfl ?_
  refine j_get C 7 iX0_start_X0 (g_C hb) rfl (by decide) mX0_start_f56 rfl rfl dX0_start_13 ?_
  obtain ⟨u4, h5, hf⟩ := bd hf
  refine j_cVV C [] gX0_start_X6_rest rfl hdX6_rest ⟨⟨rfl, rfl⟩, Nat.le_of_ble_eq_true rfl, Nat.le_of_ble_eq_true rfl⟩ rfl (g_R (isC_R1 hb)) rfl (k_X6_rest (isC_R1 hb) h5) dX0_start_16 rfl (Nat.le_of_ble_eq_true rfl) ?_
  refine j_aload_n C 0 dX0_start_19 rfl rfl ?_
  refine j_iconst C (v := 1) dX0_start_20 (by decide) ?_
  refine j_put C (ty := .int) 12 iX0_start_X0 tyX0 tyX0_ok nmX0 (g_C hb) (s_C_12 hb _) rfl (by decide) mX0_start_f73 rfl rfl (by decide +kernel) rfl rfl (Nat.le_of_ble_eq_true rfl) dX0_start_21 hf (fun K6 hf => ?_)
  refine j_aload_n C 0 dX0_start_24 rfl rfl ?_
  refine j_aload_n C 0 dX0_start_25 rfl rfl ?_
  refine j_get C 10 iX0_start_X0 (g_C hb) rfl (by decide) mX0_start_f67 rfl rfl dX0_start_26 ?_
  refine j_put C (ty := .int) 13 iX0_start_X0 tyX0 tyX0_ok nmX0 (g_C hb) (s_C_13 hb _) rfl (by decide) mX0_start_f76 rfl rfl (by decide +kernel) rfl rfl (Nat.le_of_ble_eq_true rfl) dX0_start_29 hf (fun K7 hf => ?_)
  refine j_aload_n C 0 dX0_start_32 rfl rfl ?_
  refine j_iconst C (v := 0) dX0_start_33 (by decide) ?_
  refine j_put C (ty := .int) 14 iX0_start_X0 tyX0 tyX0_ok nmX0 (g_C hb) (s_C_14 hb _) rfl (by decide) mX0_start_f79 rfl rfl (by decide +kernel) rfl rfl (Nat.le_of_ble_eq_true rfl) dX0_start_34 hf (fun K8 hf => ?_)
  refine j_aload_n C 0 dX0_start_37 rfl rfl ?_
  refine j_get C 5 iX0_start_X0 (g_C hb) rfl (by decide) mX0_start_f45 rfl rfl dX0_start_38 ?_
  obtain ⟨u9, h10, hf⟩ := bd hf
  refine j_cVV C [] gX0_start_X4_beginAnew rfl hdX4_beginAnew ⟨⟨rfl, rfl⟩, Nat.le_of_ble_eq_true rfl, Nat.le_of_ble_eq_true rfl⟩ rfl (g_M (isC_M hb)) rfl (k_X4_beginAnew (isC_M hb) h10) dX0_start_41 rfl (Nat.le_of_ble_eq_true rfl) ?_
  cases hf
  exact ret _ _ dX0_start_44
/-- BarrierLights$Controller.takeWrittenTable()Z -/
def f_X0_takeWrittenTable (b : Nat) (K : Mem) : Option (Int32 × Mem) := (f_X7_wrongPlace (b + 1) K).bind fun u1 => st K b 9 u1 fun K3 => if (K3 b 9) = (-1) then ((f_X7_copyFrom (b + 3) (b + 1) K3).bind fun u4 => (f_X7_used (b + 3) u4).bind fun u6 => st u4 b 10 u6 fun K8 => (f_X0_start b K8).bind fun u9 => some (1, u9)) else (some (0, K3))
abbrev rmX0_takeWrittenTable : Room := { frames := 4, cells := 0, slots := 0, locals := 88 }
theorem iX0_takeWrittenTable_X0 : ∀ w ∈ u_ws RX0 TX0 16, w ∈ wsX0_takeWrittenTable := fun _ h => List.mem_cons_of_mem _ (List.mem_append_left _ (List.mem_append_left _ (List.mem_append_left _ (List.mem_append_right _ h))))
theorem mX0_takeWrittenTable_f12 : Cond.fieldLink RX0 12 "BarrierLights$Controller" "written" "LBarrierLights$Table;" ∈ wsX0_takeWrittenTable := by decide +kernel
theorem hdX7_wrongPlace : yX7_wrongPlace.cls = RX7 ∧ yX7_wrongPlace.cls ≠ "java/lang/invoke/MethodHandle" ∧ yX7_wrongPlace.cls ≠ "java/lang/invoke/VarHandle" ∧ (parseMethodDescriptor yX7_wrongPlace.desc).map (fun d => d.parameters.length) = some 0 := by decide +kernel
theorem mX0_takeWrittenTable_f63 : Cond.fieldLink RX0 63 "BarrierLights$Controller" "wrongPlace" "I" ∈ wsX0_takeWrittenTable := by decide +kernel
theorem mX0_takeWrittenTable_f18 : Cond.fieldLink RX0 18 "BarrierLights$Controller" "table" "LBarrierLights$Table;" ∈ wsX0_takeWrittenTable := by decide +kernel
theorem hdX7_copyFrom : yX7_copyFrom.cls = RX7 ∧ yX7_copyFrom.cls ≠ "java/lang/invoke/MethodHandle" ∧ yX7_copyFrom.cls ≠ "java/lang/invoke/VarHandle" ∧ (parseMethodDescriptor yX7_copyFrom.desc).map (fun d => d.parameters.length) = some 1 := by decide +kernel
theorem mX0_takeWrittenTable_f67 : Cond.fieldLink RX0 67 "BarrierLights$Controller" "used" "I" ∈ wsX0_takeWrittenTable := by decide +kernel
theorem hdX0_start : yX0_start.cls = RX0 ∧ yX0_start.cls ≠ "java/lang/invoke/MethodHandle" ∧ yX0_start.cls ≠ "java/lang/invoke/VarHandle" ∧ (parseMethodDescriptor yX0_start.desc).map (fun d => d.parameters.length) = some 0 := by decide +kernel
set_option maxRecDepth 100000 in
set_option maxHeartbeats 4000000 in
theorem k_X0_takeWrittenTable {l : Launch} {D : va_G} {ad : Nat → Nat} {aI aZ aF : ClassId} {b : Nat} (hb : isC b) {K : Mem} {u : Int32 × Mem} (hf : f_X0_takeWrittenTable b K = some u) : cI (EC l D ad aI aZ aF) yX0_takeWrittenTable wsX0_takeWrittenTable rmX0_takeWrittenTable [.ref (ad b)] K u.1 u.2 := by
  rw [f_X0_takeWrittenTable] at hf
  refine j_entI (cc := cX0_takeWrittenTable) (maxL := 1) (EC_ok l D ad aI aZ aF) (Or.inr rfl) (by decide) rfl (Nat.le_of_ble_eq_true rfl) (fun G C ret => ?_)
  refine j_sub [0] (lv2 := [(0, .ref (ad b))]) rfl ?_
  refine j_aload_n C 0 dX0_takeWrittenTable_0 rfl rfl ?_
  refine j_aload_n C 0 dX0_takeWrittenTable_1 rfl rfl ?_
  refine j_get C 0 iX0_takeWrittenTable_X0 (g_C hb) rfl (by decide) mX0_takeWrittenTable_f12 rfl rfl dX0_takeWrittenTable_2 ?_
  obtain ⟨u1, h2, hf⟩ := bd hf
  refine j_cVI C [] gX0_takeWrittenTable_X7_wrongPlace rfl hdX7_wrongPlace ⟨⟨rfl, rfl⟩, Nat.le_of_ble_eq_true rfl, Nat.le_of_ble_eq_true rfl⟩ rfl (g_T (isC_T1 hb)) rfl (k_X7_wrongPlace (isC_T1 hb) h2) dX0_takeWrittenTable_5 rfl (Nat.le_of_ble_eq_true rfl) ?_
  refine j_put C (ty := .int) 9 iX0_takeWrittenTable_X0 tyX0 tyX0_ok nmX0 (g_C hb) (s_C_9 hb _) rfl (by decide) mX0_takeWrittenTable_f63 rfl rfl (by decide +kernel) rfl rfl (Nat.le_of_ble_eq_true rfl) dX0_takeWrittenTable_8 hf (fun K3 hf => ?_)
  refine j_aload_n C 0 dX0_takeWrittenTable_11 rfl rfl ?_
  refine j_get C 9 iX0_takeWrittenTable_X0 (g_C hb) rfl (by decide) mX0_takeWrittenTable_f63 rfl rfl dX0_takeWrittenTable_12 ?_
  refine j_iconst C (v := (-1)) dX0_takeWrittenTable_15 (by decide) ?_
  refine j_icmp_eq C 21 dX0_takeWrittenTable_16 (by decide) hf (fun hf => ?_) (fun hf => ?_)
  · refine j_aload_n C 0 dX0_takeWrittenTable_21 rfl rfl ?_
    refine j_get C 1 iX0_takeWrittenTable_X0 (g_C hb) rfl (by decide) mX0_takeWrittenTable_f18 rfl rfl dX0_takeWrittenTable_22 ?_
    refine j_aload_n C 0 dX0_takeWrittenTable_25 rfl rfl ?_
    refine j_get C 0 iX0_takeWrittenTable_X0 (g_C hb) rfl (by decide) mX0_takeWrittenTable_f12 rfl rfl dX0_takeWrittenTable_26 ?_
    obtain ⟨u4, h5, hf⟩ := bd hf
    refine j_cVV C [.ref (ad (b + 1))] gX0_takeWrittenTable_X7_copyFrom rfl hdX7_copyFrom ⟨⟨rfl, rfl⟩, Nat.le_of_ble_eq_true rfl, Nat.le_of_ble_eq_true rfl⟩ rfl (g_T (isC_T3 hb)) rfl (k_X7_copyFrom (isC_T3 hb) (isC_T1 hb) h5) dX0_takeWrittenTable_29 rfl (Nat.le_of_ble_eq_true rfl) ?_
    refine j_aload_n C 0 dX0_takeWrittenTable_32 rfl rfl ?_
    refine j_aload_n C 0 dX0_takeWrittenTable_33 rfl rfl ?_
    refine j_get C 1 iX0_takeWrittenTable_X0 (g_C hb) rfl (by decide) mX0_takeWrittenTable_f18 rfl rfl dX0_takeWrittenTable_34 ?_
    obtain ⟨u6, h7, hf⟩ := bd hf
    refine j_cVI C [] gX0_takeWrittenTable_X7_used rfl hdX7_used ⟨⟨rfl, rfl⟩, Nat.le_of_ble_eq_true rfl, Nat.le_of_ble_eq_true rfl⟩ rfl (g_T (isC_T3 hb)) rfl (k_X7_used (isC_T3 hb) h7) dX0_takeWrittenTable_37 rfl (Nat.le_of_ble_eq_true rfl) ?_
    refine j_put C (ty := .int) 10 iX0_takeWrittenTable_X0 tyX0 tyX0_ok nmX0 (g_C hb) (s_C_10 hb _) rfl (by decide) mX0_takeWrittenTable_f67 rfl rfl (by decide +kernel) rfl rfl (Nat.le_of_ble_eq_true rfl) dX0_takeWrittenTable_40 hf (fun K8 hf => ?_)
    refine j_aload_n C 0 dX0_takeWrittenTable_43 rfl rfl ?_
    obtain ⟨u9, h10, hf⟩ := bd hf
    refine j_cVV C [] gX0_takeWrittenTable_X0_start rfl hdX0_start ⟨⟨rfl, rfl⟩, Nat.le_of_ble_eq_true rfl, Nat.le_of_ble_eq_true rfl⟩ rfl (g_C hb) rfl (k_X0_start hb h10) dX0_takeWrittenTable_44 rfl (Nat.le_of_ble_eq_true rfl) ?_
    refine j_iconst C (v := 1) dX0_takeWrittenTable_47 (by decide) ?_
    cases hf
    exact ret _ _ dX0_takeWrittenTable_48 (fun _ => rfl)
  · refine j_iconst C (v := 0) dX0_takeWrittenTable_19 (by decide) ?_
    cases hf
    exact ret _ _ dX0_takeWrittenTable_20 (fun _ => rfl)
/-- BarrierLights$Controller.isOff()Z -/
def f_X0_isOff (b : Nat) (K : Mem) : Option (Int32) := if (K b 10) = 0 then (some 1) else (some 0)
abbrev rmX0_isOff : Room := { frames := 0, cells := 0, slots := 0, locals := 0 }
theorem iX0_isOff_X0 : ∀ w ∈ u_ws RX0 TX0 16, w ∈ wsX0_isOff := fun _ h => List.mem_cons_of_mem _ (List.mem_append_right _ h)
theorem mX0_isOff_f67 : Cond.fieldLink RX0 67 "BarrierLights$Controller" "used" "I" ∈ wsX0_isOff := by decide +kernel
set_option maxRecDepth 100000 in
set_option maxHeartbeats 4000000 in
theorem k_X0_isOff {l : Launch} {D : va_G} {ad : Nat → Nat} {aI aZ aF : ClassId} {b : Nat} (hb : isC b) {K : Mem} {u : Int32} (hf : f_X0_isOff b K = some u) : cI (EC l D ad aI aZ aF) yX0_isOff wsX0_isOff rmX0_isOff [.ref (ad b)] K u K := by
  rw [f_X0_isOff] at hf
  refine j_entI (cc := cX0_isOff) (maxL := 1) (EC_ok l D ad aI aZ aF) (Or.inr rfl) (by decide) rfl (Nat.le_of_ble_eq_true rfl) (fun G C ret => ?_)
  refine j_sub [0] (lv2 := [(0, .ref (ad b))]) rfl ?_
  refine j_aload_n C 0 dX0_isOff_0 rfl rfl ?_
  refine j_get C 10 iX0_isOff_X0 (g_C hb) rfl (by decide) mX0_isOff_f67 rfl rfl dX0_isOff_1 ?_
  refine j_if_ne C 11 dX0_isOff_4 (by decide) hf (fun hf => ?_) (fun hf => ?_)
  · refine j_iconst C (v := 1) dX0_isOff_7 (by decide) ?_
    refine j_goto C 12 dX0_isOff_8 (by decide) ?_
    cases hf
    exact ret _ _ dX0_isOff_12 (fun _ => rfl)
  · refine j_iconst C (v := 0) dX0_isOff_11 (by decide) ?_
    cases hf
    exact ret _ _ dX0_isOff_12 (fun _ => rfl)
/-- BarrierLights$Controller.takeButton(I)Z -/
def f_X0_takeButton (b : Nat) (p1 : Int32) (K : Mem) : Option (Int32 × Mem) := (f_X8_bit p1 K).bind fun u1 => (if ((K b 10) &&& u1) = 0 then (some 0) else ((f_X7_at (b + 3) p1 5 K).bind fun u6 => if u6 = 0 then (some 0) else (some 1)) : Option (Int32)).bind fun v3 => lt v3 fun x8 => if (K b 11) = 0 then (if x8 = 0 then (some (0, K)) else ((f_X8_bit p1 K).bind fun u9 => st K b 14 ((K b 14) ||| u9) fun K11 => some (1, K11))) else (some (0, K))
abbrev rmX0_takeButton : Room := { frames := 1, cells := 0, slots := 0, locals := 23 }
theorem iX0_takeButton_X0 : ∀ w ∈ u_ws RX0 TX0 16, w ∈ wsX0_takeButton := fun _ h => List.mem_cons_of_mem _ (List.mem_append_left _ (List.mem_append_right _ h))
theorem mX0_takeButton_f67 : Cond.fieldLink RX0 67 "BarrierLights$Controller" "used" "I" ∈ wsX0_takeButton := by decide +kernel
theorem mX0_takeButton_iX8 : Cond.initialized RX8 ∈ wsX0_takeButton := by decide +kernel
theorem mX0_takeButton_sX8_bit : Cond.static yX8_bit ∈ wsX0_takeButton := by decide +kernel
theorem mX0_takeButton_f18 : Cond.fieldLink RX0 18 "BarrierLights$Controller" "table" "LBarrierLights$Table;" ∈ wsX0_takeButton := by decide +kernel
theorem mX0_takeButton_f70 : Cond.fieldLink RX0 70 "BarrierLights$Controller" "whyFlashing" "I" ∈ wsX0_takeButton := by decide +kernel
theorem mX0_takeButton_f79 : Cond.fieldLink RX0 79 "BarrierLights$Controller" "walkCalls" "I" ∈ wsX0_takeButton := by decide +kernel
set_option maxRecDepth 100000 in
set_option maxHeartbeats 4000000 in
theorem k_X0_takeButton {l : Launch} {D : va_G} {ad : Nat → Nat} {aI aZ aF : ClassId} {b : Nat} {p1 : Int32} (hb : isC b) {K : Mem} {u : Int32 × Mem} (hf : f_X0_takeButton b p1 K = some u) : cI (EC l D ad aI aZ aF) yX0_takeButton wsX0_takeButton rmX0_takeButton [.ref (ad b), .int p1] K u.1 u.2 := by
  rw [f_X0_takeButton] at hf
  refine j_entI (cc := cX0_takeButton) (maxL := 3) (EC_ok l D ad aI aZ aF) (Or.inr rfl) (by decide) rfl (Nat.le_of_ble_eq_true rfl) (fun G C ret => ?_)
  refine j_sub [0, 1] (lv2 := [(0, .ref (ad b)), (1, .int p1)]) rfl ?_
  refine j_aload_n C 0 dX0_takeButton_0 rfl rfl ?_
  refine j_get C 10 iX0_takeButton_X0 (g_C hb) rfl (by decide) mX0_takeButton_f67 rfl rfl dX0_takeButton_1 ?_
  refine j_iload_n C 1 dX0_takeButton_4 rfl rfl ?_
  obtain ⟨u1, h2, hf⟩ := bd hf
  refine j_cNI C [.int p1] gX0_takeButton_X8_bit_n104 rfl nm_RX0_104 mX0_takeButton_iX8 mX0_takeButton_sX8_bit hdX8_bit.2 ⟨⟨rfl, rfl⟩, Nat.le_of_ble_eq_true rfl, Nat.le_of_ble_eq_true rfl⟩ rfl (k_X8_bit h2) dX0_takeButton_5 rfl (Nat.le_of_ble_eq_true rfl) ?_
  refine j_iand C dX0_takeButton_8 ?_
  obtain ⟨v3, h4, hf⟩ := bd hf
  have jj5 : jW (EC l D ad aI aZ aF) G K 29 [(0, .ref (ad b)), (1, .int p1)] [.int v3] := by
    refine j_istore_n C (fun y => [(2, .int y), (0, .ref (ad b)), (1, .int p1)]) dX0_takeButton_29 rfl (by decide) (fun _ => rfl) hf (fun x8 hf => ?_)
    refine j_aload_n C 1 dX0_takeButton_30 rfl rfl ?_
    refine j_get C 11 iX0_takeButton_X0 (g_C hb) rfl (by decide) mX0_takeButton_f70 rfl rfl dX0_takeButton_31 ?_
    refine j_if_ne C 41 dX0_takeButton_34 (by decide) hf (fun hf => ?_) (fun hf => ?_)
    · refine j_iload_n C 0 dX0_takeButton_37 rfl rfl ?_
      refine j_if_ne C 43 dX0_takeButton_38 (by decide) hf (fun hf => ?_) (fun hf => ?_)
      · refine j_iconst C (v := 0) dX0_takeButton_41 (by decide) ?_
        cases hf
        exact ret _ _ dX0_takeButton_42 (fun _ => rfl)
      · refine j_aload_n C 1 dX0_takeButton_43 rfl rfl ?_
        refine j_dup C dX0_takeButton_44 rfl ?_
        refine j_get C 14 iX0_takeButton_X0 (g_C hb) rfl (by decide) mX0_takeButton_f79 rfl rfl dX0_takeButton_45 ?_
        refine j_iload_n C 2 dX0_takeButton_48 rfl rfl ?_
        obtain ⟨u9, h10, hf⟩ := bd hf
        refine j_cNI C [.int p1] gX0_takeButton_X8_bit_n104 rfl nm_RX0_104 mX0_takeButton_iX8 mX0_takeButton_sX8_bit hdX8_bit.2 ⟨⟨rfl, rfl⟩, Nat.le_of_ble_eq_true rfl, Nat.le_of_ble_eq_true rfl⟩ rfl (k_X8_bit h10) dX0_takeButton_49 rfl (Nat.le_of_ble_eq_true rfl) ?_
        refine j_ior C dX0_takeButton_52 ?_
        refine j_put C (ty := .int) 14 iX0_takeButton_X0 tyX0 tyX0_ok nmX0 (g_C hb) (s_C_14 hb _) rfl (by decide) mX0_takeButton_f79 rfl rfl (by decide +kernel) rfl rfl (Nat.le_of_ble_eq_true rfl) dX0_takeButton_53 hf (fun K11 hf => ?_)
        refine j_iconst C (v := 1) dX0_takeButton_56 (by decide) ?_
        cases hf
        exact ret _ _ dX0_takeButton_57 (fun _ => rfl)
    · refine j_iconst C (v := 0) dX0_takeButton_41 (by decide) ?_
      cases hf
      exact ret _ _ dX0_takeButton_42 (fun _ => rfl)
  clear hf
  have hf := h4
  clear h4
  refine j_if_eq C 28 dX0_takeButton_9 (by decide) hf (fun hf => ?_) (fun hf => ?_)
  · refine j_iconst C (v := 0) dX0_takeButton_28 (by decide) ?_
    cases hf
    exact jj5
  · refine j_aload_n C 0 dX0_takeButton_12 rfl rfl ?_
    refine j_get C 1 iX0_takeButton_X0 (g_C hb) rfl (by decide) mX0_takeButton_f18 rfl rfl dX0_takeButton_13 ?_
    refine j_iload_n C 1 dX0_takeButton_16 rfl rfl ?_
    refine j_iconst C (v := 5) dX0_takeButton_17 (by decide) ?_
    obtain ⟨u6, h7, hf⟩ := bd hf
    refine j_cVI C [.int p1, .int 5] gX0_takeButton_X7_at rfl hdX7_at ⟨⟨rfl, rfl⟩, Nat.le_of_ble_eq_true rfl, Nat.le_of_ble_eq_true rfl⟩ rfl (g_T (isC_T3 hb)) rfl (k_X7_at (isC_T3 hb) h7) dX0_takeButton_18 rfl (Nat.le_of_ble_eq_true rfl) ?_
    refine j_if_eq C 28 dX0_takeButton_21 (by decide) hf (fun hf => ?_) (fun hf => ?_)
    · refine j_iconst C (v := 0) dX0_takeButton_28 (by decide) ?_
      cases hf
      exact jj5
    · refine j_iconst C (v := 1) dX0_takeButton_24 (by decide) ?_
      refine j_goto C 29 dX0_takeButton_25 (by decide) ?_
      cases hf
      exact jj5
/-- BarrierLights$Detectors.pass()V -/
def f_X1_pass_L7 (c0 : Nat) : Nat → Int32 → Mem → Option (Int32 × Mem)
  | 0, _, _ => none
  | n + 1, y1, K => if 8 ≤ y1 then (some (y1, K)) else ((f_X8_bit y1 K).bind fun u3 => (if ((K c0 2) &&& u3) = 0 then (some 0) else (some 1) : Option (Int32)).bind fun v5 => lt v5 fun x8 => (if x8 = 0 then (some 0) else (if inb y1 8 = true then (some (jmin ((K (c0 + 1) (ix y1)) + 1) 100)) else none) : Option (Int32)).bind fun v9 => if inb y1 8 = true then (st K (c0 + 1) (ix y1) v9 fun K12 => if inb y1 8 = true then ((if (K12 (c0 + 1) (ix y1)) < 60 then (some K12) else ((f_X8_bit y1 K12).bind fun u16 => st K12 c0 3 ((K12 c0 3) ||| u16) fun K18 => some K18) : Option (Mem)).bind fun v13 => if inb y1 8 = true then (if nn (FP.fmul (((v13 (c0 + 2) (ix y1))).toUInt32) 1063256064) = true then (lt (FP.fmul (((v13 (c0 + 2) (ix y1))).toUInt32) 1063256064) fun x19 => (if x8 = 0 then (some x19) else (if nn (FP.fadd x19 1040187392) = true then (some (FP.fadd x19 1040187392)) else none) : Option (UInt32)).bind fun v20 => if inb y1 8 = true then (st v13 (c0 + 2) (ix y1) (v20).toInt32 fun K23 => lt (y1 + 1) fun x24 => f_X1_pass_L7 c0 n x24 K23) else none) else none) else none) else none) else none)
def f_X1_pass (b : Nat) (K : Mem) : Option (Mem) := st K b 3 0 fun K1 => lt 0 fun x2 => (f_X1_pass_L7 b 70 x2 K1).bind fun v25 => some v25.2
abbrev rmX1_pass : Room := { frames := 1, cells := 0, slots := 0, locals := 40 }
theorem iX1_pass_X1 : ∀ w ∈ u_ws RX1 TX1 4, w ∈ wsX1_pass := fun _ h => List.mem_cons_of_mem _ (List.mem_append_right _ h)
theorem mX1_pass_f23 : Cond.fieldLink RX1 23 "BarrierLights$Detectors" "failed" "I" ∈ wsX1_pass := by decide +kernel
theorem mX1_pass_f19 : Cond.fieldLink RX1 19 "BarrierLights$Detectors" "on" "I" ∈ wsX1_pass := by decide +kernel
theorem mX1_pass_iX8 : Cond.initialized RX8 ∈ wsX1_pass := by decide +kernel
theorem mX1_pass_sX8_bit : Cond.static yX8_bit ∈ wsX1_pass := by decide +kernel
theorem mX1_pass_f9 : Cond.fieldLink RX1 9 "BarrierLights$Detectors" "onTimes" "[I" ∈ wsX1_pass := by decide +kernel
theorem mX1_pass_min0 : Cond.methodLink RX1 30 Lib.Math.min.name ∈ wsX1_pass := by decide +kernel
theorem mX1_pass_min1 : Cond.static Lib.Math.min.name ∈ wsX1_pass := by decide +kernel
theorem mX1_pass_min2 : Cond.initialized "java/lang/Math" ∈ wsX1_pass := by decide +kernel
theorem mX1_pass_min3 : Cond.code Lib.Math.min.name Lib.Math.min.code 2 (some .int) ∈ wsX1_pass := by decide +kernel
theorem mX1_pass_f15 : Cond.fieldLink RX1 15 "BarrierLights$Detectors" "occupancies" "[F" ∈ wsX1_pass := by decide +kernel
theorem mX1_pass_c36 : Cond.constantFloat RX1 36 1063256064 ∈ wsX1_pass := by decide +kernel
theorem mX1_pass_c37 : Cond.constantFloat RX1 37 1040187392 ∈ wsX1_pass := by decide +kernel
set_option maxRecDepth 100000 in
set_option maxHeartbeats 4000000 in
theorem lp_X1_pass_L7 {l : Launch} {D : va_G} {ad : Nat → Nat} {aI aZ aF : ClassId} {G : jG} {c0 : Nat} (hc0 : isD c0) (C : jC (EC l D ad aI aZ aF) G cX1_pass yX1_pass.cls wsX1_pass rmX1_pass 4) : ∀ (n : Nat) (y1 : Int32) (K : Mem) (v : Int32 × Mem), f_X1_pass_L7 c0 n y1 K = some v → jW (EC l D ad aI aZ aF) G v.2 116 [(0, .ref (ad c0)), (1, .int v.1)] [] → jW (EC l D ad aI aZ aF) G K 7 [(0, .ref (ad c0)), (1, .int y1)] [] := by
  intro n
  induction n with
  | zero =>
    intro y1 K v hf jj
    rw [f_X1_pass_L7] at hf
    cases hf
  | succ n ih =>
    intro y1 K v hf jj
    rw [f_X1_pass_L7] at hf
    refine j_iload_n C 1 dX1_pass_7 rfl rfl ?_
    refine j_bipush C (v := 8) dX1_pass_8 (by decide) ?_
    refine j_icmp_ge C 116 dX1_pass_10 (by decide) hf (fun hf => ?_) (fun hf => ?_)
    · cases hf
      exact jj
    · refine j_aload_n C 0 dX1_pass_13 rfl rfl ?_
      refine j_get C 2 iX1_pass_X1 (g_D hc0) rfl (by decide) mX1_pass_f19 rfl rfl dX1_pass_14 ?_
      refine j_iload_n C 1 dX1_pass_17 rfl rfl ?_
      obtain ⟨u3, h4, hf⟩ := bd hf
      refine j_cNI C [.int y1] gX1_pass_X8_bit_n26 rfl nm_RX1_26 mX1_pass_iX8 mX1_pass_sX8_bit hdX8_bit.2 ⟨⟨rfl, rfl⟩, Nat.le_of_ble_eq_true rfl, Nat.le_of_ble_eq_true rfl⟩ rfl (k_X8_bit h4) dX1_pass_18 rfl (Nat.le_of_ble_eq_true rfl) ?_
      refine j_iand C dX1_pass_21 ?_
      obtain ⟨v5, h6, hf⟩ := bd hf
      have jj7 : jW (EC l D ad aI aZ aF) G K 30 [(0, .ref (ad c0)), (1, .int y1)] [.int v5] := by
        refine j_istore_n C (fun y => [(2, .int y), (0, .ref (ad c0)), (1, .int y1)]) dX1_pass_30 rfl (by decide) (fun _ => rfl) hf (fun x8 hf => ?_)
        refine j_aload_n C 1 dX1_pass_31 rfl rfl ?_
        refine j_get C 0 iX1_pass_X1 (g_D hc0) rfl (by decide) mX1_pass_f9 rfl rfl dX1_pass_32 ?_
        refine j_iload_n C 2 dX1_pass_35 rfl rfl ?_
        refine j_iload_n C 0 dX1_pass_36 rfl rfl ?_
        obtain ⟨v9, h10, hf⟩ := bd hf
        have jj11 : jW (EC l D ad aI aZ aF) G K 57 [(0, .ref (ad c0)), (1, .int y1), (2, .int x8)] [.int v9, .int y1, .ref (ad (c0 + 1))] := by
          refine j_iast C 0 (g_D1 hc0) (s_D1 hc0 _ _) rfl dX1_pass_57 hf (fun K12 hf => ?_)
          refine j_aload_n C 0 dX1_pass_58 rfl rfl ?_
          refine j_get C 0 iX1_pass_X1 (g_D hc0) rfl (by decide) mX1_pass_f9 rfl rfl dX1_pass_59 ?_
          refine j_iload_n C 1 dX1_pass_62 rfl rfl ?_
          refine j_iald C 0 (g_D1 hc0) rfl dX1_pass_63 hf (fun hf => ?_)
          refine j_bipush C (v := 60) dX1_pass_64 (by decide) ?_
          obtain ⟨v13, h14, hf⟩ := bd hf
          have jj15 : jW (EC l D ad aI aZ aF) G v13 82 [(0, .ref (ad c0)), (1, .int y1), (2, .int x8)] [] := by
            refine j_aload_n C 0 dX1_pass_82 rfl rfl ?_
            refine j_get C 1 iX1_pass_X1 (g_D hc0) rfl (by decide) mX1_pass_f15 rfl rfl dX1_pass_83 ?_
            refine j_iload_n C 1 dX1_pass_86 rfl rfl ?_
            refine j_fald C 2 (g_D2 hc0) rfl dX1_pass_87 hf (fun hf => ?_)
            refine j_ldcf C mX1_pass_c36 dX1_pass_88 ?_
            refine j_fmul C dX1_pass_90 hf (fun hf => ?_)
            refine j_fstore_n C (fun y => [(3, .float y), (0, .ref (ad c0)), (1, .int y1), (2, .int x8)]) dX1_pass_91 rfl (by decide) (fun _ => rfl) hf (fun x19 hf => ?_)
            refine j_aload_n C 1 dX1_pass_92 rfl rfl ?_
            refine j_get C 1 iX1_pass_X1 (g_D hc0) rfl (by decide) mX1_pass_f15 rfl rfl dX1_pass_93 ?_
            refine j_iload_n C 2 dX1_pass_96 rfl rfl ?_
            refine j_iload_n C 3 dX1_pass_97 rfl rfl ?_
            obtain ⟨v20, h21, hf⟩ := bd hf
            have jj22 : jW (EC l D ad aI aZ aF) G v13 109 [(0, .ref (ad c0)), (1, .int y1), (2, .int x8), (3, .float x19)] [.float v20, .int y1, .ref (ad (c0 + 2))] := by
              refine j_fast C 2 (g_D2 hc0) (s_D2 hc0 _ _) rfl dX1_pass_109 hf (fun K23 hf => ?_)
              refine j_iinc C (v := (y1 + 1)) 1 (fun y => [(1, .int y), (0, .ref (ad c0)), (2, .int x8), (3, .float x19)]) dX1_pass_110 rfl rfl (by decide) (fun _ => rfl) hf (fun x24 hf => ?_)
              refine j_goto C 7 dX1_pass_113 (by decide) ?_
              refine j_sub [1, 0] rfl ?_
              exact ih _ _ _ hf jj
            clear hf
            have hf := h21
            clear h21
            refine j_if_eq C 108 dX1_pass_98 (by decide) hf (fun hf => ?_) (fun hf => ?_)
            · refine j_fload_n C 0 dX1_pass_108 rfl rfl ?_
              cases hf
              refine j_sub [1, 2, 3, 0] rfl ?_
              exact jj22
            · refine j_fload_n C 0 dX1_pass_101 rfl rfl ?_
              refine j_ldcf C mX1_pass_c37 dX1_pass_102 ?_
              refine j_fadd C dX1_pass_104 hf (fun hf => ?_)
              refine j_goto C 109 dX1_pass_105 (by decide) ?_
              cases hf
              refine j_sub [1, 2, 3, 0] rfl ?_
              exact jj22
          clear hf
          have hf := h14
          clear h14
          refine j_icmp_lt C 82 dX1_pass_66 (by decide) hf (fun hf => ?_) (fun hf => ?_)
          · cases hf
            exact jj15
          · refine j_aload_n C 0 dX1_pass_69 rfl rfl ?_
            refine j_dup C dX1_pass_70 rfl ?_
            refine j_get C 3 iX1_pass_X1 (g_D hc0) rfl (by decide) mX1_pass_f23 rfl rfl dX1_pass_71 ?_
            refine j_iload_n C 1 dX1_pass_74 rfl rfl ?_
            obtain ⟨u16, h17, hf⟩ := bd hf
            refine j_cNI C [.int y1] gX1_pass_X8_bit_n26 rfl nm_RX1_26 mX1_pass_iX8 mX1_pass_sX8_bit hdX8_bit.2 ⟨⟨rfl, rfl⟩, Nat.le_of_ble_eq_true rfl, Nat.le_of_ble_eq_true rfl⟩ rfl (k_X8_bit h17) dX1_pass_75 rfl (Nat.le_of_ble_eq_true rfl) ?_
            refine j_ior C dX1_pass_78 ?_
            refine j_put C (ty := .int) 3 iX1_pass_X1 tyX1 tyX1_ok nmX1 (g_D hc0) (s_D_3 hc0 _) rfl (by decide) mX1_pass_f23 rfl rfl (by decide +kernel) rfl rfl (Nat.le_of_ble_eq_true rfl) dX1_pass_79 hf (fun K18 hf => ?_)
            cases hf
            exact jj15
        clear hf
        have hf := h10
        clear h10
        refine j_if_eq C 56 dX1_pass_37 (by decide) hf (fun hf => ?_) (fun hf => ?_)
        · refine j_iconst C (v := 0) dX1_pass_56 (by decide) ?_
          cases hf
          refine j_sub [1, 2, 0] rfl ?_
          exact jj11
        · refine j_aload_n C 1 dX1_pass_40 rfl rfl ?_
          refine j_get C 0 iX1_pass_X1 (g_D hc0) rfl (by decide) mX1_pass_f9 rfl rfl dX1_pass_41 ?_
          refine j_iload_n C 2 dX1_pass_44 rfl rfl ?_
          refine j_iald C 0 (g_D1 hc0) rfl dX1_pass_45 hf (fun hf => ?_)
          refine j_iconst C (v := 1) dX1_pass_46 (by decide) ?_
          refine j_iadd C dX1_pass_47 ?_
          refine j_bipush C (v := 100) dX1_pass_48 (by decide) ?_
          refine j_mmin C mX1_pass_min0 mX1_pass_min1 mX1_pass_min2 mX1_pass_min3 (Nat.le_of_ble_eq_true rfl) (Nat.le_of_ble_eq_true rfl) dX1_pass_50 ?_
          refine j_goto C 57 dX1_pass_53 (by decide) ?_
          cases hf
          refine j_sub [1, 2, 0] rfl ?_
          exact jj11
      clear hf
      have hf := h6
      clear h6
      refine j_if_eq C 29 dX1_pass_22 (by decide) hf (fun hf => ?_) (fun hf => ?_)
      · refine j_iconst C (v := 0) dX1_pass_29 (by decide) ?_
        cases hf
        exact jj7
      · refine j_iconst C (v := 1) dX1_pass_25 (by decide) ?_
        refine j_goto C 30 dX1_pass_26 (by decide) ?_
        cases hf
        exact jj7
set_option maxRecDepth 100000 in
set_option maxHeartbeats 4000000 in
theorem k_X1_pass {l : Launch} {D : va_G} {ad : Nat → Nat} {aI aZ aF : ClassId} {b : Nat} (hb : isD b) {K : Mem} {u : Mem} (hf : f_X1_pass b K = some u) : cV (EC l D ad aI aZ aF) yX1_pass wsX1_pass rmX1_pass [.ref (ad b)] K u := by
  rw [f_X1_pass] at hf
  refine j_entV (cc := cX1_pass) (maxL := 4) (EC_ok l D ad aI aZ aF) (by decide) rfl (Nat.le_of_ble_eq_true rfl) (fun G C ret => ?_)
  refine j_sub [0] (lv2 := [(0, .ref (ad b))]) rfl ?_
  refine j_aload_n C 0 dX1_pass_0 rfl rfl ?_
  refine j_iconst C (v := 0) dX1_pass_1 (by decide) ?_
  refine j_put C (ty := .int) 3 iX1_pass_X1 tyX1 tyX1_ok nmX1 (g_D hb) (s_D_3 hb _) rfl (by decide) mX1_pass_f23 rfl rfl (by decide +kernel) rfl rfl (Nat.le_of_ble_eq_true rfl) dX1_pass_2 hf (fun K1 hf => ?_)
  refine j_iconst C (v := 0) dX1_pass_5 (by decide) ?_
  refine j_istore_n C (fun y => [(1, .int y), (0, .ref (ad b))]) dX1_pass_6 rfl (by decide) (fun _ => rfl) hf (fun x2 hf => ?_)
  obtain ⟨v25, h26, hf⟩ := bd hf
  refine j_sub [1, 0] (lv2 := [(0, .ref (ad b)), (1, .int x2)]) rfl ?_
  refine lp_X1_pass_L7 hb C 70 _ _ _ h26 ?_
  cases hf
  exact ret _ _ dX1_pass_116
/-- BarrierLights$Plans.isMade(I)Z -/
def f_X5_isMade (p1 : Int32) (K : Mem) : Option (Int32) := if p1 < 0 then (some 0) else (if 4 ≤ p1 then (some 0) else (if inb p1 4 = true then (if (K 2 (ix p1)) = 0 then (some 0) else (some 1)) else none))
abbrev rmX5_isMade : Room := { frames := 0, cells := 0, slots := 0, locals := 0 }
theorem iX5_isMade_X5 : ∀ w ∈ u_ws RX5 TX5 3, w ∈ wsX5_isMade := fun _ h => List.mem_cons_of_mem _ (List.mem_append_right _ h)
theorem mX5_isMade_f9 : Cond.fieldLink RX5 9 "BarrierLights$Plans" "cycles" "[I" ∈ wsX5_isMade := by decide +kernel
set_option maxRecDepth 100000 in
set_option maxHeartbeats 4000000 in
theorem k_X5_isMade {l : Launch} {D : va_G} {ad : Nat → Nat} {aI aZ aF : ClassId} {p1 : Int32} {K : Mem} {u : Int32} (hf : f_X5_isMade p1 K = some u) : cI (EC l D ad aI aZ aF) yX5_isMade wsX5_isMade rmX5_isMade [.ref (ad 1), .int p1] K u K := by
  rw [f_X5_isMade] at hf
  refine j_entI (cc := cX5_isMade) (maxL := 2) (EC_ok l D ad aI aZ aF) (Or.inr rfl) (by decide) rfl (Nat.le_of_ble_eq_true rfl) (fun G C ret => ?_)
  refine j_sub [0, 1] (lv2 := [(0, .ref (ad 1)), (1, .int p1)]) rfl ?_
  refine j_iload_n C 1 dX5_isMade_0 rfl rfl ?_
  refine j_if_lt C 22 dX5_isMade_1 (by decide) hf (fun hf => ?_) (fun hf => ?_)
  · refine j_iconst C (v := 0) dX5_isMade_22 (by decide) ?_
    cases hf
    exact ret _ _ dX5_isMade_23 (fun _ => rfl)
  · refine j_iload_n C 1 dX5_isMade_4 rfl rfl ?_
    refine j_iconst C (v := 4) dX5_isMade_5 (by decide) ?_
    refine j_icmp_ge C 22 dX5_isMade_6 (by decide) hf (fun hf => ?_) (fun hf => ?_)
    · refine j_iconst C (v := 0) dX5_isMade_22 (by decide) ?_
      cases hf
      exact ret _ _ dX5_isMade_23 (fun _ => rfl)
    · refine j_aload_n C 0 dX5_isMade_9 rfl rfl ?_
      refine j_get C 0 iX5_isMade_X5 g_1 rfl (by decide) mX5_isMade_f9 rfl rfl dX5_isMade_10 ?_
      refine j_iload_n C 1 dX5_isMade_13 rfl rfl ?_
      refine j_iald C 0 g_2 rfl dX5_isMade_14 hf (fun hf => ?_)
      refine j_if_eq C 22 dX5_isMade_15 (by decide) hf (fun hf => ?_) (fun hf => ?_)
      · refine j_iconst C (v := 0) dX5_isMade_22 (by decide) ?_
        cases hf
        exact ret _ _ dX5_isMade_23 (fun _ => rfl)
      · refine j_iconst C (v := 1) dX5_isMade_18 (by decide) ?_
        refine j_goto C 23 dX5_isMade_19 (by decide) ?_
        cases hf
        exact ret _ _ dX5_isMade_23 (fun _ => rfl)
/-- BarrierLights$Plans.cycleOf(I)I -/
def f_X5_cycleOf (p1 : Int32) (K : Mem) : Option (Int32) := (f_X5_isMade p1 K).bind fun u1 => if u1 = 0 then (some 0) else (if inb p1 4 = true then (some (K 2 (ix p1))) else none)
abbrev rmX5_cycleOf : Room := { frames := 1, cells := 0, slots := 0, locals := 21 }
theorem hdX5_isMade : yX5_isMade.cls = RX5 ∧ yX5_isMade.cls ≠ "java/lang/invoke/MethodHandle" ∧ yX5_isMade.cls ≠ "java/lang/invoke/VarHandle" ∧ (parseMethodDescriptor yX5_isMade.desc).map (fun d => d.parameters.length) = some 1 := by decide +kernel
theorem iX5_cycleOf_X5 : ∀ w ∈ u_ws RX5 TX5 3, w ∈ wsX5_cycleOf := fun _ h => List.mem_cons_of_mem _ (List.mem_append_right _ h)
theorem mX5_cycleOf_f9 : Cond.fieldLink RX5 9 "BarrierLights$Plans" "cycles" "[I" ∈ wsX5_cycleOf := by decide +kernel
set_option maxRecDepth 100000 in
set_option maxHeartbeats 4000000 in
theorem k_X5_cycleOf {l : Launch} {D : va_G} {ad : Nat → Nat} {aI aZ aF : ClassId} {p1 : Int32} {K : Mem} {u : Int32} (hf : f_X5_cycleOf p1 K = some u) : cI (EC l D ad aI aZ aF) yX5_cycleOf wsX5_cycleOf rmX5_cycleOf [.ref (ad 1), .int p1] K u K := by
  rw [f_X5_cycleOf] at hf
  refine j_entI (cc := cX5_cycleOf) (maxL := 2) (EC_ok l D ad aI aZ aF) (Or.inl rfl) (by decide) rfl (Nat.le_of_ble_eq_true rfl) (fun G C ret => ?_)
  refine j_sub [0, 1] (lv2 := [(0, .ref (ad 1)), (1, .int p1)]) rfl ?_
  refine j_aload_n C 0 dX5_cycleOf_0 rfl rfl ?_
  refine j_iload_n C 1 dX5_cycleOf_1 rfl rfl ?_
  obtain ⟨u1, h2, hf⟩ := bd hf
  refine j_cVI C [.int p1] gX5_cycleOf_X5_isMade rfl hdX5_isMade ⟨⟨rfl, rfl⟩, Nat.le_of_ble_eq_true rfl, Nat.le_of_ble_eq_true rfl⟩ rfl g_1 rfl (k_X5_isMade h2) dX5_cycleOf_2 rfl (Nat.le_of_ble_eq_true rfl) ?_
  refine j_if_eq C 17 dX5_cycleOf_5 (by decide) hf (fun hf => ?_) (fun hf => ?_)
  · refine j_iconst C (v := 0) dX5_cycleOf_17 (by decide) ?_
    cases hf
    exact ret _ _ dX5_cycleOf_18 (fun h => by cases h)
  · refine j_aload_n C 0 dX5_cycleOf_8 rfl rfl ?_
    refine j_get C 0 iX5_cycleOf_X5 g_1 rfl (by decide) mX5_cycleOf_f9 rfl rfl dX5_cycleOf_9 ?_
    refine j_iload_n C 1 dX5_cycleOf_12 rfl rfl ?_
    refine j_iald C 0 g_2 rfl dX5_cycleOf_13 hf (fun hf => ?_)
    refine j_goto C 18 dX5_cycleOf_14 (by decide) ?_
    cases hf
    exact ret _ _ dX5_cycleOf_18 (fun h => by cases h)
/-- java/lang/Math.floorMod(II)I -/
def f_J9_floorMod_7cf53 (p0 : Int32) (p1 : Int32) (K : Mem) : Option (Int32) := if p1 = 0 then none else (lt (jrem p0 p1) fun x1 => if 0 ≤ (p0 ^^^ p1) then (some x1) else (if x1 = 0 then (some x1) else (some (x1 + p1))))
abbrev rmJ9_floorMod_7cf53 : Room := { frames := 0, cells := 0, slots := 0, locals := 0 }
set_option maxRecDepth 100000 in
set_option maxHeartbeats 4000000 in
theorem k_J9_floorMod_7cf53 {l : Launch} {D : va_G} {ad : Nat → Nat} {aI aZ aF : ClassId} {p0 : Int32} {p1 : Int32} {K : Mem} {u : Int32} (hf : f_J9_floorMod_7cf53 p0 p1 K = some u) : cI (EC l D ad aI aZ aF) yJ9_floorMod_7cf53 wsJ9_floorMod_7cf53 rmJ9_floorMod_7cf53 [.int p0, .int p1] K u K := by
  rw [f_J9_floorMod_7cf53] at hf
  refine j_entIF (cc := cJ9_floorMod_7cf53) (maxL := 3) (EC_ok l D ad aI aZ aF) (Or.inl rfl) (by decide +kernel) rfl (Nat.le_of_ble_eq_true rfl) (fun G C ret => ?_)
  refine j_sub [0, 1] (lv2 := [(0, .int p0), (1, .int p1)]) rfl ?_
  refine j_iload_n C 0 dJ9_floorMod_7cf53_0 rfl rfl ?_
  refine j_iload_n C 1 dJ9_floorMod_7cf53_1 rfl rfl ?_
  refine j_irem_f C dJ9_floorMod_7cf53_2 hf (fun hf => ?_)
  refine j_istore_n C (fun y => [(2, .int y), (0, .int p0), (1, .int p1)]) dJ9_floorMod_7cf53_3 rfl (by decide) (fun _ => rfl) hf (fun x1 hf => ?_)
  refine j_iload_n C 1 dJ9_floorMod_7cf53_4 rfl rfl ?_
  refine j_iload_n C 2 dJ9_floorMod_7cf53_5 rfl rfl ?_
  refine j_ixor C dJ9_floorMod_7cf53_6 ?_
  refine j_if_ge C 18 dJ9_floorMod_7cf53_7 (by decide) hf (fun hf => ?_) (fun hf => ?_)
  · refine j_iload_n C 0 dJ9_floorMod_7cf53_18 rfl rfl ?_
    cases hf
    exact ret _ _ dJ9_floorMod_7cf53_19 (fun h => by cases h)
  · refine j_iload_n C 0 dJ9_floorMod_7cf53_10 rfl rfl ?_
    refine j_if_eq C 18 dJ9_floorMod_7cf53_11 (by decide) hf (fun hf => ?_) (fun hf => ?_)
    · refine j_iload_n C 0 dJ9_floorMod_7cf53_18 rfl rfl ?_
      cases hf
      exact ret _ _ dJ9_floorMod_7cf53_19 (fun h => by cases h)
    · refine j_iload_n C 0 dJ9_floorMod_7cf53_14 rfl rfl ?_
      refine j_iload_n C 2 dJ9_floorMod_7cf53_15 rfl rfl ?_
      refine j_iadd C dJ9_floorMod_7cf53_16 ?_
      cases hf
      exact ret _ _ dJ9_floorMod_7cf53_17 (fun h => by cases h)
/-- BarrierLights.wrap(II)I -/
def f_X8_wrap (p0 : Int32) (p1 : Int32) (K : Mem) : Option (Int32) := if p1 ≤ 0 then (some 0) else ((f_J9_floorMod_7cf53 p0 p1 K).bind fun u1 => some u1)
abbrev rmX8_wrap : Room := { frames := 1, cells := 0, slots := 0, locals := 22 }
theorem hdJ9_floorMod_7cf53 : yJ9_floorMod_7cf53.cls = RJ9 ∧ yJ9_floorMod_7cf53.cls ≠ "java/lang/invoke/MethodHandle" ∧ yJ9_floorMod_7cf53.cls ≠ "java/lang/invoke/VarHandle" ∧ (parseMethodDescriptor yJ9_floorMod_7cf53.desc).map (fun d => d.parameters.length) = some 2 := by decide +kernel
set_option maxRecDepth 100000 in
set_option maxHeartbeats 4000000 in
theorem k_X8_wrap {l : Launch} {D : va_G} {ad : Nat → Nat} {aI aZ aF : ClassId} {p0 : Int32} {p1 : Int32} {K : Mem} {u : Int32} (hf : f_X8_wrap p0 p1 K = some u) : cI (EC l D ad aI aZ aF) yX8_wrap wsX8_wrap rmX8_wrap [.int p0, .int p1] K u K := by
  rw [f_X8_wrap] at hf
  refine j_entI (cc := cX8_wrap) (maxL := 2) (EC_ok l D ad aI aZ aF) (Or.inl rfl) (by decide) rfl (Nat.le_of_ble_eq_true rfl) (fun G C ret => ?_)
  refine j_sub [0, 1] (lv2 := [(0, .int p0), (1, .int p1)]) rfl ?_
  refine j_iload_n C 1 dX8_wrap_0 rfl rfl ?_
  refine j_if_le C 12 dX8_wrap_1 (by decide) hf (fun hf => ?_) (fun hf => ?_)
  · refine j_iconst C (v := 0) dX8_wrap_12 (by decide) ?_
    cases hf
    exact ret _ _ dX8_wrap_13 (fun h => by cases h)
  · refine j_iload_n C 0 dX8_wrap_4 rfl rfl ?_
    refine j_iload_n C 1 dX8_wrap_5 rfl rfl ?_
    obtain ⟨u1, h2, hf⟩ := bd hf
    refine j_cSI C [.int p0, .int p1] gX8_wrap_J9_floorMod_7cf53 rfl hdJ9_floorMod_7cf53.2 ⟨⟨rfl, rfl⟩, Nat.le_of_ble_eq_true rfl, Nat.le_of_ble_eq_true rfl⟩ rfl (k_J9_floorMod_7cf53 h2) dX8_wrap_6 rfl (Nat.le_of_ble_eq_true rfl) ?_
    refine j_goto C 13 dX8_wrap_9 (by decide) ?_
    cases hf
    exact ret _ _ dX8_wrap_13 (fun h => by cases h)
/-- BarrierLights$Plans.offsetOf(I)I -/
def f_X5_offsetOf (p1 : Int32) (K : Mem) : Option (Int32) := (f_X5_isMade p1 K).bind fun u1 => if u1 = 0 then (some 0) else (if inb p1 4 = true then (some (K 3 (ix p1))) else none)
abbrev rmX5_offsetOf : Room := { frames := 1, cells := 0, slots := 0, locals := 21 }
theorem iX5_offsetOf_X5 : ∀ w ∈ u_ws RX5 TX5 3, w ∈ wsX5_offsetOf := fun _ h => List.mem_cons_of_mem _ (List.mem_append_right _ h)
theorem mX5_offsetOf_f15 : Cond.fieldLink RX5 15 "BarrierLights$Plans" "offsets" "[I" ∈ wsX5_offsetOf := by decide +kernel
set_option maxRecDepth 100000 in
set_option maxHeartbeats 4000000 in
theorem k_X5_offsetOf {l : Launch} {D : va_G} {ad : Nat → Nat} {aI aZ aF : ClassId} {p1 : Int32} {K : Mem} {u : Int32} (hf : f_X5_offsetOf p1 K = some u) : cI (EC l D ad aI aZ aF) yX5_offsetOf wsX5_offsetOf rmX5_offsetOf [.ref (ad 1), .int p1] K u K := by
  rw [f_X5_offsetOf] at hf
  refine j_entI (cc := cX5_offsetOf) (maxL := 2) (EC_ok l D ad aI aZ aF) (Or.inl rfl) (by decide) rfl (Nat.le_of_ble_eq_true rfl) (fun G C ret => ?_)
  refine j_sub [0, 1] (lv2 := [(0, .ref (ad 1)), (1, .int p1)]) rfl ?_
  refine j_aload_n C 0 dX5_offsetOf_0 rfl rfl ?_
  refine j_iload_n C 1 dX5_offsetOf_1 rfl rfl ?_
  obtain ⟨u1, h2, hf⟩ := bd hf
  refine j_cVI C [.int p1] gX5_offsetOf_X5_isMade rfl hdX5_isMade ⟨⟨rfl, rfl⟩, Nat.le_of_ble_eq_true rfl, Nat.le_of_ble_eq_true rfl⟩ rfl g_1 rfl (k_X5_isMade h2) dX5_offsetOf_2 rfl (Nat.le_of_ble_eq_true rfl) ?_
  refine j_if_eq C 17 dX5_offsetOf_5 (by decide) hf (fun hf => ?_) (fun hf => ?_)
  · refine j_iconst C (v := 0) dX5_offsetOf_17 (by decide) ?_
    cases hf
    exact ret _ _ dX5_offsetOf_18 (fun h => by cases h)
  · refine j_aload_n C 0 dX5_offsetOf_8 rfl rfl ?_
    refine j_get C 1 iX5_offsetOf_X5 g_1 rfl (by decide) mX5_offsetOf_f15 rfl rfl dX5_offsetOf_9 ?_
    refine j_iload_n C 1 dX5_offsetOf_12 rfl rfl ?_
    refine j_iald C 0 g_3 rfl dX5_offsetOf_13 hf (fun hf => ?_)
    refine j_goto C 18 dX5_offsetOf_14 (by decide) ?_
    cases hf
    exact ret _ _ dX5_offsetOf_18 (fun h => by cases h)
/-- BarrierLights$Link.shorterWay(II)I -/
def f_X3_shorterWay (p0 : Int32) (p1 : Int32) (K : Mem) : Option (Int32) := if p0 = 0 then (some 0) else (if (p1 - p0) < p0 then (some (-1)) else (some 1))
abbrev rmX3_shorterWay : Room := { frames := 0, cells := 0, slots := 0, locals := 0 }
set_option maxRecDepth 100000 in
set_option maxHeartbeats 4000000 in
theorem k_X3_shorterWay {l : Launch} {D : va_G} {ad : Nat → Nat} {aI aZ aF : ClassId} {p0 : Int32} {p1 : Int32} {K : Mem} {u : Int32} (hf : f_X3_shorterWay p0 p1 K = some u) : cI (EC l D ad aI aZ aF) yX3_shorterWay wsX3_shorterWay rmX3_shorterWay [.int p0, .int p1] K u K := by
  rw [f_X3_shorterWay] at hf
  refine j_entI (cc := cX3_shorterWay) (maxL := 2) (EC_ok l D ad aI aZ aF) (Or.inl rfl) (by decide) rfl (Nat.le_of_ble_eq_true rfl) (fun G C ret => ?_)
  refine j_sub [0, 1] (lv2 := [(0, .int p0), (1, .int p1)]) rfl ?_
  refine j_iload_n C 0 dX3_shorterWay_0 rfl rfl ?_
  refine j_if_ne C 6 dX3_shorterWay_1 (by decide) hf (fun hf => ?_) (fun hf => ?_)
  · refine j_iconst C (v := 0) dX3_shorterWay_4 (by decide) ?_
    cases hf
    exact ret _ _ dX3_shorterWay_5 (fun h => by cases h)
  · refine j_iload_n C 0 dX3_shorterWay_6 rfl rfl ?_
    refine j_iload_n C 1 dX3_shorterWay_7 rfl rfl ?_
    refine j_iload_n C 0 dX3_shorterWay_8 rfl rfl ?_
    refine j_isub C dX3_shorterWay_9 ?_
    refine j_icmp_gt C 17 dX3_shorterWay_10 (by decide) hf (fun hf => ?_) (fun hf => ?_)
    · refine j_iconst C (v := (-1)) dX3_shorterWay_17 (by decide) ?_
      cases hf
      exact ret _ _ dX3_shorterWay_18 (fun h => by cases h)
    · refine j_iconst C (v := 1) dX3_shorterWay_13 (by decide) ?_
      refine j_goto C 18 dX3_shorterWay_14 (by decide) ?_
      cases hf
      exact ret _ _ dX3_shorterWay_18 (fun h => by cases h)
/-- BarrierLights$Link.pass(LBarrierLights$Plans;I)V -/
def f_X3_pass (b : Nat) (p2 : Int32) (K : Mem) : Option (Mem) := if (K b 0) = (-1) then (some K) else (st K b 2 ((K b 2) + 1) fun K1 => if (K1 b 2) < 30 then ((f_X5_cycleOf (K1 b 0) K1).bind fun u2 => lt u2 fun x4 => (f_X8_wrap ((K1 b 1) + 1) x4 K1).bind fun u5 => st K1 b 1 u5 fun K7 => if (jrem p2 5) = 0 then ((f_X5_offsetOf (K7 b 0) K7).bind fun u8 => (f_X8_wrap ((p2 - u8) - (K7 b 1)) x4 K7).bind fun u10 => lt u10 fun x12 => (f_X3_shorterWay x12 x4 K7).bind fun u13 => (f_X8_wrap ((K7 b 1) + u13) x4 K7).bind fun u15 => st K7 b 1 u15 fun K17 => some K17) else (some K7)) else (st K1 b 0 (-1) fun K18 => some K18))
abbrev rmX3_pass : Room := { frames := 2, cells := 0, slots := 0, locals := 43 }
theorem iX3_pass_X3 : ∀ w ∈ u_ws RX3 TX3 4, w ∈ wsX3_pass := fun _ h => List.mem_cons_of_mem _ (List.mem_append_left _ (List.mem_append_right _ h))
theorem mX3_pass_f9 : Cond.fieldLink RX3 9 "BarrierLights$Link" "plan" "I" ∈ wsX3_pass := by decide +kernel
theorem mX3_pass_f18 : Cond.fieldLink RX3 18 "BarrierLights$Link" "silence" "I" ∈ wsX3_pass := by decide +kernel
theorem hdX5_cycleOf : yX5_cycleOf.cls = RX5 ∧ yX5_cycleOf.cls ≠ "java/lang/invoke/MethodHandle" ∧ yX5_cycleOf.cls ≠ "java/lang/invoke/VarHandle" ∧ (parseMethodDescriptor yX5_cycleOf.desc).map (fun d => d.parameters.length) = some 1 := by decide +kernel
theorem mX3_pass_f15 : Cond.fieldLink RX3 15 "BarrierLights$Link" "localClock" "I" ∈ wsX3_pass := by decide +kernel
theorem mX3_pass_iX8 : Cond.initialized RX8 ∈ wsX3_pass := by decide +kernel
theorem mX3_pass_sX8_wrap : Cond.static yX8_wrap ∈ wsX3_pass := by decide +kernel
theorem hdX8_wrap : yX8_wrap.cls = RX8 ∧ yX8_wrap.cls ≠ "java/lang/invoke/MethodHandle" ∧ yX8_wrap.cls ≠ "java/lang/invoke/VarHandle" ∧ (parseMethodDescriptor yX8_wrap.desc).map (fun d => d.parameters.length) = some 2 := by decide +kernel
theorem hdX5_offsetOf : yX5_offsetOf.cls = RX5 ∧ yX5_offsetOf.cls ≠ "java/lang/invoke/MethodHandle" ∧ yX5_offsetOf.cls ≠ "java/lang/invoke/VarHandle" ∧ (parseMethodDescriptor yX5_offsetOf.desc).map (fun d => d.parameters.length) = some 1 := by decide +kernel
theorem hdX3_shorterWay : yX3_shorterWay.cls = RX3 ∧ yX3_shorterWay.cls ≠ "java/lang/invoke/MethodHandle" ∧ yX3_shorterWay.cls ≠ "java/lang/invoke/VarHandle" ∧ (parseMethodDescriptor yX3_shorterWay.desc).map (fun d => d.parameters.length) = some 2 := by decide +kernel
set_option maxRecDepth 100000 in
set_option maxHeartbeats 4000000 in
theorem k_X3_pass {l : Launch} {D : va_G} {ad : Nat → Nat} {aI aZ aF : ClassId} {b : Nat} {p2 : Int32} (hb : isL b) {K : Mem} {u : Mem} (hf : f_X3_pass b p2 K = some u) : cV (EC l D ad aI aZ aF) yX3_pass wsX3_pass rmX3_pass [.ref (ad b), .ref (ad 1), .int p2] K u := by
  rw [f_X3_pass] at hf
  refine j_entV (cc := cX3_pass) (maxL := 5) (EC_ok l D ad aI aZ aF) (by decide) rfl (Nat.le_of_ble_eq_true rfl) (fun G C ret => ?_)
  refine j_sub [0, 1, 2] (lv2 := [(0, .ref (ad b)), (1, .ref (ad 1)), (2, .int p2)]) rfl ?_
  refine j_aload_n C 0 dX3_pass_0 rfl rfl ?_
  refine j_get C 0 iX3_pass_X3 (g_L hb) rfl (by decide) mX3_pass_f9 rfl rfl dX3_pass_1 ?_
  refine j_iconst C (v := (-1)) dX3_pass_4 (by decide) ?_
  refine j_icmp_ne C 9 dX3_pass_5 (by decide) hf (fun hf => ?_) (fun hf => ?_)
  · cases hf
    exact ret _ _ dX3_pass_8
  · refine j_aload_n C 0 dX3_pass_9 rfl rfl ?_
    refine j_dup C dX3_pass_10 rfl ?_
    refine j_get C 2 iX3_pass_X3 (g_L hb) rfl (by decide) mX3_pass_f18 rfl rfl dX3_pass_11 ?_
    refine j_iconst C (v := 1) dX3_pass_14 (by decide) ?_
    refine j_iadd C dX3_pass_15 ?_
    refine j_put C (ty := .int) 2 iX3_pass_X3 tyX3 tyX3_ok nmX3 (g_L hb) (s_L_2 hb _) rfl (by decide) mX3_pass_f18 rfl rfl (by decide +kernel) rfl rfl (Nat.le_of_ble_eq_true rfl) dX3_pass_16 hf (fun K1 hf => ?_)
    refine j_aload_n C 0 dX3_pass_19 rfl rfl ?_
    refine j_get C 2 iX3_pass_X3 (g_L hb) rfl (by decide) mX3_pass_f18 rfl rfl dX3_pass_20 ?_
    refine j_bipush C (v := 30) dX3_pass_23 (by decide) ?_
    refine j_icmp_lt C 34 dX3_pass_25 (by decide) hf (fun hf => ?_) (fun hf => ?_)
    · refine j_aload_n C 1 dX3_pass_34 rfl rfl ?_
      refine j_aload_n C 0 dX3_pass_35 rfl rfl ?_
      refine j_get C 0 iX3_pass_X3 (g_L hb) rfl (by decide) mX3_pass_f9 rfl rfl dX3_pass_36 ?_
      obtain ⟨u2, h3, hf⟩ := bd hf
      refine j_cVI C [.int ((K1 b 0))] gX3_pass_X5_cycleOf rfl hdX5_cycleOf ⟨⟨rfl, rfl⟩, Nat.le_of_ble_eq_true rfl, Nat.le_of_ble_eq_true rfl⟩ rfl g_1 rfl (k_X5_cycleOf h3) dX3_pass_39 rfl (Nat.le_of_ble_eq_true rfl) ?_
      refine j_istore_n C (fun y => [(3, .int y), (0, .ref (ad b)), (1, .ref (ad 1)), (2, .int p2)]) dX3_pass_42 rfl (by decide) (fun _ => rfl) hf (fun x4 hf => ?_)
      refine j_aload_n C 1 dX3_pass_43 rfl rfl ?_
      refine j_aload_n C 1 dX3_pass_44 rfl rfl ?_
      refine j_get C 1 iX3_pass_X3 (g_L hb) rfl (by decide) mX3_pass_f15 rfl rfl dX3_pass_45 ?_
      refine j_iconst C (v := 1) dX3_pass_48 (by decide) ?_
      refine j_iadd C dX3_pass_49 ?_
      refine j_iload_n C 0 dX3_pass_50 rfl rfl ?_
      obtain ⟨u5, h6, hf⟩ := bd hf
      refine j_cNI C [.int (((K1 b 1) + 1)), .int x4] gX3_pass_X8_wrap_n24 rfl nm_RX3_24 mX3_pass_iX8 mX3_pass_sX8_wrap hdX8_wrap.2 ⟨⟨rfl, rfl⟩, Nat.le_of_ble_eq_true rfl, Nat.le_of_ble_eq_true rfl⟩ rfl (k_X8_wrap h6) dX3_pass_51 rfl (Nat.le_of_ble_eq_true rfl) ?_
      refine j_put C (ty := .int) 1 iX3_pass_X3 tyX3 tyX3_ok nmX3 (g_L hb) (s_L_1 hb _) rfl (by decide) mX3_pass_f15 rfl rfl (by decide +kernel) rfl rfl (Nat.le_of_ble_eq_true rfl) dX3_pass_54 hf (fun K7 hf => ?_)
      refine j_iload_n C 3 dX3_pass_57 rfl rfl ?_
      refine j_iconst C (v := 5) dX3_pass_58 (by decide) ?_
      refine j_irem C dX3_pass_59 (by decide) ?_
      refine j_if_ne C 103 dX3_pass_60 (by decide) hf (fun hf => ?_) (fun hf => ?_)
      · refine j_iload_n C 3 dX3_pass_63 rfl rfl ?_
        refine j_aload_n C 2 dX3_pass_64 rfl rfl ?_
        refine j_aload_n C 1 dX3_pass_65 rfl rfl ?_
        refine j_get C 0 iX3_pass_X3 (g_L hb) rfl (by decide) mX3_pass_f9 rfl rfl dX3_pass_66 ?_
        obtain ⟨u8, h9, hf⟩ := bd hf
        refine j_cVI C [.int ((K7 b 0))] gX3_pass_X5_offsetOf rfl hdX5_offsetOf ⟨⟨rfl, rfl⟩, Nat.le_of_ble_eq_true rfl, Nat.le_of_ble_eq_true rfl⟩ rfl g_1 rfl (k_X5_offsetOf h9) dX3_pass_69 rfl (Nat.le_of_ble_eq_true rfl) ?_
        refine j_isub C dX3_pass_72 ?_
        refine j_aload_n C 1 dX3_pass_73 rfl rfl ?_
        refine j_get C 1 iX3_pass_X3 (g_L hb) rfl (by decide) mX3_pass_f15 rfl rfl dX3_pass_74 ?_
        refine j_isub C dX3_pass_77 ?_
        refine j_iload_n C 0 dX3_pass_78 rfl rfl ?_
        obtain ⟨u10, h11, hf⟩ := bd hf
        refine j_cNI C [.int (((p2 - u8) - (K7 b 1))), .int x4] gX3_pass_X8_wrap_n24 rfl nm_RX3_24 mX3_pass_iX8 mX3_pass_sX8_wrap hdX8_wrap.2 ⟨⟨rfl, rfl⟩, Nat.le_of_ble_eq_true rfl, Nat.le_of_ble_eq_true rfl⟩ rfl (k_X8_wrap h11) dX3_pass_79 rfl (Nat.le_of_ble_eq_true rfl) ?_
        refine j_istore C (fun y => [(4, .int y), (3, .int x4), (0, .ref (ad b)), (1, .ref (ad 1)), (2, .int p2)]) dX3_pass_82 (by decide) (fun _ => rfl) hf (fun x12 hf => ?_)
        refine j_aload_n C 2 dX3_pass_84 rfl rfl ?_
        refine j_aload_n C 2 dX3_pass_85 rfl rfl ?_
        refine j_get C 1 iX3_pass_X3 (g_L hb) rfl (by decide) mX3_pass_f15 rfl rfl dX3_pass_86 ?_
        refine j_iload C 0 dX3_pass_89 rfl ?_
        refine j_iload_n C 1 dX3_pass_91 rfl rfl ?_
        obtain ⟨u13, h14, hf⟩ := bd hf
        refine j_cSI C [.int x12, .int x4] gX3_pass_X3_shorterWay rfl hdX3_shorterWay.2 ⟨⟨rfl, rfl⟩, Nat.le_of_ble_eq_true rfl, Nat.le_of_ble_eq_true rfl⟩ rfl (k_X3_shorterWay h14) dX3_pass_92 rfl (Nat.le_of_ble_eq_true rfl) ?_
        refine j_iadd C dX3_pass_95 ?_
        refine j_iload_n C 1 dX3_pass_96 rfl rfl ?_
        obtain ⟨u15, h16, hf⟩ := bd hf
        refine j_cNI C [.int (((K7 b 1) + u13)), .int x4] gX3_pass_X8_wrap_n24 rfl nm_RX3_24 mX3_pass_iX8 mX3_pass_sX8_wrap hdX8_wrap.2 ⟨⟨rfl, rfl⟩, Nat.le_of_ble_eq_true rfl, Nat.le_of_ble_eq_true rfl⟩ rfl (k_X8_wrap h16) dX3_pass_97 rfl (Nat.le_of_ble_eq_true rfl) ?_
        refine j_put C (ty := .int) 1 iX3_pass_X3 tyX3 tyX3_ok nmX3 (g_L hb) (s_L_1 hb _) rfl (by decide) mX3_pass_f15 rfl rfl (by decide +kernel) rfl rfl (Nat.le_of_ble_eq_true rfl) dX3_pass_100 hf (fun K17 hf => ?_)
        cases hf
        exact ret _ _ dX3_pass_103
      · cases hf
        exact ret _ _ dX3_pass_103
    · refine j_aload_n C 0 dX3_pass_28 rfl rfl ?_
      refine j_iconst C (v := (-1)) dX3_pass_29 (by decide) ?_
      refine j_put C (ty := .int) 0 iX3_pass_X3 tyX3 tyX3_ok nmX3 (g_L hb) (s_L_0 hb _) rfl (by decide) mX3_pass_f9 rfl rfl (by decide +kernel) rfl rfl (Nat.le_of_ble_eq_true rfl) dX3_pass_30 hf (fun K18 hf => ?_)
      cases hf
      exact ret _ _ dX3_pass_33
/-- BarrierLights.ringOf(I)I -/
def f_X8_ringOf (p0 : Int32) (K : Mem) : Option (Int32) := if 4 ≤ p0 then (some 1) else (some 0)
abbrev rmX8_ringOf : Room := { frames := 0, cells := 0, slots := 0, locals := 0 }
set_option maxRecDepth 100000 in
set_option maxHeartbeats 4000000 in
theorem k_X8_ringOf {l : Launch} {D : va_G} {ad : Nat → Nat} {aI aZ aF : ClassId} {p0 : Int32} {K : Mem} {u : Int32} (hf : f_X8_ringOf p0 K = some u) : cI (EC l D ad aI aZ aF) yX8_ringOf wsX8_ringOf rmX8_ringOf [.int p0] K u K := by
  rw [f_X8_ringOf] at hf
  refine j_entI (cc := cX8_ringOf) (maxL := 1) (EC_ok l D ad aI aZ aF) (Or.inl rfl) (by decide) rfl (Nat.le_of_ble_eq_true rfl) (fun G C ret => ?_)
  refine j_sub [0] (lv2 := [(0, .int p0)]) rfl ?_
  refine j_iload_n C 0 dX8_ringOf_0 rfl rfl ?_
  refine j_iconst C (v := 4) dX8_ringOf_1 (by decide) ?_
  refine j_icmp_ge C 9 dX8_ringOf_2 (by decide) hf (fun hf => ?_) (fun hf => ?_)
  · refine j_iconst C (v := 1) dX8_ringOf_9 (by decide) ?_
    cases hf
    exact ret _ _ dX8_ringOf_10 (fun h => by cases h)
  · refine j_iconst C (v := 0) dX8_ringOf_5 (by decide) ?_
    refine j_goto C 10 dX8_ringOf_6 (by decide) ?_
    cases hf
    exact ret _ _ dX8_ringOf_10 (fun h => by cases h)
/-- BarrierLights$Controller.ring(I)LBarrierLights$Ring; -/
def f_X0_ring (b : Nat) (p1 : Int32) (K : Mem) : Option (Nat) := if p1 = 0 then (some (b + 16)) else (some (b + 17))
abbrev rmX0_ring : Room := { frames := 0, cells := 0, slots := 0, locals := 0 }
theorem iX0_ring_X0 : ∀ w ∈ u_ws RX0 TX0 16, w ∈ wsX0_ring := fun _ h => List.mem_cons_of_mem _ (List.mem_append_right _ h)
theorem mX0_ring_f52 : Cond.fieldLink RX0 52 "BarrierLights$Controller" "ring0" "LBarrierLights$Ring;" ∈ wsX0_ring := by decide +kernel
theorem mX0_ring_f56 : Cond.fieldLink RX0 56 "BarrierLights$Controller" "ring1" "LBarrierLights$Ring;" ∈ wsX0_ring := by decide +kernel
set_option maxRecDepth 100000 in
set_option maxHeartbeats 4000000 in
theorem k_X0_ring {l : Launch} {D : va_G} {ad : Nat → Nat} {aI aZ aF : ClassId} {b : Nat} {p1 : Int32} (hb : isC b) {K : Mem} {u : Nat} (hf : f_X0_ring b p1 K = some u) : cQ (EC l D ad aI aZ aF) yX0_ring wsX0_ring rmX0_ring [.ref (ad b), .int p1] K (some (ad u)) K := by
  rw [f_X0_ring] at hf
  refine j_entQ (cc := cX0_ring) (maxL := 2) (EC_ok l D ad aI aZ aF) (by decide) rfl (Nat.le_of_ble_eq_true rfl) (fun G C ret => ?_)
  refine j_sub [0, 1] (lv2 := [(0, .ref (ad b)), (1, .int p1)]) rfl ?_
  refine j_iload_n C 1 dX0_ring_0 rfl rfl ?_
  refine j_if_ne C 11 dX0_ring_1 (by decide) hf (fun hf => ?_) (fun hf => ?_)
  · refine j_aload_n C 0 dX0_ring_4 rfl rfl ?_
    refine j_get C 6 iX0_ring_X0 (g_C hb) rfl (by decide) mX0_ring_f52 rfl rfl dX0_ring_5 ?_
    refine j_goto C 15 dX0_ring_8 (by decide) ?_
    cases hf
    exact ret _ _ dX0_ring_15
  · refine j_aload_n C 0 dX0_ring_11 rfl rfl ?_
    refine j_get C 7 iX0_ring_X0 (g_C hb) rfl (by decide) mX0_ring_f56 rfl rfl dX0_ring_12 ?_
    cases hf
    exact ret _ _ dX0_ring_15
theorem q_X0_ring {b : Nat} {p1 : Int32} (hb : isC b) {K : Mem} {u : Nat} (h : f_X0_ring b p1 K = some u) : isR u := by
  rw [f_X0_ring] at h
  by_cases h0 : p1 = 0
  · rw [if_pos h0] at h
    cases h
    exact isC_R0 hb
  · rw [if_neg h0] at h
    cases h
    exact isC_R1 hb
/-- BarrierLights$Ring.isGreen()Z -/
def f_X6_isGreen (b : Nat) (K : Mem) : Option (Int32) := if (K b 4) = 4 then (some 1) else (some 0)
abbrev rmX6_isGreen : Room := { frames := 0, cells := 0, slots := 0, locals := 0 }
theorem iX6_isGreen_X6 : ∀ w ∈ u_ws RX6 TX6 10, w ∈ wsX6_isGreen := fun _ h => List.mem_cons_of_mem _ (List.mem_append_right _ h)
theorem mX6_isGreen_f25 : Cond.fieldLink RX6 25 "BarrierLights$Ring" "lamps" "I" ∈ wsX6_isGreen := by decide +kernel
set_option maxRecDepth 100000 in
set_option maxHeartbeats 4000000 in
theorem k_X6_isGreen {l : Launch} {D : va_G} {ad : Nat → Nat} {aI aZ aF : ClassId} {b : Nat} (hb : isR b) {K : Mem} {u : Int32} (hf : f_X6_isGreen b K = some u) : cI (EC l D ad aI aZ aF) yX6_isGreen wsX6_isGreen rmX6_isGreen [.ref (ad b)] K u K := by
  rw [f_X6_isGreen] at hf
  refine j_entI (cc := cX6_isGreen) (maxL := 1) (EC_ok l D ad aI aZ aF) (Or.inr rfl) (by decide) rfl (Nat.le_of_ble_eq_true rfl) (fun G C ret => ?_)
  refine j_sub [0] (lv2 := [(0, .ref (ad b))]) rfl ?_
  refine j_aload_n C 0 dX6_isGreen_0 rfl rfl ?_
  refine j_get C 4 iX6_isGreen_X6 (g_R hb) rfl (by decide) mX6_isGreen_f25 rfl rfl dX6_isGreen_1 ?_
  refine j_iconst C (v := 4) dX6_isGreen_4 (by decide) ?_
  refine j_icmp_ne C 12 dX6_isGreen_5 (by decide) hf (fun hf => ?_) (fun hf => ?_)
  · refine j_iconst C (v := 1) dX6_isGreen_8 (by decide) ?_
    refine j_goto C 13 dX6_isGreen_9 (by decide) ?_
    cases hf
    exact ret _ _ dX6_isGreen_13 (fun _ => rfl)
  · refine j_iconst C (v := 0) dX6_isGreen_12 (by decide) ?_
    cases hf
    exact ret _ _ dX6_isGreen_13 (fun _ => rfl)
/-- BarrierLights$Detectors.extendsGreen(I)Z -/
def f_X1_extendsGreen (b : Nat) (p1 : Int32) (K : Mem) : Option (Int32) := (f_X8_bit p1 K).bind fun u1 => if (((K b 2) &&& ((K b 3) ^^^ (-1))) &&& u1) = 0 then (some 0) else (some 1)
abbrev rmX1_extendsGreen : Room := { frames := 1, cells := 0, slots := 0, locals := 20 }
theorem iX1_extendsGreen_X1 : ∀ w ∈ u_ws RX1 TX1 4, w ∈ wsX1_extendsGreen := fun _ h => List.mem_cons_of_mem _ (List.mem_append_right _ h)
theorem mX1_extendsGreen_f19 : Cond.fieldLink RX1 19 "BarrierLights$Detectors" "on" "I" ∈ wsX1_extendsGreen := by decide +kernel
theorem mX1_extendsGreen_f23 : Cond.fieldLink RX1 23 "BarrierLights$Detectors" "failed" "I" ∈ wsX1_extendsGreen := by decide +kernel
theorem mX1_extendsGreen_iX8 : Cond.initialized RX8 ∈ wsX1_extendsGreen := by decide +kernel
theorem mX1_extendsGreen_sX8_bit : Cond.static yX8_bit ∈ wsX1_extendsGreen := by decide +kernel
set_option maxRecDepth 100000 in
set_option maxHeartbeats 4000000 in
theorem k_X1_extendsGreen {l : Launch} {D : va_G} {ad : Nat → Nat} {aI aZ aF : ClassId} {b : Nat} {p1 : Int32} (hb : isD b) {K : Mem} {u : Int32} (hf : f_X1_extendsGreen b p1 K = some u) : cI (EC l D ad aI aZ aF) yX1_extendsGreen wsX1_extendsGreen rmX1_extendsGreen [.ref (ad b), .int p1] K u K := by
  rw [f_X1_extendsGreen] at hf
  refine j_entI (cc := cX1_extendsGreen) (maxL := 2) (EC_ok l D ad aI aZ aF) (Or.inr rfl) (by decide) rfl (Nat.le_of_ble_eq_true rfl) (fun G C ret => ?_)
  refine j_sub [0, 1] (lv2 := [(0, .ref (ad b)), (1, .int p1)]) rfl ?_
  refine j_aload_n C 0 dX1_extendsGreen_0 rfl rfl ?_
  refine j_get C 2 iX1_extendsGreen_X1 (g_D hb) rfl (by decide) mX1_extendsGreen_f19 rfl rfl dX1_extendsGreen_1 ?_
  refine j_aload_n C 0 dX1_extendsGreen_4 rfl rfl ?_
  refine j_get C 3 iX1_extendsGreen_X1 (g_D hb) rfl (by decide) mX1_extendsGreen_f23 rfl rfl dX1_extendsGreen_5 ?_
  refine j_iconst C (v := (-1)) dX1_extendsGreen_8 (by decide) ?_
  refine j_ixor C dX1_extendsGreen_9 ?_
  refine j_iand C dX1_extendsGreen_10 ?_
  refine j_iload_n C 1 dX1_extendsGreen_11 rfl rfl ?_
  obtain ⟨u1, h2, hf⟩ := bd hf
  refine j_cNI C [.int p1] gX1_extendsGreen_X8_bit_n26 rfl nm_RX1_26 mX1_extendsGreen_iX8 mX1_extendsGreen_sX8_bit hdX8_bit.2 ⟨⟨rfl, rfl⟩, Nat.le_of_ble_eq_true rfl, Nat.le_of_ble_eq_true rfl⟩ rfl (k_X8_bit h2) dX1_extendsGreen_12 rfl (Nat.le_of_ble_eq_true rfl) ?_
  refine j_iand C dX1_extendsGreen_15 ?_
  refine j_if_eq C 23 dX1_extendsGreen_16 (by decide) hf (fun hf => ?_) (fun hf => ?_)
  · refine j_iconst C (v := 0) dX1_extendsGreen_23 (by decide) ?_
    cases hf
    exact ret _ _ dX1_extendsGreen_24 (fun _ => rfl)
  · refine j_iconst C (v := 1) dX1_extendsGreen_19 (by decide) ?_
    refine j_goto C 24 dX1_extendsGreen_20 (by decide) ?_
    cases hf
    exact ret _ _ dX1_extendsGreen_24 (fun _ => rfl)
/-- BarrierLights$Controller.passGap(LBarrierLights$Ring;)V -/
def f_X0_passGap (b : Nat) (p1 : Nat) (K : Mem) : Option (Mem) := lt (K p1 0) fun x1 => (f_X1_extendsGreen (b + 5) x1 K).bind fun u2 => if u2 = 0 then ((f_X7_at (b + 3) x1 7 K).bind fun u4 => if u4 = 2 then ((f_X7_at (b + 3) x1 1 K).bind fun u6 => st K p1 7 u6 fun K8 => some K8) else (if (K p1 7) = 0 then (some K) else (st K p1 7 ((K p1 7) - 1) fun K9 => some K9))) else ((f_X7_at (b + 3) x1 1 K).bind fun u10 => st K p1 7 u10 fun K12 => some K12)
abbrev rmX0_passGap : Room := { frames := 2, cells := 0, slots := 0, locals := 41 }
theorem iX0_passGap_X6 : ∀ w ∈ u_ws RX6 TX6 10, w ∈ wsX0_passGap := fun _ h => List.mem_cons_of_mem _ (List.mem_append_left _ (List.mem_append_left _ (List.mem_append_left _ (List.mem_append_right _ h))))
theorem iX0_passGap_X0 : ∀ w ∈ u_ws RX0 TX0 16, w ∈ wsX0_passGap := fun _ h => List.mem_cons_of_mem _ (List.mem_append_left _ (List.mem_append_left _ (List.mem_append_right _ h)))
theorem mX0_passGap_f24 : Cond.fieldLink RX0 24 "BarrierLights$Controller" "detectors" "LBarrierLights$Detectors;" ∈ wsX0_passGap := by decide +kernel
theorem hdX1_extendsGreen : yX1_extendsGreen.cls = RX1 ∧ yX1_extendsGreen.cls ≠ "java/lang/invoke/MethodHandle" ∧ yX1_extendsGreen.cls ≠ "java/lang/invoke/VarHandle" ∧ (parseMethodDescriptor yX1_extendsGreen.desc).map (fun d => d.parameters.length) = some 1 := by decide +kernel
theorem mX0_passGap_f18 : Cond.fieldLink RX0 18 "BarrierLights$Controller" "table" "LBarrierLights$Table;" ∈ wsX0_passGap := by decide +kernel
set_option maxRecDepth 100000 in
set_option maxHeartbeats 4000000 in
theorem k_X0_passGap {l : Launch} {D : va_G} {ad : Nat → Nat} {aI aZ aF : ClassId} {b : Nat} {p1 : Nat} (hb : isC b) (h1 : isR p1) {K : Mem} {u : Mem} (hf : f_X0_passGap b p1 K = some u) : cV (EC l D ad aI aZ aF) yX0_passGap wsX0_passGap rmX0_passGap [.ref (ad b), .ref (ad p1)] K u := by
  rw [f_X0_passGap] at hf
  refine j_entV (cc := cX0_passGap) (maxL := 3) (EC_ok l D ad aI aZ aF) (by decide) rfl (Nat.le_of_ble_eq_true rfl) (fun G C ret => ?_)
  refine j_sub [0, 1] (lv2 := [(0, .ref (ad b)), (1, .ref (ad p1))]) rfl ?_
  refine j_aload_n C 1 dX0_passGap_0 rfl rfl ?_
  refine j_getN C 0 iX0_passGap_X6 (g_R h1) rfl (by decide) nf_RX0_157 rfl rfl dX0_passGap_1 ?_
  refine j_istore_n C (fun y => [(2, .int y), (0, .ref (ad b)), (1, .ref (ad p1))]) dX0_passGap_4 rfl (by decide) (fun _ => rfl) hf (fun x1 hf => ?_)
  refine j_aload_n C 1 dX0_passGap_5 rfl rfl ?_
  refine j_get C 2 iX0_passGap_X0 (g_C hb) rfl (by decide) mX0_passGap_f24 rfl rfl dX0_passGap_6 ?_
  refine j_iload_n C 0 dX0_passGap_9 rfl rfl ?_
  obtain ⟨u2, h3, hf⟩ := bd hf
  refine j_cVI C [.int x1] gX0_passGap_X1_extendsGreen rfl hdX1_extendsGreen ⟨⟨rfl, rfl⟩, Nat.le_of_ble_eq_true rfl, Nat.le_of_ble_eq_true rfl⟩ rfl (g_D (isC_D hb)) rfl (k_X1_extendsGreen (isC_D hb) h3) dX0_passGap_10 rfl (Nat.le_of_ble_eq_true rfl) ?_
  refine j_if_ne C 30 dX0_passGap_13 (by decide) hf (fun hf => ?_) (fun hf => ?_)
  · refine j_aload_n C 1 dX0_passGap_16 rfl rfl ?_
    refine j_get C 1 iX0_passGap_X0 (g_C hb) rfl (by decide) mX0_passGap_f18 rfl rfl dX0_passGap_17 ?_
    refine j_iload_n C 0 dX0_passGap_20 rfl rfl ?_
    refine j_bipush C (v := 7) dX0_passGap_21 (by decide) ?_
    obtain ⟨u4, h5, hf⟩ := bd hf
    refine j_cVI C [.int x1, .int 7] gX0_passGap_X7_at rfl hdX7_at ⟨⟨rfl, rfl⟩, Nat.le_of_ble_eq_true rfl, Nat.le_of_ble_eq_true rfl⟩ rfl (g_T (isC_T3 hb)) rfl (k_X7_at (isC_T3 hb) h5) dX0_passGap_23 rfl (Nat.le_of_ble_eq_true rfl) ?_
    refine j_iconst C (v := 2) dX0_passGap_26 (by decide) ?_
    refine j_icmp_ne C 46 dX0_passGap_27 (by decide) hf (fun hf => ?_) (fun hf => ?_)
    · refine j_aload_n C 2 dX0_passGap_30 rfl rfl ?_
      refine j_aload_n C 1 dX0_passGap_31 rfl rfl ?_
      refine j_get C 1 iX0_passGap_X0 (g_C hb) rfl (by decide) mX0_passGap_f18 rfl rfl dX0_passGap_32 ?_
      refine j_iload_n C 0 dX0_passGap_35 rfl rfl ?_
      refine j_iconst C (v := 1) dX0_passGap_36 (by decide) ?_
      obtain ⟨u6, h7, hf⟩ := bd hf
      refine j_cVI C [.int x1, .int 1] gX0_passGap_X7_at rfl hdX7_at ⟨⟨rfl, rfl⟩, Nat.le_of_ble_eq_true rfl, Nat.le_of_ble_eq_true rfl⟩ rfl (g_T (isC_T3 hb)) rfl (k_X7_at (isC_T3 hb) h7) dX0_passGap_37 rfl (Nat.le_of_ble_eq_true rfl) ?_
      refine j_putN C (ty := .int) 7 iX0_passGap_X6 tyX6 tyX6_ok nmX6 (g_R h1) (s_R_7 h1 _) rfl (by decide) nf_RX0_170 rfl rfl (by decide +kernel) rfl rfl (Nat.le_of_ble_eq_true rfl) dX0_passGap_40 hf (fun K8 hf => ?_)
      refine j_goto C 63 dX0_passGap_43 (by decide) ?_
      cases hf
      exact ret _ _ dX0_passGap_63
    · refine j_aload_n C 2 dX0_passGap_46 rfl rfl ?_
      refine j_getN C 7 iX0_passGap_X6 (g_R h1) rfl (by decide) nf_RX0_170 rfl rfl dX0_passGap_47 ?_
      refine j_if_eq C 63 dX0_passGap_50 (by decide) hf (fun hf => ?_) (fun hf => ?_)
      · cases hf
        exact ret _ _ dX0_passGap_63
      · refine j_aload_n C 2 dX0_passGap_53 rfl rfl ?_
        refine j_dup C dX0_passGap_54 rfl ?_
        refine j_getN C 7 iX0_passGap_X6 (g_R h1) rfl (by decide) nf_RX0_170 rfl rfl dX0_passGap_55 ?_
        refine j_iconst C (v := 1) dX0_passGap_58 (by decide) ?_
        refine j_isub C dX0_passGap_59 ?_
        refine j_putN C (ty := .int) 7 iX0_passGap_X6 tyX6 tyX6_ok nmX6 (g_R h1) (s_R_7 h1 _) rfl (by decide) nf_RX0_170 rfl rfl (by decide +kernel) rfl rfl (Nat.le_of_ble_eq_true rfl) dX0_passGap_60 hf (fun K9 hf => ?_)
        cases hf
        exact ret _ _ dX0_passGap_63
  · refine j_aload_n C 2 dX0_passGap_30 rfl rfl ?_
    refine j_aload_n C 1 dX0_passGap_31 rfl rfl ?_
    refine j_get C 1 iX0_passGap_X0 (g_C hb) rfl (by decide) mX0_passGap_f18 rfl rfl dX0_passGap_32 ?_
    refine j_iload_n C 0 dX0_passGap_35 rfl rfl ?_
    refine j_iconst C (v := 1) dX0_passGap_36 (by decide) ?_
    obtain ⟨u10, h11, hf⟩ := bd hf
    refine j_cVI C [.int x1, .int 1] gX0_passGap_X7_at rfl hdX7_at ⟨⟨rfl, rfl⟩, Nat.le_of_ble_eq_true rfl, Nat.le_of_ble_eq_true rfl⟩ rfl (g_T (isC_T3 hb)) rfl (k_X7_at (isC_T3 hb) h11) dX0_passGap_37 rfl (Nat.le_of_ble_eq_true rfl) ?_
    refine j_putN C (ty := .int) 7 iX0_passGap_X6 tyX6 tyX6_ok nmX6 (g_R h1) (s_R_7 h1 _) rfl (by decide) nf_RX0_170 rfl rfl (by decide +kernel) rfl rfl (Nat.le_of_ble_eq_true rfl) dX0_passGap_40 hf (fun K12 hf => ?_)
    refine j_goto C 63 dX0_passGap_43 (by decide) ?_
    cases hf
    exact ret _ _ dX0_passGap_63
/-- BarrierLights$Detectors.calls(I)Z -/
def f_X1_calls (b : Nat) (p1 : Int32) (K : Mem) : Option (Int32) := (f_X8_bit p1 K).bind fun u1 => if (((K b 2) ||| (K b 3)) &&& u1) = 0 then (some 0) else (some 1)
abbrev rmX1_calls : Room := { frames := 1, cells := 0, slots := 0, locals := 20 }
theorem iX1_calls_X1 : ∀ w ∈ u_ws RX1 TX1 4, w ∈ wsX1_calls := fun _ h => List.mem_cons_of_mem _ (List.mem_append_right _ h)
theorem mX1_calls_f19 : Cond.fieldLink RX1 19 "BarrierLights$Detectors" "on" "I" ∈ wsX1_calls := by decide +kernel
theorem mX1_calls_f23 : Cond.fieldLink RX1 23 "BarrierLights$Detectors" "failed" "I" ∈ wsX1_calls := by decide +kernel
theorem mX1_calls_iX8 : Cond.initialized RX8 ∈ wsX1_calls := by decide +kernel
theorem mX1_calls_sX8_bit : Cond.static yX8_bit ∈ wsX1_calls := by decide +kernel
set_option maxRecDepth 100000 in
set_option maxHeartbeats 4000000 in
theorem k_X1_calls {l : Launch} {D : va_G} {ad : Nat → Nat} {aI aZ aF : ClassId} {b : Nat} {p1 : Int32} (hb : isD b) {K : Mem} {u : Int32} (hf : f_X1_calls b p1 K = some u) : cI (EC l D ad aI aZ aF) yX1_calls wsX1_calls rmX1_calls [.ref (ad b), .int p1] K u K := by
  rw [f_X1_calls] at hf
  refine j_entI (cc := cX1_calls) (maxL := 2) (EC_ok l D ad aI aZ aF) (Or.inr rfl) (by decide) rfl (Nat.le_of_ble_eq_true rfl) (fun G C ret => ?_)
  refine j_sub [0, 1] (lv2 := [(0, .ref (ad b)), (1, .int p1)]) rfl ?_
  refine j_aload_n C 0 dX1_calls_0 rfl rfl ?_
  refine j_get C 2 iX1_calls_X1 (g_D hb) rfl (by decide) mX1_calls_f19 rfl rfl dX1_calls_1 ?_
  refine j_aload_n C 0 dX1_calls_4 rfl rfl ?_
  refine j_get C 3 iX1_calls_X1 (g_D hb) rfl (by decide) mX1_calls_f23 rfl rfl dX1_calls_5 ?_
  refine j_ior C dX1_calls_8 ?_
  refine j_iload_n C 1 dX1_calls_9 rfl rfl ?_
  obtain ⟨u1, h2, hf⟩ := bd hf
  refine j_cNI C [.int p1] gX1_calls_X8_bit_n26 rfl nm_RX1_26 mX1_calls_iX8 mX1_calls_sX8_bit hdX8_bit.2 ⟨⟨rfl, rfl⟩, Nat.le_of_ble_eq_true rfl, Nat.le_of_ble_eq_true rfl⟩ rfl (k_X8_bit h2) dX1_calls_10 rfl (Nat.le_of_ble_eq_true rfl) ?_
  refine j_iand C dX1_calls_13 ?_
  refine j_if_eq C 21 dX1_calls_14 (by decide) hf (fun hf => ?_) (fun hf => ?_)
  · refine j_iconst C (v := 0) dX1_calls_21 (by decide) ?_
    cases hf
    exact ret _ _ dX1_calls_22 (fun _ => rfl)
  · refine j_iconst C (v := 1) dX1_calls_17 (by decide) ?_
    refine j_goto C 22 dX1_calls_18 (by decide) ?_
    cases hf
    exact ret _ _ dX1_calls_22 (fun _ => rfl)
/-- BarrierLights$Controller.noteCalls(I)V -/
def f_X0_noteCalls (b : Nat) (p1 : Int32) (K : Mem) : Option (Mem) := (f_X7_at (b + 3) p1 7 K).bind fun u1 => lt u1 fun x3 => (f_X1_calls (b + 5) p1 K).bind fun u4 => (if u4 = 0 then (if x3 = 1 then ((f_X8_bit p1 K).bind fun u9 => st K b 13 ((K b 13) ||| u9) fun K11 => some K11) else (if x3 = 2 then ((f_X8_bit p1 K).bind fun u12 => st K b 13 ((K b 13) ||| u12) fun K14 => some K14) else (some K))) else ((f_X8_bit p1 K).bind fun u15 => st K b 13 ((K b 13) ||| u15) fun K17 => some K17) : Option (Mem)).bind fun v6 => if x3 = 3 then ((f_X8_bit p1 v6).bind fun u18 => st v6 b 14 ((v6 b 14) ||| u18) fun K20 => some K20) else (some v6)
abbrev rmX0_noteCalls : Room := { frames := 2, cells := 0, slots := 0, locals := 41 }
theorem iX0_noteCalls_X0 : ∀ w ∈ u_ws RX0 TX0 16, w ∈ wsX0_noteCalls := fun _ h => List.mem_cons_of_mem _ (List.mem_append_left _ (List.mem_append_left _ (List.mem_append_right _ h)))
theorem mX0_noteCalls_f18 : Cond.fieldLink RX0 18 "BarrierLights$Controller" "table" "LBarrierLights$Table;" ∈ wsX0_noteCalls := by decide +kernel
theorem mX0_noteCalls_f24 : Cond.fieldLink RX0 24 "BarrierLights$Controller" "detectors" "LBarrierLights$Detectors;" ∈ wsX0_noteCalls := by decide +kernel
theorem hdX1_calls : yX1_calls.cls = RX1 ∧ yX1_calls.cls ≠ "java/lang/invoke/MethodHandle" ∧ yX1_calls.cls ≠ "java/lang/invoke/VarHandle" ∧ (parseMethodDescriptor yX1_calls.desc).map (fun d => d.parameters.length) = some 1 := by decide +kernel
theorem mX0_noteCalls_f76 : Cond.fieldLink RX0 76 "BarrierLights$Controller" "calls" "I" ∈ wsX0_noteCalls := by decide +kernel
theorem mX0_noteCalls_iX8 : Cond.initialized RX8 ∈ wsX0_noteCalls := by decide +kernel
theorem mX0_noteCalls_sX8_bit : Cond.static yX8_bit ∈ wsX0_noteCalls := by decide +kernel
theorem mX0_noteCalls_f79 : Cond.fieldLink RX0 79 "BarrierLights$Controller" "walkCalls" "I" ∈ wsX0_noteCalls := by decide +kernel
set_option maxRecDepth 100000 in
set_option maxHeartbeats 4000000 in
theorem k_X0_noteCalls {l : Launch} {D : va_G} {ad : Nat → Nat} {aI aZ aF : ClassId} {b : Nat} {p1 : Int32} (hb : isC b) {K : Mem} {u : Mem} (hf : f_X0_noteCalls b p1 K = some u) : cV (EC l D ad aI aZ aF) yX0_noteCalls wsX0_noteCalls rmX0_noteCalls [.ref (ad b), .int p1] K u := by
  rw [f_X0_noteCalls] at hf
  refine j_entV (cc := cX0_noteCalls) (maxL := 3) (EC_ok l D ad aI aZ aF) (by decide) rfl (Nat.le_of_ble_eq_true rfl) (fun G C ret => ?_)
  refine j_sub [0, 1] (lv2 := [(0, .ref (ad b)), (1, .int p1)]) rfl ?_
  refine j_aload_n C 0 dX0_noteCalls_0 rfl rfl ?_
  refine j_get C 1 iX0_noteCalls_X0 (g_C hb) rfl (by decide) mX0_noteCalls_f18 rfl rfl dX0_noteCalls_1 ?_
  refine j_iload_n C 1 dX0_noteCalls_4 rfl rfl ?_
  refine j_bipush C (v := 7) dX0_noteCalls_5 (by decide) ?_
  obtain ⟨u1, h2, hf⟩ := bd hf
  refine j_cVI C [.int p1, .int 7] gX0_noteCalls_X7_at rfl hdX7_at ⟨⟨rfl, rfl⟩, Nat.le_of_ble_eq_true rfl, Nat.le_of_ble_eq_true rfl⟩ rfl (g_T (isC_T3 hb)) rfl (k_X7_at (isC_T3 hb) h2) dX0_noteCalls_7 rfl (Nat.le_of_ble_eq_true rfl) ?_
  refine j_istore_n C (fun y => [(2, .int y), (0, .ref (ad b)), (1, .int p1)]) dX0_noteCalls_10 rfl (by decide) (fun _ => rfl) hf (fun x3 hf => ?_)
  refine j_aload_n C 1 dX0_noteCalls_11 rfl rfl ?_
  refine j_get C 2 iX0_noteCalls_X0 (g_C hb) rfl (by decide) mX0_noteCalls_f24 rfl rfl dX0_noteCalls_12 ?_
  refine j_iload_n C 2 dX0_noteCalls_15 rfl rfl ?_
  obtain ⟨u4, h5, hf⟩ := bd hf
  refine j_cVI C [.int p1] gX0_noteCalls_X1_calls rfl hdX1_calls ⟨⟨rfl, rfl⟩, Nat.le_of_ble_eq_true rfl, Nat.le_of_ble_eq_true rfl⟩ rfl (g_D (isC_D hb)) rfl (k_X1_calls (isC_D hb) h5) dX0_noteCalls_16 rfl (Nat.le_of_ble_eq_true rfl) ?_
  obtain ⟨v6, h7, hf⟩ := bd hf
  have jj8 : jW (EC l D ad aI aZ aF) G v6 45 [(0, .ref (ad b)), (1, .int p1), (2, .int x3)] [] := by
    refine j_iload_n C 2 dX0_noteCalls_45 rfl rfl ?_
    refine j_iconst C (v := 3) dX0_noteCalls_46 (by decide) ?_
    refine j_icmp_ne C 63 dX0_noteCalls_47 (by decide) hf (fun hf => ?_) (fun hf => ?_)
    · refine j_aload_n C 0 dX0_noteCalls_50 rfl rfl ?_
      refine j_dup C dX0_noteCalls_51 rfl ?_
      refine j_get C 14 iX0_noteCalls_X0 (g_C hb) rfl (by decide) mX0_noteCalls_f79 rfl rfl dX0_noteCalls_52 ?_
      refine j_iload_n C 1 dX0_noteCalls_55 rfl rfl ?_
      obtain ⟨u18, h19, hf⟩ := bd hf
      refine j_cNI C [.int p1] gX0_noteCalls_X8_bit_n104 rfl nm_RX0_104 mX0_noteCalls_iX8 mX0_noteCalls_sX8_bit hdX8_bit.2 ⟨⟨rfl, rfl⟩, Nat.le_of_ble_eq_true rfl, Nat.le_of_ble_eq_true rfl⟩ rfl (k_X8_bit h19) dX0_noteCalls_56 rfl (Nat.le_of_ble_eq_true rfl) ?_
      refine j_ior C dX0_noteCalls_59 ?_
      refine j_put C (ty := .int) 14 iX0_noteCalls_X0 tyX0 tyX0_ok nmX0 (g_C hb) (s_C_14 hb _) rfl (by decide) mX0_noteCalls_f79 rfl rfl (by decide +kernel) rfl rfl (Nat.le_of_ble_eq_true rfl) dX0_noteCalls_60 hf (fun K20 hf => ?_)
      cases hf
      exact ret _ _ dX0_noteCalls_63
    · cases hf
      exact ret _ _ dX0_noteCalls_63
  clear hf
  have hf := h7
  clear h7
  refine j_if_ne C 32 dX0_noteCalls_19 (by decide) hf (fun hf => ?_) (fun hf => ?_)
  · refine j_iload_n C 0 dX0_noteCalls_22 rfl rfl ?_
    refine j_iconst C (v := 1) dX0_noteCalls_23 (by decide) ?_
    refine j_icmp_eq C 32 dX0_noteCalls_24 (by decide) hf (fun hf => ?_) (fun hf => ?_)
    · refine j_aload_n C 1 dX0_noteCalls_32 rfl rfl ?_
      refine j_dup C dX0_noteCalls_33 rfl ?_
      refine j_get C 13 iX0_noteCalls_X0 (g_C hb) rfl (by decide) mX0_noteCalls_f76 rfl rfl dX0_noteCalls_34 ?_
      refine j_iload_n C 2 dX0_noteCalls_37 rfl rfl ?_
      obtain ⟨u9, h10, hf⟩ := bd hf
      refine j_cNI C [.int p1] gX0_noteCalls_X8_bit_n104 rfl nm_RX0_104 mX0_noteCalls_iX8 mX0_noteCalls_sX8_bit hdX8_bit.2 ⟨⟨rfl, rfl⟩, Nat.le_of_ble_eq_true rfl, Nat.le_of_ble_eq_true rfl⟩ rfl (k_X8_bit h10) dX0_noteCalls_38 rfl (Nat.le_of_ble_eq_true rfl) ?_
      refine j_ior C dX0_noteCalls_41 ?_
      refine j_put C (ty := .int) 13 iX0_noteCalls_X0 tyX0 tyX0_ok nmX0 (g_C hb) (s_C_13 hb _) rfl (by decide) mX0_noteCalls_f76 rfl rfl (by decide +kernel) rfl rfl (Nat.le_of_ble_eq_true rfl) dX0_noteCalls_42 hf (fun K11 hf => ?_)
      cases hf
      refine j_sub [1, 2, 0] rfl ?_
      exact jj8
    · refine j_iload_n C 0 dX0_noteCalls_27 rfl rfl ?_
      refine j_iconst C (v := 2) dX0_noteCalls_28 (by decide) ?_
      refine j_icmp_ne C 45 dX0_noteCalls_29 (by decide) hf (fun hf => ?_) (fun hf => ?_)
      · refine j_aload_n C 1 dX0_noteCalls_32 rfl rfl ?_
        refine j_dup C dX0_noteCalls_33 rfl ?_
        refine j_get C 13 iX0_noteCalls_X0 (g_C hb) rfl (by decide) mX0_noteCalls_f76 rfl rfl dX0_noteCalls_34 ?_
        refine j_iload_n C 2 dX0_noteCalls_37 rfl rfl ?_
        obtain ⟨u12, h13, hf⟩ := bd hf
        refine j_cNI C [.int p1] gX0_noteCalls_X8_bit_n104 rfl nm_RX0_104 mX0_noteCalls_iX8 mX0_noteCalls_sX8_bit hdX8_bit.2 ⟨⟨rfl, rfl⟩, Nat.le_of_ble_eq_true rfl, Nat.le_of_ble_eq_true rfl⟩ rfl (k_X8_bit h13) dX0_noteCalls_38 rfl (Nat.le_of_ble_eq_true rfl) ?_
        refine j_ior C dX0_noteCalls_41 ?_
        refine j_put C (ty := .int) 13 iX0_noteCalls_X0 tyX0 tyX0_ok nmX0 (g_C hb) (s_C_13 hb _) rfl (by decide) mX0_noteCalls_f76 rfl rfl (by decide +kernel) rfl rfl (Nat.le_of_ble_eq_true rfl) dX0_noteCalls_42 hf (fun K14 hf => ?_)
        cases hf
        refine j_sub [1, 2, 0] rfl ?_
        exact jj8
      · cases hf
        refine j_sub [1, 2, 0] rfl ?_
        exact jj8
  · refine j_aload_n C 1 dX0_noteCalls_32 rfl rfl ?_
    refine j_dup C dX0_noteCalls_33 rfl ?_
    refine j_get C 13 iX0_noteCalls_X0 (g_C hb) rfl (by decide) mX0_noteCalls_f76 rfl rfl dX0_noteCalls_34 ?_
    refine j_iload_n C 2 dX0_noteCalls_37 rfl rfl ?_
    obtain ⟨u15, h16, hf⟩ := bd hf
    refine j_cNI C [.int p1] gX0_noteCalls_X8_bit_n104 rfl nm_RX0_104 mX0_noteCalls_iX8 mX0_noteCalls_sX8_bit hdX8_bit.2 ⟨⟨rfl, rfl⟩, Nat.le_of_ble_eq_true rfl, Nat.le_of_ble_eq_true rfl⟩ rfl (k_X8_bit h16) dX0_noteCalls_38 rfl (Nat.le_of_ble_eq_true rfl) ?_
    refine j_ior C dX0_noteCalls_41 ?_
    refine j_put C (ty := .int) 13 iX0_noteCalls_X0 tyX0 tyX0_ok nmX0 (g_C hb) (s_C_13 hb _) rfl (by decide) mX0_noteCalls_f76 rfl rfl (by decide +kernel) rfl rfl (Nat.le_of_ble_eq_true rfl) dX0_noteCalls_42 hf (fun K17 hf => ?_)
    cases hf
    refine j_sub [1, 2, 0] rfl ?_
    exact jj8
/-- BarrierLights$Controller.passCalls()V -/
def f_X0_passCalls_L2 (c0 : Nat) : Nat → Int32 → Mem → Option (Int32 × Mem)
  | 0, _, _ => none
  | n + 1, y1, K => if 8 ≤ y1 then (some (y1, K)) else ((f_X8_ringOf y1 K).bind fun u2 => (f_X0_ring c0 u2 K).bind fun u4 => (f_X6_isGreen u4 K).bind fun u7 => (if u7 = 0 then ((f_X8_bit y1 K).bind fun u12 => if ((K c0 10) &&& u12) = 0 then (some K) else ((f_X0_noteCalls c0 y1 K).bind fun u14 => some u14)) else (if (K u4 0) = y1 then ((f_X0_passGap c0 u4 K).bind fun u16 => some u16) else ((f_X8_bit y1 K).bind fun u18 => if ((K c0 10) &&& u18) = 0 then (some K) else ((f_X0_noteCalls c0 y1 K).bind fun u20 => some u20))) : Option (Mem)).bind fun v9 => lt (y1 + 1) fun x22 => f_X0_passCalls_L2 c0 n x22 v9)
def f_X0_passCalls (b : Nat) (K : Mem) : Option (Mem) := lt 0 fun x1 => (f_X0_passCalls_L2 b 70 x1 K).bind fun v23 => some v23.2
abbrev rmX0_passCalls : Room := { frames := 3, cells := 0, slots := 0, locals := 63 }
theorem mX0_passCalls_iX8 : Cond.initialized RX8 ∈ wsX0_passCalls := by decide +kernel
theorem mX0_passCalls_sX8_ringOf : Cond.static yX8_ringOf ∈ wsX0_passCalls := by decide +kernel
theorem hdX8_ringOf : yX8_ringOf.cls = RX8 ∧ yX8_ringOf.cls ≠ "java/lang/invoke/MethodHandle" ∧ yX8_ringOf.cls ≠ "java/lang/invoke/VarHandle" ∧ (parseMethodDescriptor yX8_ringOf.desc).map (fun d => d.parameters.length) = some 1 := by decide +kernel
theorem hdX0_ring : yX0_ring.cls = RX0 ∧ yX0_ring.cls ≠ "java/lang/invoke/MethodHandle" ∧ yX0_ring.cls ≠ "java/lang/invoke/VarHandle" ∧ (parseMethodDescriptor yX0_ring.desc).map (fun d => d.parameters.length) = some 1 := by decide +kernel
theorem hdX6_isGreen : yX6_isGreen.cls = RX6 ∧ yX6_isGreen.cls ≠ "java/lang/invoke/MethodHandle" ∧ yX6_isGreen.cls ≠ "java/lang/invoke/VarHandle" ∧ (parseMethodDescriptor yX6_isGreen.desc).map (fun d => d.parameters.length) = some 0 := by decide +kernel
theorem iX0_passCalls_X0 : ∀ w ∈ u_ws RX0 TX0 16, w ∈ wsX0_passCalls := fun _ h => List.mem_cons_of_mem _ (List.mem_append_left _ (List.mem_append_left _ (List.mem_append_right _ h)))
theorem mX0_passCalls_f67 : Cond.fieldLink RX0 67 "BarrierLights$Controller" "used" "I" ∈ wsX0_passCalls := by decide +kernel
theorem mX0_passCalls_sX8_bit : Cond.static yX8_bit ∈ wsX0_passCalls := by decide +kernel
theorem hdX0_noteCalls : yX0_noteCalls.cls = RX0 ∧ yX0_noteCalls.cls ≠ "java/lang/invoke/MethodHandle" ∧ yX0_noteCalls.cls ≠ "java/lang/invoke/VarHandle" ∧ (parseMethodDescriptor yX0_noteCalls.desc).map (fun d => d.parameters.length) = some 1 := by decide +kernel
theorem iX0_passCalls_X6 : ∀ w ∈ u_ws RX6 TX6 10, w ∈ wsX0_passCalls := fun _ h => List.mem_cons_of_mem _ (List.mem_append_left _ (List.mem_append_left _ (List.mem_append_left _ (List.mem_append_right _ h))))
theorem hdX0_passGap : yX0_passGap.cls = RX0 ∧ yX0_passGap.cls ≠ "java/lang/invoke/MethodHandle" ∧ yX0_passGap.cls ≠ "java/lang/invoke/VarHandle" ∧ (parseMethodDescriptor yX0_passGap.desc).map (fun d => d.parameters.length) = some 1 := by decide +kernel
set_option maxRecDepth 100000 in
set_option maxHeartbeats 4000000 in
theorem lp_X0_passCalls_L2 {l : Launch} {D : va_G} {ad : Nat → Nat} {aI aZ aF : ClassId} {G : jG} {c0 : Nat} (hc0 : isC c0) (C : jC (EC l D ad aI aZ aF) G cX0_passCalls yX0_passCalls.cls wsX0_passCalls rmX0_passCalls 3) : ∀ (n : Nat) (y1 : Int32) (K : Mem) (v : Int32 × Mem), f_X0_passCalls_L2 c0 n y1 K = some v → jW (EC l D ad aI aZ aF) G v.2 63 [(0, .ref (ad c0)), (1, .int v.1)] [] → jW (EC l D ad aI aZ aF) G K 2 [(0, .ref (ad c0)), (1, .int y1)] [] := by
  intro n
  induction n with
  | zero =>
    intro y1 K v hf jj
    rw [f_X0_passCalls_L2] at hf
    cases hf
  | succ n ih =>
    intro y1 K v hf jj
    rw [f_X0_passCalls_L2] at hf
    refine j_iload_n C 1 dX0_passCalls_2 rfl rfl ?_
    refine j_bipush C (v := 8) dX0_passCalls_3 (by decide) ?_
    refine j_icmp_ge C 63 dX0_passCalls_5 (by decide) hf (fun hf => ?_) (fun hf => ?_)
    · cases hf
      exact jj
    · refine j_aload_n C 0 dX0_passCalls_8 rfl rfl ?_
      refine j_iload_n C 1 dX0_passCalls_9 rfl rfl ?_
      obtain ⟨u2, h3, hf⟩ := bd hf
      refine j_cNI C [.int y1] gX0_passCalls_X8_ringOf_n147 rfl nm_RX0_147 mX0_passCalls_iX8 mX0_passCalls_sX8_ringOf hdX8_ringOf.2 ⟨⟨rfl, rfl⟩, Nat.le_of_ble_eq_true rfl, Nat.le_of_ble_eq_true rfl⟩ rfl (k_X8_ringOf h3) dX0_passCalls_10 rfl (Nat.le_of_ble_eq_true rfl) ?_
      obtain ⟨u4, h5, hf⟩ := bd hf
      refine j_cVR C [.int u2] gX0_passCalls_X0_ring rfl hdX0_ring ⟨⟨rfl, rfl⟩, Nat.le_of_ble_eq_true rfl, Nat.le_of_ble_eq_true rfl⟩ rfl (g_C hc0) rfl (k_X0_ring hc0 h5) dX0_passCalls_13 rfl (Nat.le_of_ble_eq_true rfl) ?_
      have hk6 := q_X0_ring hc0 h5
      refine j_astore_n C [(2, .ref (ad u4)), (0, .ref (ad c0)), (1, .int y1)] dX0_passCalls_16 rfl (by decide) rfl ?_
      refine j_aload_n C 0 dX0_passCalls_17 rfl rfl ?_
      obtain ⟨u7, h8, hf⟩ := bd hf
      refine j_cVI C [] gX0_passCalls_X6_isGreen rfl hdX6_isGreen ⟨⟨rfl, rfl⟩, Nat.le_of_ble_eq_true rfl, Nat.le_of_ble_eq_true rfl⟩ rfl (g_R hk6) rfl (k_X6_isGreen hk6 h8) dX0_passCalls_18 rfl (Nat.le_of_ble_eq_true rfl) ?_
      obtain ⟨v9, h10, hf⟩ := bd hf
      have jj11 : jW (EC l D ad aI aZ aF) G v9 57 [(0, .ref (ad c0)), (1, .int y1), (2, .ref (ad u4))] [] := by
        refine j_iinc C (v := (y1 + 1)) 1 (fun y => [(1, .int y), (0, .ref (ad c0)), (2, .ref (ad u4))]) dX0_passCalls_57 rfl rfl (by decide) (fun _ => rfl) hf (fun x22 hf => ?_)
        refine j_goto C 2 dX0_passCalls_60 (by decide) ?_
        refine j_sub [1, 0] rfl ?_
        exact ih _ _ _ hf jj
      clear hf
      have hf := h10
      clear h10
      refine j_if_eq C 40 dX0_passCalls_21 (by decide) hf (fun hf => ?_) (fun hf => ?_)
      · refine j_aload_n C 1 dX0_passCalls_40 rfl rfl ?_
        refine j_get C 10 iX0_passCalls_X0 (g_C hc0) rfl (by decide) mX0_passCalls_f67 rfl rfl dX0_passCalls_41 ?_
        refine j_iload_n C 2 dX0_passCalls_44 rfl rfl ?_
        obtain ⟨u12, h13, hf⟩ := bd hf
        refine j_cNI C [.int y1] gX0_passCalls_X8_bit_n104 rfl nm_RX0_104 mX0_passCalls_iX8 mX0_passCalls_sX8_bit hdX8_bit.2 ⟨⟨rfl, rfl⟩, Nat.le_of_ble_eq_true rfl, Nat.le_of_ble_eq_true rfl⟩ rfl (k_X8_bit h13) dX0_passCalls_45 rfl (Nat.le_of_ble_eq_true rfl) ?_
        refine j_iand C dX0_passCalls_48 ?_
        refine j_if_eq C 57 dX0_passCalls_49 (by decide) hf (fun hf => ?_) (fun hf => ?_)
        · cases hf
          refine j_sub [1, 2, 0] rfl ?_
          exact jj11
        · refine j_aload_n C 1 dX0_passCalls_52 rfl rfl ?_
          refine j_iload_n C 2 dX0_passCalls_53 rfl rfl ?_
          obtain ⟨u14, h15, hf⟩ := bd hf
          refine j_cVV C [.int y1] gX0_passCalls_X0_noteCalls rfl hdX0_noteCalls ⟨⟨rfl, rfl⟩, Nat.le_of_ble_eq_true rfl, Nat.le_of_ble_eq_true rfl⟩ rfl (g_C hc0) rfl (k_X0_noteCalls hc0 h15) dX0_passCalls_54 rfl (Nat.le_of_ble_eq_true rfl) ?_
          cases hf
          refine j_sub [1, 2, 0] rfl ?_
          exact jj11
      · refine j_aload_n C 0 dX0_passCalls_24 rfl rfl ?_
        refine j_getN C 0 iX0_passCalls_X6 (g_R hk6) rfl (by decide) nf_RX0_157 rfl rfl dX0_passCalls_25 ?_
        refine j_iload_n C 2 dX0_passCalls_28 rfl rfl ?_
        refine j_icmp_ne C 40 dX0_passCalls_29 (by decide) hf (fun hf => ?_) (fun hf => ?_)
        · refine j_aload_n C 1 dX0_passCalls_32 rfl rfl ?_
          refine j_aload_n C 0 dX0_passCalls_33 rfl rfl ?_
          obtain ⟨u16, h17, hf⟩ := bd hf
          refine j_cVV C [.ref (ad u4)] gX0_passCalls_X0_passGap rfl hdX0_passGap ⟨⟨rfl, rfl⟩, Nat.le_of_ble_eq_true rfl, Nat.le_of_ble_eq_true rfl⟩ rfl (g_C hc0) rfl (k_X0_passGap hc0 hk6 h17) dX0_passCalls_34 rfl (Nat.le_of_ble_eq_true rfl) ?_
          refine j_goto C 57 dX0_passCalls_37 (by decide) ?_
          cases hf
          refine j_sub [1, 2, 0] rfl ?_
          exact jj11
        · refine j_aload_n C 1 dX0_passCalls_40 rfl rfl ?_
          refine j_get C 10 iX0_passCalls_X0 (g_C hc0) rfl (by decide) mX0_passCalls_f67 rfl rfl dX0_passCalls_41 ?_
          refine j_iload_n C 2 dX0_passCalls_44 rfl rfl ?_
          obtain ⟨u18, h19, hf⟩ := bd hf
          refine j_cNI C [.int y1] gX0_passCalls_X8_bit_n104 rfl nm_RX0_104 mX0_passCalls_iX8 mX0_passCalls_sX8_bit hdX8_bit.2 ⟨⟨rfl, rfl⟩, Nat.le_of_ble_eq_true rfl, Nat.le_of_ble_eq_true rfl⟩ rfl (k_X8_bit h19) dX0_passCalls_45 rfl (Nat.le_of_ble_eq_true rfl) ?_
          refine j_iand C dX0_passCalls_48 ?_
          refine j_if_eq C 57 dX0_passCalls_49 (by decide) hf (fun hf => ?_) (fun hf => ?_)
          · cases hf
            refine j_sub [1, 2, 0] rfl ?_
            exact jj11
          · refine j_aload_n C 1 dX0_passCalls_52 rfl rfl ?_
            refine j_iload_n C 2 dX0_passCalls_53 rfl rfl ?_
            obtain ⟨u20, h21, hf⟩ := bd hf
            refine j_cVV C [.int y1] gX0_passCalls_X0_noteCalls rfl hdX0_noteCalls ⟨⟨rfl, rfl⟩, Nat.le_of_ble_eq_true rfl, Nat.le_of_ble_eq_true rfl⟩ rfl (g_C hc0) rfl (k_X0_noteCalls hc0 h21) dX0_passCalls_54 rfl (Nat.le_of_ble_eq_true rfl) ?_
            cases hf
            refine j_sub [1, 2, 0] rfl ?_
            exact jj11
set_option maxRecDepth 100000 in
set_option maxHeartbeats 4000000 in
theorem k_X0_passCalls {l : Launch} {D : va_G} {ad : Nat → Nat} {aI aZ aF : ClassId} {b : Nat} (hb : isC b) {K : Mem} {u : Mem} (hf : f_X0_passCalls b K = some u) : cV (EC l D ad aI aZ aF) yX0_passCalls wsX0_passCalls rmX0_passCalls [.ref (ad b)] K u := by
  rw [f_X0_passCalls] at hf
  refine j_entV (cc := cX0_passCalls) (maxL := 3) (EC_ok l D ad aI aZ aF) (by decide) rfl (Nat.le_of_ble_eq_true rfl) (fun G C ret => ?_)
  refine j_sub [0] (lv2 := [(0, .ref (ad b))]) rfl ?_
  refine j_iconst C (v := 0) dX0_passCalls_0 (by decide) ?_
  refine j_istore_n C (fun y => [(1, .int y), (0, .ref (ad b))]) dX0_passCalls_1 rfl (by decide) (fun _ => rfl) hf (fun x1 hf => ?_)
  obtain ⟨v23, h24, hf⟩ := bd hf
  refine j_sub [1, 0] (lv2 := [(0, .ref (ad b)), (1, .int x1)]) rfl ?_
  refine lp_X0_passCalls_L2 hb C 70 _ _ _ h24 ?_
  cases hf
  exact ret _ _ dX0_passCalls_63
/-- BarrierLights$Ring.waits()Z -/
def f_X6_waits (b : Nat) (K : Mem) : Option (Int32) := if (K b 0) = (-1) then (some 1) else (some 0)
abbrev rmX6_waits : Room := { frames := 0, cells := 0, slots := 0, locals := 0 }
theorem iX6_waits_X6 : ∀ w ∈ u_ws RX6 TX6 10, w ∈ wsX6_waits := fun _ h => List.mem_cons_of_mem _ (List.mem_append_right _ h)
theorem mX6_waits_f9 : Cond.fieldLink RX6 9 "BarrierLights$Ring" "phase" "I" ∈ wsX6_waits := by decide +kernel
set_option maxRecDepth 100000 in
set_option maxHeartbeats 4000000 in
theorem k_X6_waits {l : Launch} {D : va_G} {ad : Nat → Nat} {aI aZ aF : ClassId} {b : Nat} (hb : isR b) {K : Mem} {u : Int32} (hf : f_X6_waits b K = some u) : cI (EC l D ad aI aZ aF) yX6_waits wsX6_waits rmX6_waits [.ref (ad b)] K u K := by
  rw [f_X6_waits] at hf
  refine j_entI (cc := cX6_waits) (maxL := 1) (EC_ok l D ad aI aZ aF) (Or.inr rfl) (by decide) rfl (Nat.le_of_ble_eq_true rfl) (fun G C ret => ?_)
  refine j_sub [0] (lv2 := [(0, .ref (ad b))]) rfl ?_
  refine j_aload_n C 0 dX6_waits_0 rfl rfl ?_
  refine j_get C 0 iX6_waits_X6 (g_R hb) rfl (by decide) mX6_waits_f9 rfl rfl dX6_waits_1 ?_
  refine j_iconst C (v := (-1)) dX6_waits_4 (by decide) ?_
  refine j_icmp_ne C 12 dX6_waits_5 (by decide) hf (fun hf => ?_) (fun hf => ?_)
  · refine j_iconst C (v := 1) dX6_waits_8 (by decide) ?_
    refine j_goto C 13 dX6_waits_9 (by decide) ?_
    cases hf
    exact ret _ _ dX6_waits_13 (fun _ => rfl)
  · refine j_iconst C (v := 0) dX6_waits_12 (by decide) ?_
    cases hf
    exact ret _ _ dX6_waits_13 (fun _ => rfl)
