/-- BarrierLightsModel.link(I)V -/
def f_X9_link (p1 : Int32) (K : Mem) : Option (Mem) := if inb p1 2 = true then (lt (K 32 (ix p1)) fun x1 => if 0 ≤ x1 then (if inb p1 2 = true then (if inb p1 2 = true then (st K 34 (ix p1) ((K 34 (ix p1)) + 1) fun K2 => if inb p1 2 = true then (if (K2 34 (ix p1)) = 30 then (if inb p1 2 = true then (st K2 32 (ix p1) (-1) fun K3 => some K3) else none) else (if inb p1 2 = true then (if inb x1 4 = true then (if (K2 29 (ix x1)) = 0 then none else (if inb p1 2 = true then (st K2 35 (ix p1) (jrem ((K2 35 (ix p1)) + 1) (K2 29 (ix x1))) fun K4 => if (jrem (K4 0 1) 5) = 0 then (if inb x1 4 = true then (if inb x1 4 = true then (if (K4 29 (ix x1)) = 0 then none else (if inb x1 4 = true then (if inb x1 4 = true then (if (K4 29 (ix x1)) = 0 then none else (lt (jrem ((jrem ((K4 0 1) - (K4 30 (ix x1))) (K4 29 (ix x1))) + (K4 29 (ix x1))) (K4 29 (ix x1))) fun x5 => if inb p1 2 = true then (if inb x1 4 = true then (if inb x1 4 = true then (if (K4 29 (ix x1)) = 0 then none else (lt (jrem ((x5 - (K4 35 (ix p1))) + (K4 29 (ix x1))) (K4 29 (ix x1))) fun x6 => if x6 = 0 then (some K4) else (if inb x1 4 = true then ((if ((K4 29 (ix x1)) - x6) < x6 then (if inb p1 2 = true then (some ((K4 35 (ix p1)) - 1)) else none) else (if inb p1 2 = true then (some ((K4 35 (ix p1)) + 1)) else none) : Option (Int32)).bind fun v7 => if inb p1 2 = true then (st K4 35 (ix p1) v7 fun K10 => if inb p1 2 = true then (if inb x1 4 = true then (if inb x1 4 = true then (if (K10 29 (ix x1)) = 0 then none else (if inb p1 2 = true then (st K10 35 (ix p1) (jrem ((K10 35 (ix p1)) + (K10 29 (ix x1))) (K10 29 (ix x1))) fun K11 => some K11) else none)) else none) else none) else none) else none) else none))) else none) else none) else none)) else none) else none)) else none) else none) else (some K4)) else none)) else none) else none)) else none) else none) else none) else (some K)) else none
abbrev rmX9_link : Room := { frames := 0, cells := 0, slots := 0, locals := 0 }
theorem iX9_link_X9 : ∀ w ∈ u_ws RX9 TX9 37, w ∈ wsX9_link := fun _ h => List.mem_cons_of_mem _ (List.mem_append_right _ h)
theorem mX9_link_f106 : Cond.fieldLink RX9 106 "BarrierLightsModel" "plan" "[I" ∈ wsX9_link := by decide +kernel
theorem mX9_link_f112 : Cond.fieldLink RX9 112 "BarrierLightsModel" "silence" "[I" ∈ wsX9_link := by decide +kernel
theorem mX9_link_f115 : Cond.fieldLink RX9 115 "BarrierLightsModel" "local" "[I" ∈ wsX9_link := by decide +kernel
theorem mX9_link_f97 : Cond.fieldLink RX9 97 "BarrierLightsModel" "cycle" "[I" ∈ wsX9_link := by decide +kernel
theorem mX9_link_f172 : Cond.fieldLink RX9 172 "BarrierLightsModel" "clock" "I" ∈ wsX9_link := by decide +kernel
theorem mX9_link_f100 : Cond.fieldLink RX9 100 "BarrierLightsModel" "offset" "[I" ∈ wsX9_link := by decide +kernel
set_option maxRecDepth 100000 in
set_option maxHeartbeats 4000000 in
theorem k_X9_link {l : Launch} {D : va_G} {ad : Nat → Nat} {aI aZ aS aF : ClassId} {p1 : Int32} {K : Mem} {u : Mem} (hf : f_X9_link p1 K = some u) : cV (EM l D ad aI aZ aS aF) yX9_link wsX9_link rmX9_link [.ref (ad 0), .int p1] K u := by
  rw [f_X9_link] at hf
  refine j_entV (cc := cX9_link) (maxL := 5) (EM_ok l D ad aI aZ aS aF) (by decide) rfl (Nat.le_of_ble_eq_true rfl) (fun G C ret => ?_)
  refine j_sub [0, 1] (lv2 := [(0, .ref (ad 0)), (1, .int p1)]) rfl ?_
  refine j_aload_n C 0 dX9_link_0 rfl rfl ?_
  refine j_get C 33 iX9_link_X9 h_0 rfl (by decide) mX9_link_f106 rfl rfl dX9_link_1 ?_
  refine j_iload_n C 1 dX9_link_4 rfl rfl ?_
  refine j_iald C 0 h_32 rfl dX9_link_5 hf (fun hf => ?_)
  refine j_istore_n C (fun y => [(2, .int y), (0, .ref (ad 0)), (1, .int p1)]) dX9_link_6 rfl (by decide) (fun _ => rfl) hf (fun x1 hf => ?_)
  refine j_iload_n C 0 dX9_link_7 rfl rfl ?_
  refine j_if_ge C 12 dX9_link_8 (by decide) hf (fun hf => ?_) (fun hf => ?_)
  · refine j_aload_n C 1 dX9_link_12 rfl rfl ?_
    refine j_get C 35 iX9_link_X9 h_0 rfl (by decide) mX9_link_f112 rfl rfl dX9_link_13 ?_
    refine j_iload_n C 2 dX9_link_16 rfl rfl ?_
    refine j_dup2 C dX9_link_17 rfl rfl ?_
    refine j_iald C 0 h_34 rfl dX9_link_18 hf (fun hf => ?_)
    refine j_iconst C (v := 1) dX9_link_19 (by decide) ?_
    refine j_iadd C dX9_link_20 ?_
    refine j_iast C 0 h_34 (t_34 _ _) rfl dX9_link_21 hf (fun K2 hf => ?_)
    refine j_aload_n C 1 dX9_link_22 rfl rfl ?_
    refine j_get C 35 iX9_link_X9 h_0 rfl (by decide) mX9_link_f112 rfl rfl dX9_link_23 ?_
    refine j_iload_n C 2 dX9_link_26 rfl rfl ?_
    refine j_iald C 0 h_34 rfl dX9_link_27 hf (fun hf => ?_)
    refine j_bipush C (v := 30) dX9_link_28 (by decide) ?_
    refine j_icmp_ne C 41 dX9_link_30 (by decide) hf (fun hf => ?_) (fun hf => ?_)
    · refine j_aload_n C 1 dX9_link_33 rfl rfl ?_
      refine j_get C 33 iX9_link_X9 h_0 rfl (by decide) mX9_link_f106 rfl rfl dX9_link_34 ?_
      refine j_iload_n C 2 dX9_link_37 rfl rfl ?_
      refine j_iconst C (v := (-1)) dX9_link_38 (by decide) ?_
      refine j_iast C 0 h_32 (t_32 _ _) rfl dX9_link_39 hf (fun K3 hf => ?_)
      cases hf
      exact ret _ _ dX9_link_40
    · refine j_aload_n C 1 dX9_link_41 rfl rfl ?_
      refine j_get C 36 iX9_link_X9 h_0 rfl (by decide) mX9_link_f115 rfl rfl dX9_link_42 ?_
      refine j_iload_n C 2 dX9_link_45 rfl rfl ?_
      refine j_aload_n C 1 dX9_link_46 rfl rfl ?_
      refine j_get C 36 iX9_link_X9 h_0 rfl (by decide) mX9_link_f115 rfl rfl dX9_link_47 ?_
      refine j_iload_n C 2 dX9_link_50 rfl rfl ?_
      refine j_iald C 0 h_35 rfl dX9_link_51 hf (fun hf => ?_)
      refine j_iconst C (v := 1) dX9_link_52 (by decide) ?_
      refine j_iadd C dX9_link_53 ?_
      refine j_aload_n C 1 dX9_link_54 rfl rfl ?_
      refine j_get C 30 iX9_link_X9 h_0 rfl (by decide) mX9_link_f97 rfl rfl dX9_link_55 ?_
      refine j_iload_n C 0 dX9_link_58 rfl rfl ?_
      refine j_iald C 0 h_29 rfl dX9_link_59 hf (fun hf => ?_)
      refine j_irem_f C dX9_link_60 hf (fun hf => ?_)
      refine j_iast C 0 h_35 (t_35 _ _) rfl dX9_link_61 hf (fun K4 hf => ?_)
      refine j_aload_n C 1 dX9_link_62 rfl rfl ?_
      refine j_get C 1 iX9_link_X9 h_0 rfl (by decide) mX9_link_f172 rfl rfl dX9_link_63 ?_
      refine j_iconst C (v := 5) dX9_link_66 (by decide) ?_
      refine j_irem C dX9_link_67 (by decide) ?_
      refine j_if_eq C 72 dX9_link_68 (by decide) hf (fun hf => ?_) (fun hf => ?_)
      · refine j_aload_n C 1 dX9_link_72 rfl rfl ?_
        refine j_get C 1 iX9_link_X9 h_0 rfl (by decide) mX9_link_f172 rfl rfl dX9_link_73 ?_
        refine j_aload_n C 1 dX9_link_76 rfl rfl ?_
        refine j_get C 31 iX9_link_X9 h_0 rfl (by decide) mX9_link_f100 rfl rfl dX9_link_77 ?_
        refine j_iload_n C 0 dX9_link_80 rfl rfl ?_
        refine j_iald C 0 h_30 rfl dX9_link_81 hf (fun hf => ?_)
        refine j_isub C dX9_link_82 ?_
        refine j_aload_n C 1 dX9_link_83 rfl rfl ?_
        refine j_get C 30 iX9_link_X9 h_0 rfl (by decide) mX9_link_f97 rfl rfl dX9_link_84 ?_
        refine j_iload_n C 0 dX9_link_87 rfl rfl ?_
        refine j_iald C 0 h_29 rfl dX9_link_88 hf (fun hf => ?_)
        refine j_irem_f C dX9_link_89 hf (fun hf => ?_)
        refine j_aload_n C 1 dX9_link_90 rfl rfl ?_
        refine j_get C 30 iX9_link_X9 h_0 rfl (by decide) mX9_link_f97 rfl rfl dX9_link_91 ?_
        refine j_iload_n C 0 dX9_link_94 rfl rfl ?_
        refine j_iald C 0 h_29 rfl dX9_link_95 hf (fun hf => ?_)
        refine j_iadd C dX9_link_96 ?_
        refine j_aload_n C 1 dX9_link_97 rfl rfl ?_
        refine j_get C 30 iX9_link_X9 h_0 rfl (by decide) mX9_link_f97 rfl rfl dX9_link_98 ?_
        refine j_iload_n C 0 dX9_link_101 rfl rfl ?_
        refine j_iald C 0 h_29 rfl dX9_link_102 hf (fun hf => ?_)
        refine j_irem_f C dX9_link_103 hf (fun hf => ?_)
        refine j_istore_n C (fun y => [(3, .int y), (2, .int x1), (0, .ref (ad 0)), (1, .int p1)]) dX9_link_104 rfl (by decide) (fun _ => rfl) hf (fun x5 hf => ?_)
        refine j_iload_n C 0 dX9_link_105 rfl rfl ?_
        refine j_aload_n C 2 dX9_link_106 rfl rfl ?_
        refine j_get C 36 iX9_link_X9 h_0 rfl (by decide) mX9_link_f115 rfl rfl dX9_link_107 ?_
        refine j_iload_n C 3 dX9_link_110 rfl rfl ?_
        refine j_iald C 0 h_35 rfl dX9_link_111 hf (fun hf => ?_)
        refine j_isub C dX9_link_112 ?_
        refine j_aload_n C 2 dX9_link_113 rfl rfl ?_
        refine j_get C 30 iX9_link_X9 h_0 rfl (by decide) mX9_link_f97 rfl rfl dX9_link_114 ?_
        refine j_iload_n C 1 dX9_link_117 rfl rfl ?_
        refine j_iald C 0 h_29 rfl dX9_link_118 hf (fun hf => ?_)
        refine j_iadd C dX9_link_119 ?_
        refine j_aload_n C 2 dX9_link_120 rfl rfl ?_
        refine j_get C 30 iX9_link_X9 h_0 rfl (by decide) mX9_link_f97 rfl rfl dX9_link_121 ?_
        refine j_iload_n C 1 dX9_link_124 rfl rfl ?_
        refine j_iald C 0 h_29 rfl dX9_link_125 hf (fun hf => ?_)
        refine j_irem_f C dX9_link_126 hf (fun hf => ?_)
        refine j_istore C (fun y => [(4, .int y), (3, .int x5), (2, .int x1), (0, .ref (ad 0)), (1, .int p1)]) dX9_link_127 (by decide) (fun _ => rfl) hf (fun x6 hf => ?_)
        refine j_iload C 0 dX9_link_129 rfl ?_
        refine j_if_ne C 135 dX9_link_131 (by decide) hf (fun hf => ?_) (fun hf => ?_)
        · cases hf
          exact ret _ _ dX9_link_134
        · refine j_aload_n C 3 dX9_link_135 rfl rfl ?_
          refine j_get C 36 iX9_link_X9 h_0 rfl (by decide) mX9_link_f115 rfl rfl dX9_link_136 ?_
          refine j_iload_n C 4 dX9_link_139 rfl rfl ?_
          refine j_iload C 0 dX9_link_140 rfl ?_
          refine j_aload_n C 3 dX9_link_142 rfl rfl ?_
          refine j_get C 30 iX9_link_X9 h_0 rfl (by decide) mX9_link_f97 rfl rfl dX9_link_143 ?_
          refine j_iload_n C 2 dX9_link_146 rfl rfl ?_
          refine j_iald C 0 h_29 rfl dX9_link_147 hf (fun hf => ?_)
          refine j_iload C 0 dX9_link_148 rfl ?_
          refine j_isub C dX9_link_150 ?_
          obtain ⟨v7, h8, hf⟩ := bd hf
          have jj9 : jW (EM l D ad aI aZ aS aF) G K4 173 [(0, .ref (ad 0)), (1, .int p1), (2, .int x1), (3, .int x5), (4, .int x6)] [.int v7, .int p1, .ref (ad 35)] := by
            refine j_iast C 0 h_35 (t_35 _ _) rfl dX9_link_173 hf (fun K10 hf => ?_)
            refine j_aload_n C 0 dX9_link_174 rfl rfl ?_
            refine j_get C 36 iX9_link_X9 h_0 rfl (by decide) mX9_link_f115 rfl rfl dX9_link_175 ?_
            refine j_iload_n C 1 dX9_link_178 rfl rfl ?_
            refine j_aload_n C 0 dX9_link_179 rfl rfl ?_
            refine j_get C 36 iX9_link_X9 h_0 rfl (by decide) mX9_link_f115 rfl rfl dX9_link_180 ?_
            refine j_iload_n C 1 dX9_link_183 rfl rfl ?_
            refine j_iald C 0 h_35 rfl dX9_link_184 hf (fun hf => ?_)
            refine j_aload_n C 0 dX9_link_185 rfl rfl ?_
            refine j_get C 30 iX9_link_X9 h_0 rfl (by decide) mX9_link_f97 rfl rfl dX9_link_186 ?_
            refine j_iload_n C 2 dX9_link_189 rfl rfl ?_
            refine j_iald C 0 h_29 rfl dX9_link_190 hf (fun hf => ?_)
            refine j_iadd C dX9_link_191 ?_
            refine j_aload_n C 0 dX9_link_192 rfl rfl ?_
            refine j_get C 30 iX9_link_X9 h_0 rfl (by decide) mX9_link_f97 rfl rfl dX9_link_193 ?_
            refine j_iload_n C 2 dX9_link_196 rfl rfl ?_
            refine j_iald C 0 h_29 rfl dX9_link_197 hf (fun hf => ?_)
            refine j_irem_f C dX9_link_198 hf (fun hf => ?_)
            refine j_iast C 0 h_35 (t_35 _ _) rfl dX9_link_199 hf (fun K11 hf => ?_)
            cases hf
            exact ret _ _ dX9_link_200
          clear hf
          have hf := h8
          clear h8
          refine j_icmp_gt C 165 dX9_link_151 (by decide) hf (fun hf => ?_) (fun hf => ?_)
          · refine j_aload_n C 3 dX9_link_165 rfl rfl ?_
            refine j_get C 36 iX9_link_X9 h_0 rfl (by decide) mX9_link_f115 rfl rfl dX9_link_166 ?_
            refine j_iload_n C 4 dX9_link_169 rfl rfl ?_
            refine j_iald C 0 h_35 rfl dX9_link_170 hf (fun hf => ?_)
            refine j_iconst C (v := 1) dX9_link_171 (by decide) ?_
            refine j_isub C dX9_link_172 ?_
            cases hf
            refine j_sub [3, 4, 2, 1, 0] rfl ?_
            exact jj9
          · refine j_aload_n C 3 dX9_link_154 rfl rfl ?_
            refine j_get C 36 iX9_link_X9 h_0 rfl (by decide) mX9_link_f115 rfl rfl dX9_link_155 ?_
            refine j_iload_n C 4 dX9_link_158 rfl rfl ?_
            refine j_iald C 0 h_35 rfl dX9_link_159 hf (fun hf => ?_)
            refine j_iconst C (v := 1) dX9_link_160 (by decide) ?_
            refine j_iadd C dX9_link_161 ?_
            refine j_goto C 173 dX9_link_162 (by decide) ?_
            cases hf
            refine j_sub [3, 4, 2, 1, 0] rfl ?_
            exact jj9
      · cases hf
        exact ret _ _ dX9_link_71
  · cases hf
    exact ret _ _ dX9_link_11
/-- BarrierLightsModel.passes(II)Z -/
def f_X9_passes (p1 : Int32) (p2 : Int32) (K : Mem) : Option (Int32) := if inb ((8 * p1) + p2) 16 = true then (if (K 11 (ix ((8 * p1) + p2))) = 0 then (some 0) else ((f_X9_failed p1 p2 K).bind fun u1 => if u1 = 0 then (some 1) else (some 0))) else none
abbrev rmX9_passes : Room := { frames := 1, cells := 0, slots := 0, locals := 22 }
theorem iX9_passes_X9 : ∀ w ∈ u_ws RX9 TX9 37, w ∈ wsX9_passes := fun _ h => List.mem_cons_of_mem _ (List.mem_append_right _ h)
theorem mX9_passes_f42 : Cond.fieldLink RX9 42 "BarrierLightsModel" "on" "[Z" ∈ wsX9_passes := by decide +kernel
theorem hdX9_failed : yX9_failed.cls = RX9 ∧ yX9_failed.cls ≠ "java/lang/invoke/MethodHandle" ∧ yX9_failed.cls ≠ "java/lang/invoke/VarHandle" ∧ (parseMethodDescriptor yX9_failed.desc).map (fun d => d.parameters.length) = some 2 := by decide +kernel
set_option maxRecDepth 100000 in
set_option maxHeartbeats 4000000 in
theorem k_X9_passes {l : Launch} {D : va_G} {ad : Nat → Nat} {aI aZ aS aF : ClassId} {p1 : Int32} {p2 : Int32} {K : Mem} {u : Int32} (hf : f_X9_passes p1 p2 K = some u) : cI (EM l D ad aI aZ aS aF) yX9_passes wsX9_passes rmX9_passes [.ref (ad 0), .int p1, .int p2] K u K := by
  rw [f_X9_passes] at hf
  refine j_entI (cc := cX9_passes) (maxL := 3) (EM_ok l D ad aI aZ aS aF) (Or.inr rfl) (by decide) rfl (Nat.le_of_ble_eq_true rfl) (fun G C ret => ?_)
  refine j_sub [0, 1, 2] (lv2 := [(0, .ref (ad 0)), (1, .int p1), (2, .int p2)]) rfl ?_
  refine j_aload_n C 0 dX9_passes_0 rfl rfl ?_
  refine j_get C 12 iX9_passes_X9 h_0 rfl (by decide) mX9_passes_f42 rfl rfl dX9_passes_1 ?_
  refine j_bipush C (v := 8) dX9_passes_4 (by decide) ?_
  refine j_iload_n C 1 dX9_passes_6 rfl rfl ?_
  refine j_imul C dX9_passes_7 ?_
  refine j_iload_n C 2 dX9_passes_8 rfl rfl ?_
  refine j_iadd C dX9_passes_9 ?_
  refine j_zald C 1 h_11 rfl dX9_passes_10 hf (fun hf => ?_)
  refine j_if_eq C 27 dX9_passes_11 (by decide) hf (fun hf => ?_) (fun hf => ?_)
  · refine j_iconst C (v := 0) dX9_passes_27 (by decide) ?_
    cases hf
    exact ret _ _ dX9_passes_28 (fun _ => rfl)
  · refine j_aload_n C 0 dX9_passes_14 rfl rfl ?_
    refine j_iload_n C 1 dX9_passes_15 rfl rfl ?_
    refine j_iload_n C 2 dX9_passes_16 rfl rfl ?_
    obtain ⟨u1, h2, hf⟩ := bd hf
    refine j_cVI C [.int p1, .int p2] gX9_passes_X9_failed rfl hdX9_failed ⟨⟨rfl, rfl⟩, Nat.le_of_ble_eq_true rfl, Nat.le_of_ble_eq_true rfl⟩ rfl h_0 rfl (k_X9_failed h2) dX9_passes_17 rfl (Nat.le_of_ble_eq_true rfl) ?_
    refine j_if_ne C 27 dX9_passes_20 (by decide) hf (fun hf => ?_) (fun hf => ?_)
    · refine j_iconst C (v := 1) dX9_passes_23 (by decide) ?_
      refine j_goto C 28 dX9_passes_24 (by decide) ?_
      cases hf
      exact ret _ _ dX9_passes_28 (fun _ => rfl)
    · refine j_iconst C (v := 0) dX9_passes_27 (by decide) ?_
      cases hf
      exact ret _ _ dX9_passes_28 (fun _ => rfl)
/-- BarrierLightsModel.call(I)V -/
def f_X9_call_L2 (c1 : Int32) : Nat → Int32 → Mem → Option (Int32 × Mem)
  | 0, _, _ => none
  | n + 1, y2, K => if 8 ≤ y2 then (some (y2, K)) else (lt ((8 * c1) + y2) fun x2 => (f_X9_entry c1 y2 7 K).bind fun u3 => lt u3 fun x5 => if inb x2 16 = true then ((if (K 8 (ix x2)) = 0 then (some K) else ((f_X9_isGreen c1 y2 K).bind fun u9 => if u9 = 0 then (if inb x2 16 = true then ((if (K 11 (ix x2)) = 0 then ((f_X9_failed c1 y2 K).bind fun u14 => if u14 = 0 then (if x5 = 1 then (if inb x2 16 = true then (st K 9 (ix x2) (vp_nar .boolean 1) fun K16 => some K16) else none) else (if x5 = 2 then (if inb x2 16 = true then (st K 9 (ix x2) (vp_nar .boolean 1) fun K17 => some K17) else none) else (some K))) else (if inb x2 16 = true then (st K 9 (ix x2) (vp_nar .boolean 1) fun K18 => some K18) else none)) else (if inb x2 16 = true then (st K 9 (ix x2) (vp_nar .boolean 1) fun K19 => some K19) else none) : Option (Mem)).bind fun v11 => if x5 = 3 then (if inb x2 16 = true then (st v11 10 (ix x2) (vp_nar .boolean 1) fun K20 => some K20) else none) else (some v11)) else none) else ((f_X9_ringOf c1 y2 K).bind fun u21 => lt u21 fun x23 => (f_X9_passes c1 y2 K).bind fun u24 => (if u24 = 0 then (if x5 = 2 then ((f_X9_entry c1 y2 1 K).bind fun u29 => if inb x23 4 = true then (st K 24 (ix x23) u29 fun K31 => some K31) else none) else (if inb x23 4 = true then (if (K 24 (ix x23)) ≤ 0 then (some K) else (if inb x23 4 = true then (if inb x23 4 = true then (st K 24 (ix x23) ((K 24 (ix x23)) - 1) fun K32 => some K32) else none) else none)) else none)) else ((f_X9_entry c1 y2 1 K).bind fun u33 => if inb x23 4 = true then (st K 24 (ix x23) u33 fun K35 => some K35) else none) : Option (Mem)).bind fun v26 => some v26)) : Option (Mem)).bind fun v6 => lt (y2 + 1) fun x36 => f_X9_call_L2 c1 n x36 v6) else none)
def f_X9_call (p1 : Int32) (K : Mem) : Option (Mem) := lt 0 fun x1 => (f_X9_call_L2 p1 70 x1 K).bind fun v37 => some v37.2
abbrev rmX9_call : Room := { frames := 2, cells := 0, slots := 0, locals := 44 }
theorem iX9_call_X9 : ∀ w ∈ u_ws RX9 TX9 37, w ∈ wsX9_call := fun _ h => List.mem_cons_of_mem _ (List.mem_append_right _ h)
theorem mX9_call_f33 : Cond.fieldLink RX9 33 "BarrierLightsModel" "used" "[Z" ∈ wsX9_call := by decide +kernel
theorem mX9_call_f42 : Cond.fieldLink RX9 42 "BarrierLightsModel" "on" "[Z" ∈ wsX9_call := by decide +kernel
theorem mX9_call_f36 : Cond.fieldLink RX9 36 "BarrierLightsModel" "calls" "[Z" ∈ wsX9_call := by decide +kernel
theorem mX9_call_f39 : Cond.fieldLink RX9 39 "BarrierLightsModel" "walkCalls" "[Z" ∈ wsX9_call := by decide +kernel
theorem hdX9_passes : yX9_passes.cls = RX9 ∧ yX9_passes.cls ≠ "java/lang/invoke/MethodHandle" ∧ yX9_passes.cls ≠ "java/lang/invoke/VarHandle" ∧ (parseMethodDescriptor yX9_passes.desc).map (fun d => d.parameters.length) = some 2 := by decide +kernel
theorem mX9_call_f82 : Cond.fieldLink RX9 82 "BarrierLightsModel" "gap" "[I" ∈ wsX9_call := by decide +kernel
set_option maxRecDepth 100000 in
set_option maxHeartbeats 4000000 in
theorem lp_X9_call_L2 {l : Launch} {D : va_G} {ad : Nat → Nat} {aI aZ aS aF : ClassId} {G : jG} {c1 : Int32} (C : jC (EM l D ad aI aZ aS aF) G cX9_call yX9_call.cls wsX9_call rmX9_call 6) : ∀ (n : Nat) (y2 : Int32) (K : Mem) (v : Int32 × Mem), f_X9_call_L2 c1 n y2 K = some v → jW (EM l D ad aI aZ aS aF) G v.2 165 [(0, .ref (ad 0)), (1, .int c1), (2, .int v.1)] [] → jW (EM l D ad aI aZ aS aF) G K 2 [(0, .ref (ad 0)), (1, .int c1), (2, .int y2)] [] := by
  intro n
  induction n with
  | zero =>
    intro y2 K v hf jj
    rw [f_X9_call_L2] at hf
    cases hf
  | succ n ih =>
    intro y2 K v hf jj
    rw [f_X9_call_L2] at hf
    refine j_iload_n C 2 dX9_call_2 rfl rfl ?_
    refine j_bipush C (v := 8) dX9_call_3 (by decide) ?_
    refine j_icmp_ge C 165 dX9_call_5 (by decide) hf (fun hf => ?_) (fun hf => ?_)
    · cases hf
      exact jj
    · refine j_bipush C (v := 8) dX9_call_8 (by decide) ?_
      refine j_iload_n C 1 dX9_call_10 rfl rfl ?_
      refine j_imul C dX9_call_11 ?_
      refine j_iload_n C 2 dX9_call_12 rfl rfl ?_
      refine j_iadd C dX9_call_13 ?_
      refine j_istore_n C (fun y => [(3, .int y), (0, .ref (ad 0)), (1, .int c1), (2, .int y2)]) dX9_call_14 rfl (by decide) (fun _ => rfl) hf (fun x2 hf => ?_)
      refine j_aload_n C 1 dX9_call_15 rfl rfl ?_
      refine j_iload_n C 2 dX9_call_16 rfl rfl ?_
      refine j_iload_n C 3 dX9_call_17 rfl rfl ?_
      refine j_bipush C (v := 7) dX9_call_18 (by decide) ?_
      obtain ⟨u3, h4, hf⟩ := bd hf
      refine j_cVI C [.int c1, .int y2, .int 7] gX9_call_X9_entry rfl hdX9_entry ⟨⟨rfl, rfl⟩, Nat.le_of_ble_eq_true rfl, Nat.le_of_ble_eq_true rfl⟩ rfl h_0 rfl (k_X9_entry h4) dX9_call_20 rfl (Nat.le_of_ble_eq_true rfl) ?_
      refine j_istore C (fun y => [(4, .int y), (3, .int x2), (0, .ref (ad 0)), (1, .int c1), (2, .int y2)]) dX9_call_23 (by decide) (fun _ => rfl) hf (fun x5 hf => ?_)
      refine j_aload_n C 2 dX9_call_25 rfl rfl ?_
      refine j_get C 9 iX9_call_X9 h_0 rfl (by decide) mX9_call_f33 rfl rfl dX9_call_26 ?_
      refine j_iload_n C 1 dX9_call_29 rfl rfl ?_
      refine j_zald C 1 h_8 rfl dX9_call_30 hf (fun hf => ?_)
      obtain ⟨v6, h7, hf⟩ := bd hf
      have jj8 : jW (EM l D ad aI aZ aS aF) G v6 159 [(0, .ref (ad 0)), (1, .int c1), (2, .int y2), (3, .int x2), (4, .int x5)] [] := by
        refine j_iinc C (v := (y2 + 1)) 2 (fun y => [(2, .int y), (0, .ref (ad 0)), (1, .int c1), (3, .int x2), (4, .int x5)]) dX9_call_159 rfl rfl (by decide) (fun _ => rfl) hf (fun x36 hf => ?_)
        refine j_goto C 2 dX9_call_162 (by decide) ?_
        refine j_sub [1, 2, 0] rfl ?_
        exact ih _ _ _ hf jj
      clear hf
      have hf := h7
      clear h7
      refine j_if_ne C 37 dX9_call_31 (by decide) hf (fun hf => ?_) (fun hf => ?_)
      · refine j_goto C 159 dX9_call_34 (by decide) ?_
        cases hf
        refine j_sub [2, 3, 4, 1, 0] rfl ?_
        exact jj8
      · refine j_aload_n C 2 dX9_call_37 rfl rfl ?_
        refine j_iload_n C 3 dX9_call_38 rfl rfl ?_
        refine j_iload_n C 4 dX9_call_39 rfl rfl ?_
        obtain ⟨u9, h10, hf⟩ := bd hf
        refine j_cVI C [.int c1, .int y2] gX9_call_X9_isGreen rfl hdX9_isGreen ⟨⟨rfl, rfl⟩, Nat.le_of_ble_eq_true rfl, Nat.le_of_ble_eq_true rfl⟩ rfl h_0 rfl (k_X9_isGreen h10) dX9_call_40 rfl (Nat.le_of_ble_eq_true rfl) ?_
        refine j_if_eq C 109 dX9_call_43 (by decide) hf (fun hf => ?_) (fun hf => ?_)
        · refine j_aload_n C 2 dX9_call_109 rfl rfl ?_
          refine j_get C 12 iX9_call_X9 h_0 rfl (by decide) mX9_call_f42 rfl rfl dX9_call_110 ?_
          refine j_iload_n C 1 dX9_call_113 rfl rfl ?_
          refine j_zald C 1 h_11 rfl dX9_call_114 hf (fun hf => ?_)
          obtain ⟨v11, h12, hf⟩ := bd hf
          have jj13 : jW (EM l D ad aI aZ aS aF) G v11 146 [(0, .ref (ad 0)), (1, .int c1), (2, .int y2), (3, .int x2), (4, .int x5)] [] := by
            refine j_iload C 4 dX9_call_146 rfl ?_
            refine j_iconst C (v := 3) dX9_call_148 (by decide) ?_
            refine j_icmp_ne C 159 dX9_call_149 (by decide) hf (fun hf => ?_) (fun hf => ?_)
            · refine j_aload_n C 0 dX9_call_152 rfl rfl ?_
              refine j_get C 11 iX9_call_X9 h_0 rfl (by decide) mX9_call_f39 rfl rfl dX9_call_153 ?_
              refine j_iload_n C 3 dX9_call_156 rfl rfl ?_
              refine j_iconst C (v := 1) dX9_call_157 (by decide) ?_
              refine j_zast C 1 h_10 (t_10 _ _) rfl dX9_call_158 hf (fun K20 hf => ?_)
              cases hf
              exact jj8
            · cases hf
              exact jj8
          clear hf
          have hf := h12
          clear h12
          refine j_if_ne C 139 dX9_call_115 (by decide) hf (fun hf => ?_) (fun hf => ?_)
          · refine j_aload_n C 2 dX9_call_118 rfl rfl ?_
            refine j_iload_n C 3 dX9_call_119 rfl rfl ?_
            refine j_iload_n C 4 dX9_call_120 rfl rfl ?_
            obtain ⟨u14, h15, hf⟩ := bd hf
            refine j_cVI C [.int c1, .int y2] gX9_call_X9_failed rfl hdX9_failed ⟨⟨rfl, rfl⟩, Nat.le_of_ble_eq_true rfl, Nat.le_of_ble_eq_true rfl⟩ rfl h_0 rfl (k_X9_failed h15) dX9_call_121 rfl (Nat.le_of_ble_eq_true rfl) ?_
            refine j_if_ne C 139 dX9_call_124 (by decide) hf (fun hf => ?_) (fun hf => ?_)
            · refine j_iload C 0 dX9_call_127 rfl ?_
              refine j_iconst C (v := 1) dX9_call_129 (by decide) ?_
              refine j_icmp_eq C 139 dX9_call_130 (by decide) hf (fun hf => ?_) (fun hf => ?_)
              · refine j_aload_n C 2 dX9_call_139 rfl rfl ?_
                refine j_get C 10 iX9_call_X9 h_0 rfl (by decide) mX9_call_f36 rfl rfl dX9_call_140 ?_
                refine j_iload_n C 1 dX9_call_143 rfl rfl ?_
                refine j_iconst C (v := 1) dX9_call_144 (by decide) ?_
                refine j_zast C 1 h_9 (t_9 _ _) rfl dX9_call_145 hf (fun K16 hf => ?_)
                cases hf
                refine j_sub [2, 3, 4, 1, 0] rfl ?_
                exact jj13
              · refine j_iload C 0 dX9_call_133 rfl ?_
                refine j_iconst C (v := 2) dX9_call_135 (by decide) ?_
                refine j_icmp_ne C 146 dX9_call_136 (by decide) hf (fun hf => ?_) (fun hf => ?_)
                · refine j_aload_n C 2 dX9_call_139 rfl rfl ?_
                  refine j_get C 10 iX9_call_X9 h_0 rfl (by decide) mX9_call_f36 rfl rfl dX9_call_140 ?_
                  refine j_iload_n C 1 dX9_call_143 rfl rfl ?_
                  refine j_iconst C (v := 1) dX9_call_144 (by decide) ?_
                  refine j_zast C 1 h_9 (t_9 _ _) rfl dX9_call_145 hf (fun K17 hf => ?_)
                  cases hf
                  refine j_sub [2, 3, 4, 1, 0] rfl ?_
                  exact jj13
                · cases hf
                  refine j_sub [2, 3, 4, 1, 0] rfl ?_
                  exact jj13
            · refine j_aload_n C 2 dX9_call_139 rfl rfl ?_
              refine j_get C 10 iX9_call_X9 h_0 rfl (by decide) mX9_call_f36 rfl rfl dX9_call_140 ?_
              refine j_iload_n C 1 dX9_call_143 rfl rfl ?_
              refine j_iconst C (v := 1) dX9_call_144 (by decide) ?_
              refine j_zast C 1 h_9 (t_9 _ _) rfl dX9_call_145 hf (fun K18 hf => ?_)
              cases hf
              refine j_sub [2, 3, 4, 1, 0] rfl ?_
              exact jj13
          · refine j_aload_n C 2 dX9_call_139 rfl rfl ?_
            refine j_get C 10 iX9_call_X9 h_0 rfl (by decide) mX9_call_f36 rfl rfl dX9_call_140 ?_
            refine j_iload_n C 1 dX9_call_143 rfl rfl ?_
            refine j_iconst C (v := 1) dX9_call_144 (by decide) ?_
            refine j_zast C 1 h_9 (t_9 _ _) rfl dX9_call_145 hf (fun K19 hf => ?_)
            cases hf
            refine j_sub [2, 3, 4, 1, 0] rfl ?_
            exact jj13
        · refine j_iload_n C 3 dX9_call_46 rfl rfl ?_
          refine j_iload_n C 4 dX9_call_47 rfl rfl ?_
          obtain ⟨u21, h22, hf⟩ := bd hf
          refine j_cSI C [.int c1, .int y2] gX9_call_X9_ringOf rfl hdX9_ringOf.2 ⟨⟨rfl, rfl⟩, Nat.le_of_ble_eq_true rfl, Nat.le_of_ble_eq_true rfl⟩ rfl (k_X9_ringOf h22) dX9_call_48 rfl (Nat.le_of_ble_eq_true rfl) ?_
          refine j_istore C (fun y => [(5, .int y), (4, .int x5), (3, .int x2), (0, .ref (ad 0)), (1, .int c1), (2, .int y2)]) dX9_call_51 (by decide) (fun _ => rfl) hf (fun x23 hf => ?_)
          refine j_aload_n C 3 dX9_call_53 rfl rfl ?_
          refine j_iload_n C 4 dX9_call_54 rfl rfl ?_
          refine j_iload_n C 5 dX9_call_55 rfl rfl ?_
          obtain ⟨u24, h25, hf⟩ := bd hf
          refine j_cVI C [.int c1, .int y2] gX9_call_X9_passes rfl hdX9_passes ⟨⟨rfl, rfl⟩, Nat.le_of_ble_eq_true rfl, Nat.le_of_ble_eq_true rfl⟩ rfl h_0 rfl (k_X9_passes h25) dX9_call_56 rfl (Nat.le_of_ble_eq_true rfl) ?_
          obtain ⟨v26, h27, hf⟩ := bd hf
          have jj28 : jW (EM l D ad aI aZ aS aF) G v26 106 [(0, .ref (ad 0)), (1, .int c1), (2, .int y2), (3, .int x2), (4, .int x5), (5, .int x23)] [] := by
            refine j_goto C 159 dX9_call_106 (by decide) ?_
            cases hf
            refine j_sub [0, 1, 2, 3, 4] rfl ?_
            exact jj8
          clear hf
          have hf := h27
          clear h27
          refine j_if_ne C 68 dX9_call_59 (by decide) hf (fun hf => ?_) (fun hf => ?_)
          · refine j_iload C 1 dX9_call_62 rfl ?_
            refine j_iconst C (v := 2) dX9_call_64 (by decide) ?_
            refine j_icmp_ne C 85 dX9_call_65 (by decide) hf (fun hf => ?_) (fun hf => ?_)
            · refine j_aload_n C 3 dX9_call_68 rfl rfl ?_
              refine j_get C 25 iX9_call_X9 h_0 rfl (by decide) mX9_call_f82 rfl rfl dX9_call_69 ?_
              refine j_iload C 0 dX9_call_72 rfl ?_
              refine j_aload_n C 3 dX9_call_74 rfl rfl ?_
              refine j_iload_n C 4 dX9_call_75 rfl rfl ?_
              refine j_iload_n C 5 dX9_call_76 rfl rfl ?_
              refine j_iconst C (v := 1) dX9_call_77 (by decide) ?_
              obtain ⟨u29, h30, hf⟩ := bd hf
              refine j_cVI C [.int c1, .int y2, .int 1] gX9_call_X9_entry rfl hdX9_entry ⟨⟨rfl, rfl⟩, Nat.le_of_ble_eq_true rfl, Nat.le_of_ble_eq_true rfl⟩ rfl h_0 rfl (k_X9_entry h30) dX9_call_78 rfl (Nat.le_of_ble_eq_true rfl) ?_
              refine j_iast C 0 h_24 (t_24 _ _) rfl dX9_call_81 hf (fun K31 hf => ?_)
              refine j_goto C 106 dX9_call_82 (by decide) ?_
              cases hf
              refine j_sub [3, 4, 5, 2, 1, 0] rfl ?_
              exact jj28
            · refine j_aload_n C 3 dX9_call_85 rfl rfl ?_
              refine j_get C 25 iX9_call_X9 h_0 rfl (by decide) mX9_call_f82 rfl rfl dX9_call_86 ?_
              refine j_iload C 0 dX9_call_89 rfl ?_
              refine j_iald C 0 h_24 rfl dX9_call_91 hf (fun hf => ?_)
              refine j_if_le C 106 dX9_call_92 (by decide) hf (fun hf => ?_) (fun hf => ?_)
              · cases hf
                refine j_sub [3, 4, 5, 2, 1, 0] rfl ?_
                exact jj28
              · refine j_aload_n C 3 dX9_call_95 rfl rfl ?_
                refine j_get C 25 iX9_call_X9 h_0 rfl (by decide) mX9_call_f82 rfl rfl dX9_call_96 ?_
                refine j_iload C 0 dX9_call_99 rfl ?_
                refine j_dup2 C dX9_call_101 rfl rfl ?_
                refine j_iald C 0 h_24 rfl dX9_call_102 hf (fun hf => ?_)
                refine j_iconst C (v := 1) dX9_call_103 (by decide) ?_
                refine j_isub C dX9_call_104 ?_
                refine j_iast C 0 h_24 (t_24 _ _) rfl dX9_call_105 hf (fun K32 hf => ?_)
                cases hf
                refine j_sub [3, 4, 5, 2, 1, 0] rfl ?_
                exact jj28
          · refine j_aload_n C 3 dX9_call_68 rfl rfl ?_
            refine j_get C 25 iX9_call_X9 h_0 rfl (by decide) mX9_call_f82 rfl rfl dX9_call_69 ?_
            refine j_iload C 0 dX9_call_72 rfl ?_
            refine j_aload_n C 3 dX9_call_74 rfl rfl ?_
            refine j_iload_n C 4 dX9_call_75 rfl rfl ?_
            refine j_iload_n C 5 dX9_call_76 rfl rfl ?_
            refine j_iconst C (v := 1) dX9_call_77 (by decide) ?_
            obtain ⟨u33, h34, hf⟩ := bd hf
            refine j_cVI C [.int c1, .int y2, .int 1] gX9_call_X9_entry rfl hdX9_entry ⟨⟨rfl, rfl⟩, Nat.le_of_ble_eq_true rfl, Nat.le_of_ble_eq_true rfl⟩ rfl h_0 rfl (k_X9_entry h34) dX9_call_78 rfl (Nat.le_of_ble_eq_true rfl) ?_
            refine j_iast C 0 h_24 (t_24 _ _) rfl dX9_call_81 hf (fun K35 hf => ?_)
            refine j_goto C 106 dX9_call_82 (by decide) ?_
            cases hf
            refine j_sub [3, 4, 5, 2, 1, 0] rfl ?_
            exact jj28
set_option maxRecDepth 100000 in
set_option maxHeartbeats 4000000 in
theorem k_X9_call {l : Launch} {D : va_G} {ad : Nat → Nat} {aI aZ aS aF : ClassId} {p1 : Int32} {K : Mem} {u : Mem} (hf : f_X9_call p1 K = some u) : cV (EM l D ad aI aZ aS aF) yX9_call wsX9_call rmX9_call [.ref (ad 0), .int p1] K u := by
  rw [f_X9_call] at hf
  refine j_entV (cc := cX9_call) (maxL := 6) (EM_ok l D ad aI aZ aS aF) (by decide) rfl (Nat.le_of_ble_eq_true rfl) (fun G C ret => ?_)
  refine j_sub [0, 1] (lv2 := [(0, .ref (ad 0)), (1, .int p1)]) rfl ?_
  refine j_iconst C (v := 0) dX9_call_0 (by decide) ?_
  refine j_istore_n C (fun y => [(2, .int y), (0, .ref (ad 0)), (1, .int p1)]) dX9_call_1 rfl (by decide) (fun _ => rfl) hf (fun x1 hf => ?_)
  obtain ⟨v37, h38, hf⟩ := bd hf
  refine j_sub [1, 2, 0] (lv2 := [(0, .ref (ad 0)), (1, .int p1), (2, .int x1)]) rfl ?_
  refine lp_X9_call_L2 C 70 _ _ _ h38 ?_
  cases hf
  exact ret _ _ dX9_call_165
/-- BarrierLightsModel.beginWalk(II)V -/
def f_X9_beginWalk (p1 : Int32) (p2 : Int32) (K : Mem) : Option (Mem) := if inb p2 4 = true then (st K 25 (ix p2) 1 fun K1 => if inb p2 4 = true then (st K1 26 (ix p2) 0 fun K2 => if inb p2 4 = true then (if inb ((8 * p1) + (K2 20 (ix p2))) 16 = true then (st K2 10 (ix ((8 * p1) + (K2 20 (ix p2)))) (vp_nar .boolean 0) fun K3 => some K3) else none) else none) else none) else none
abbrev rmX9_beginWalk : Room := { frames := 0, cells := 0, slots := 0, locals := 0 }
theorem iX9_beginWalk_X9 : ∀ w ∈ u_ws RX9 TX9 37, w ∈ wsX9_beginWalk := fun _ h => List.mem_cons_of_mem _ (List.mem_append_right _ h)
theorem mX9_beginWalk_f85 : Cond.fieldLink RX9 85 "BarrierLightsModel" "walker" "[I" ∈ wsX9_beginWalk := by decide +kernel
theorem mX9_beginWalk_f88 : Cond.fieldLink RX9 88 "BarrierLightsModel" "walked" "[I" ∈ wsX9_beginWalk := by decide +kernel
theorem mX9_beginWalk_f39 : Cond.fieldLink RX9 39 "BarrierLightsModel" "walkCalls" "[Z" ∈ wsX9_beginWalk := by decide +kernel
theorem mX9_beginWalk_f70 : Cond.fieldLink RX9 70 "BarrierLightsModel" "phase" "[I" ∈ wsX9_beginWalk := by decide +kernel
set_option maxRecDepth 100000 in
set_option maxHeartbeats 4000000 in
theorem k_X9_beginWalk {l : Launch} {D : va_G} {ad : Nat → Nat} {aI aZ aS aF : ClassId} {p1 : Int32} {p2 : Int32} {K : Mem} {u : Mem} (hf : f_X9_beginWalk p1 p2 K = some u) : cV (EM l D ad aI aZ aS aF) yX9_beginWalk wsX9_beginWalk rmX9_beginWalk [.ref (ad 0), .int p1, .int p2] K u := by
  rw [f_X9_beginWalk] at hf
  refine j_entV (cc := cX9_beginWalk) (maxL := 3) (EM_ok l D ad aI aZ aS aF) (by decide) rfl (Nat.le_of_ble_eq_true rfl) (fun G C ret => ?_)
  refine j_sub [0, 1, 2] (lv2 := [(0, .ref (ad 0)), (1, .int p1), (2, .int p2)]) rfl ?_
  refine j_aload_n C 0 dX9_beginWalk_0 rfl rfl ?_
  refine j_get C 26 iX9_beginWalk_X9 h_0 rfl (by decide) mX9_beginWalk_f85 rfl rfl dX9_beginWalk_1 ?_
  refine j_iload_n C 2 dX9_beginWalk_4 rfl rfl ?_
  refine j_iconst C (v := 1) dX9_beginWalk_5 (by decide) ?_
  refine j_iast C 0 h_25 (t_25 _ _) rfl dX9_beginWalk_6 hf (fun K1 hf => ?_)
  refine j_aload_n C 0 dX9_beginWalk_7 rfl rfl ?_
  refine j_get C 27 iX9_beginWalk_X9 h_0 rfl (by decide) mX9_beginWalk_f88 rfl rfl dX9_beginWalk_8 ?_
  refine j_iload_n C 2 dX9_beginWalk_11 rfl rfl ?_
  refine j_iconst C (v := 0) dX9_beginWalk_12 (by decide) ?_
  refine j_iast C 0 h_26 (t_26 _ _) rfl dX9_beginWalk_13 hf (fun K2 hf => ?_)
  refine j_aload_n C 0 dX9_beginWalk_14 rfl rfl ?_
  refine j_get C 11 iX9_beginWalk_X9 h_0 rfl (by decide) mX9_beginWalk_f39 rfl rfl dX9_beginWalk_15 ?_
  refine j_bipush C (v := 8) dX9_beginWalk_18 (by decide) ?_
  refine j_iload_n C 1 dX9_beginWalk_20 rfl rfl ?_
  refine j_imul C dX9_beginWalk_21 ?_
  refine j_aload_n C 0 dX9_beginWalk_22 rfl rfl ?_
  refine j_get C 21 iX9_beginWalk_X9 h_0 rfl (by decide) mX9_beginWalk_f70 rfl rfl dX9_beginWalk_23 ?_
  refine j_iload_n C 2 dX9_beginWalk_26 rfl rfl ?_
  refine j_iald C 0 h_20 rfl dX9_beginWalk_27 hf (fun hf => ?_)
  refine j_iadd C dX9_beginWalk_28 ?_
  refine j_iconst C (v := 0) dX9_beginWalk_29 (by decide) ?_
  refine j_zast C 1 h_10 (t_10 _ _) rfl dX9_beginWalk_30 hf (fun K3 hf => ?_)
  cases hf
  exact ret _ _ dX9_beginWalk_31
/-- BarrierLightsModel.begin(II)V -/
def f_X9_begin (p1 : Int32) (p2 : Int32) (K : Mem) : Option (Mem) := (f_X9_ringOf p1 p2 K).bind fun u1 => lt u1 fun x3 => if inb x3 4 = true then (st K 19 (ix x3) 1 fun K4 => if inb x3 4 = true then (st K4 20 (ix x3) p2 fun K5 => if inb x3 4 = true then (st K5 21 (ix x3) (-1) fun K6 => if inb x3 4 = true then (st K6 22 (ix x3) 0 fun K7 => if inb ((8 * p1) + p2) 16 = true then (st K7 9 (ix ((8 * p1) + p2)) (vp_nar .boolean 0) fun K8 => if inb x3 4 = true then (st K8 23 (ix x3) 0 fun K9 => (f_X9_passes p1 p2 K9).bind fun u10 => (if u10 = 0 then (some 0) else ((f_X9_entry p1 p2 1 K9).bind fun u15 => some u15) : Option (Int32)).bind fun v12 => if inb x3 4 = true then (st K9 24 (ix x3) v12 fun K17 => if inb x3 4 = true then (st K17 25 (ix x3) 0 fun K18 => (f_X9_entry p1 p2 5 K18).bind fun u19 => if u19 ≤ 0 then (some K18) else (if inb ((8 * p1) + p2) 16 = true then (if (K18 10 (ix ((8 * p1) + p2))) = 0 then ((f_X9_entry p1 p2 7 K18).bind fun u21 => if u21 = 3 then ((f_X9_beginWalk p1 x3 K18).bind fun u23 => some u23) else (some K18)) else ((f_X9_beginWalk p1 x3 K18).bind fun u25 => some u25)) else none)) else none) else none) else none) else none) else none) else none) else none) else none
abbrev rmX9_begin : Room := { frames := 2, cells := 0, slots := 0, locals := 44 }
theorem iX9_begin_X9 : ∀ w ∈ u_ws RX9 TX9 37, w ∈ wsX9_begin := fun _ h => List.mem_cons_of_mem _ (List.mem_append_right _ h)
theorem mX9_begin_f67 : Cond.fieldLink RX9 67 "BarrierLightsModel" "state" "[I" ∈ wsX9_begin := by decide +kernel
theorem mX9_begin_f70 : Cond.fieldLink RX9 70 "BarrierLightsModel" "phase" "[I" ∈ wsX9_begin := by decide +kernel
theorem mX9_begin_f73 : Cond.fieldLink RX9 73 "BarrierLightsModel" "follows" "[I" ∈ wsX9_begin := by decide +kernel
theorem mX9_begin_f76 : Cond.fieldLink RX9 76 "BarrierLightsModel" "age" "[I" ∈ wsX9_begin := by decide +kernel
theorem mX9_begin_f36 : Cond.fieldLink RX9 36 "BarrierLightsModel" "calls" "[Z" ∈ wsX9_begin := by decide +kernel
theorem mX9_begin_f79 : Cond.fieldLink RX9 79 "BarrierLightsModel" "against" "[I" ∈ wsX9_begin := by decide +kernel
theorem mX9_begin_f82 : Cond.fieldLink RX9 82 "BarrierLightsModel" "gap" "[I" ∈ wsX9_begin := by decide +kernel
theorem mX9_begin_f85 : Cond.fieldLink RX9 85 "BarrierLightsModel" "walker" "[I" ∈ wsX9_begin := by decide +kernel
theorem mX9_begin_f39 : Cond.fieldLink RX9 39 "BarrierLightsModel" "walkCalls" "[Z" ∈ wsX9_begin := by decide +kernel
theorem hdX9_beginWalk : yX9_beginWalk.cls = RX9 ∧ yX9_beginWalk.cls ≠ "java/lang/invoke/MethodHandle" ∧ yX9_beginWalk.cls ≠ "java/lang/invoke/VarHandle" ∧ (parseMethodDescriptor yX9_beginWalk.desc).map (fun d => d.parameters.length) = some 2 := by decide +kernel
set_option maxRecDepth 100000 in
set_option maxHeartbeats 4000000 in
theorem k_X9_begin {l : Launch} {D : va_G} {ad : Nat → Nat} {aI aZ aS aF : ClassId} {p1 : Int32} {p2 : Int32} {K : Mem} {u : Mem} (hf : f_X9_begin p1 p2 K = some u) : cV (EM l D ad aI aZ aS aF) yX9_begin wsX9_begin rmX9_begin [.ref (ad 0), .int p1, .int p2] K u := by
  rw [f_X9_begin] at hf
  refine j_entV (cc := cX9_begin) (maxL := 4) (EM_ok l D ad aI aZ aS aF) (by decide) rfl (Nat.le_of_ble_eq_true rfl) (fun G C ret => ?_)
  refine j_sub [0, 1, 2] (lv2 := [(0, .ref (ad 0)), (1, .int p1), (2, .int p2)]) rfl ?_
  refine j_iload_n C 1 dX9_begin_0 rfl rfl ?_
  refine j_iload_n C 2 dX9_begin_1 rfl rfl ?_
  obtain ⟨u1, h2, hf⟩ := bd hf
  refine j_cSI C [.int p1, .int p2] gX9_begin_X9_ringOf rfl hdX9_ringOf.2 ⟨⟨rfl, rfl⟩, Nat.le_of_ble_eq_true rfl, Nat.le_of_ble_eq_true rfl⟩ rfl (k_X9_ringOf h2) dX9_begin_2 rfl (Nat.le_of_ble_eq_true rfl) ?_
  refine j_istore_n C (fun y => [(3, .int y), (0, .ref (ad 0)), (1, .int p1), (2, .int p2)]) dX9_begin_5 rfl (by decide) (fun _ => rfl) hf (fun x3 hf => ?_)
  refine j_aload_n C 1 dX9_begin_6 rfl rfl ?_
  refine j_get C 20 iX9_begin_X9 h_0 rfl (by decide) mX9_begin_f67 rfl rfl dX9_begin_7 ?_
  refine j_iload_n C 0 dX9_begin_10 rfl rfl ?_
  refine j_iconst C (v := 1) dX9_begin_11 (by decide) ?_
  refine j_iast C 0 h_19 (t_19 _ _) rfl dX9_begin_12 hf (fun K4 hf => ?_)
  refine j_aload_n C 1 dX9_begin_13 rfl rfl ?_
  refine j_get C 21 iX9_begin_X9 h_0 rfl (by decide) mX9_begin_f70 rfl rfl dX9_begin_14 ?_
  refine j_iload_n C 0 dX9_begin_17 rfl rfl ?_
  refine j_iload_n C 3 dX9_begin_18 rfl rfl ?_
  refine j_iast C 0 h_20 (t_20 _ _) rfl dX9_begin_19 hf (fun K5 hf => ?_)
  refine j_aload_n C 1 dX9_begin_20 rfl rfl ?_
  refine j_get C 22 iX9_begin_X9 h_0 rfl (by decide) mX9_begin_f73 rfl rfl dX9_begin_21 ?_
  refine j_iload_n C 0 dX9_begin_24 rfl rfl ?_
  refine j_iconst C (v := (-1)) dX9_begin_25 (by decide) ?_
  refine j_iast C 0 h_21 (t_21 _ _) rfl dX9_begin_26 hf (fun K6 hf => ?_)
  refine j_aload_n C 1 dX9_begin_27 rfl rfl ?_
  refine j_get C 23 iX9_begin_X9 h_0 rfl (by decide) mX9_begin_f76 rfl rfl dX9_begin_28 ?_
  refine j_iload_n C 0 dX9_begin_31 rfl rfl ?_
  refine j_iconst C (v := 0) dX9_begin_32 (by decide) ?_
  refine j_iast C 0 h_22 (t_22 _ _) rfl dX9_begin_33 hf (fun K7 hf => ?_)
  refine j_aload_n C 1 dX9_begin_34 rfl rfl ?_
  refine j_get C 10 iX9_begin_X9 h_0 rfl (by decide) mX9_begin_f36 rfl rfl dX9_begin_35 ?_
  refine j_bipush C (v := 8) dX9_begin_38 (by decide) ?_
  refine j_iload_n C 2 dX9_begin_40 rfl rfl ?_
  refine j_imul C dX9_begin_41 ?_
  refine j_iload_n C 3 dX9_begin_42 rfl rfl ?_
  refine j_iadd C dX9_begin_43 ?_
  refine j_iconst C (v := 0) dX9_begin_44 (by decide) ?_
  refine j_zast C 1 h_9 (t_9 _ _) rfl dX9_begin_45 hf (fun K8 hf => ?_)
  refine j_aload_n C 1 dX9_begin_46 rfl rfl ?_
  refine j_get C 24 iX9_begin_X9 h_0 rfl (by decide) mX9_begin_f79 rfl rfl dX9_begin_47 ?_
  refine j_iload_n C 0 dX9_begin_50 rfl rfl ?_
  refine j_iconst C (v := 0) dX9_begin_51 (by decide) ?_
  refine j_iast C 0 h_23 (t_23 _ _) rfl dX9_begin_52 hf (fun K9 hf => ?_)
  refine j_aload_n C 1 dX9_begin_53 rfl rfl ?_
  refine j_get C 25 iX9_begin_X9 h_0 rfl (by decide) mX9_begin_f82 rfl rfl dX9_begin_54 ?_
  refine j_iload_n C 0 dX9_begin_57 rfl rfl ?_
  refine j_aload_n C 1 dX9_begin_58 rfl rfl ?_
  refine j_iload_n C 2 dX9_begin_59 rfl rfl ?_
  refine j_iload_n C 3 dX9_begin_60 rfl rfl ?_
  obtain ⟨u10, h11, hf⟩ := bd hf
  refine j_cVI C [.int p1, .int p2] gX9_begin_X9_passes rfl hdX9_passes ⟨⟨rfl, rfl⟩, Nat.le_of_ble_eq_true rfl, Nat.le_of_ble_eq_true rfl⟩ rfl h_0 rfl (k_X9_passes h11) dX9_begin_61 rfl (Nat.le_of_ble_eq_true rfl) ?_
  obtain ⟨v12, h13, hf⟩ := bd hf
  have jj14 : jW (EM l D ad aI aZ aS aF) G K9 78 [(0, .ref (ad 0)), (1, .int p1), (2, .int p2), (3, .int x3)] [.int v12, .int x3, .ref (ad 24)] := by
    refine j_iast C 0 h_24 (t_24 _ _) rfl dX9_begin_78 hf (fun K17 hf => ?_)
    refine j_aload_n C 0 dX9_begin_79 rfl rfl ?_
    refine j_get C 26 iX9_begin_X9 h_0 rfl (by decide) mX9_begin_f85 rfl rfl dX9_begin_80 ?_
    refine j_iload_n C 3 dX9_begin_83 rfl rfl ?_
    refine j_iconst C (v := 0) dX9_begin_84 (by decide) ?_
    refine j_iast C 0 h_25 (t_25 _ _) rfl dX9_begin_85 hf (fun K18 hf => ?_)
    refine j_aload_n C 0 dX9_begin_86 rfl rfl ?_
    refine j_iload_n C 1 dX9_begin_87 rfl rfl ?_
    refine j_iload_n C 2 dX9_begin_88 rfl rfl ?_
    refine j_iconst C (v := 5) dX9_begin_89 (by decide) ?_
    obtain ⟨u19, h20, hf⟩ := bd hf
    refine j_cVI C [.int p1, .int p2, .int 5] gX9_begin_X9_entry rfl hdX9_entry ⟨⟨rfl, rfl⟩, Nat.le_of_ble_eq_true rfl, Nat.le_of_ble_eq_true rfl⟩ rfl h_0 rfl (k_X9_entry h20) dX9_begin_90 rfl (Nat.le_of_ble_eq_true rfl) ?_
    refine j_if_le C 128 dX9_begin_93 (by decide) hf (fun hf => ?_) (fun hf => ?_)
    · cases hf
      exact ret _ _ dX9_begin_128
    · refine j_aload_n C 0 dX9_begin_96 rfl rfl ?_
      refine j_get C 11 iX9_begin_X9 h_0 rfl (by decide) mX9_begin_f39 rfl rfl dX9_begin_97 ?_
      refine j_bipush C (v := 8) dX9_begin_100 (by decide) ?_
      refine j_iload_n C 1 dX9_begin_102 rfl rfl ?_
      refine j_imul C dX9_begin_103 ?_
      refine j_iload_n C 2 dX9_begin_104 rfl rfl ?_
      refine j_iadd C dX9_begin_105 ?_
      refine j_zald C 1 h_10 rfl dX9_begin_106 hf (fun hf => ?_)
      refine j_if_ne C 122 dX9_begin_107 (by decide) hf (fun hf => ?_) (fun hf => ?_)
      · refine j_aload_n C 0 dX9_begin_110 rfl rfl ?_
        refine j_iload_n C 1 dX9_begin_111 rfl rfl ?_
        refine j_iload_n C 2 dX9_begin_112 rfl rfl ?_
        refine j_bipush C (v := 7) dX9_begin_113 (by decide) ?_
        obtain ⟨u21, h22, hf⟩ := bd hf
        refine j_cVI C [.int p1, .int p2, .int 7] gX9_begin_X9_entry rfl hdX9_entry ⟨⟨rfl, rfl⟩, Nat.le_of_ble_eq_true rfl, Nat.le_of_ble_eq_true rfl⟩ rfl h_0 rfl (k_X9_entry h22) dX9_begin_115 rfl (Nat.le_of_ble_eq_true rfl) ?_
        refine j_iconst C (v := 3) dX9_begin_118 (by decide) ?_
        refine j_icmp_ne C 128 dX9_begin_119 (by decide) hf (fun hf => ?_) (fun hf => ?_)
        · refine j_aload_n C 0 dX9_begin_122 rfl rfl ?_
          refine j_iload_n C 1 dX9_begin_123 rfl rfl ?_
          refine j_iload_n C 3 dX9_begin_124 rfl rfl ?_
          obtain ⟨u23, h24, hf⟩ := bd hf
          refine j_cVV C [.int p1, .int x3] gX9_begin_X9_beginWalk rfl hdX9_beginWalk ⟨⟨rfl, rfl⟩, Nat.le_of_ble_eq_true rfl, Nat.le_of_ble_eq_true rfl⟩ rfl h_0 rfl (k_X9_beginWalk h24) dX9_begin_125 rfl (Nat.le_of_ble_eq_true rfl) ?_
          cases hf
          exact ret _ _ dX9_begin_128
        · cases hf
          exact ret _ _ dX9_begin_128
      · refine j_aload_n C 0 dX9_begin_122 rfl rfl ?_
        refine j_iload_n C 1 dX9_begin_123 rfl rfl ?_
        refine j_iload_n C 3 dX9_begin_124 rfl rfl ?_
        obtain ⟨u25, h26, hf⟩ := bd hf
        refine j_cVV C [.int p1, .int x3] gX9_begin_X9_beginWalk rfl hdX9_beginWalk ⟨⟨rfl, rfl⟩, Nat.le_of_ble_eq_true rfl, Nat.le_of_ble_eq_true rfl⟩ rfl h_0 rfl (k_X9_beginWalk h26) dX9_begin_125 rfl (Nat.le_of_ble_eq_true rfl) ?_
        cases hf
        exact ret _ _ dX9_begin_128
  clear hf
  have hf := h13
  clear h13
  refine j_if_eq C 77 dX9_begin_64 (by decide) hf (fun hf => ?_) (fun hf => ?_)
  · refine j_iconst C (v := 0) dX9_begin_77 (by decide) ?_
    cases hf
    refine j_sub [1, 2, 3, 0] rfl ?_
    exact jj14
  · refine j_aload_n C 1 dX9_begin_67 rfl rfl ?_
    refine j_iload_n C 2 dX9_begin_68 rfl rfl ?_
    refine j_iload_n C 3 dX9_begin_69 rfl rfl ?_
    refine j_iconst C (v := 1) dX9_begin_70 (by decide) ?_
    obtain ⟨u15, h16, hf⟩ := bd hf
    refine j_cVI C [.int p1, .int p2, .int 1] gX9_begin_X9_entry rfl hdX9_entry ⟨⟨rfl, rfl⟩, Nat.le_of_ble_eq_true rfl, Nat.le_of_ble_eq_true rfl⟩ rfl h_0 rfl (k_X9_entry h16) dX9_begin_71 rfl (Nat.le_of_ble_eq_true rfl) ?_
    refine j_goto C 78 dX9_begin_74 (by decide) ?_
    cases hf
    refine j_sub [1, 2, 3, 0] rfl ?_
    exact jj14
/-- BarrierLightsModel.pace(II)V -/
def f_X9_pace (p1 : Int32) (p2 : Int32) (K : Mem) : Option (Mem) := if inb p2 4 = true then (if (K 25 (ix p2)) = 0 then (some K) else (if inb p2 4 = true then (if inb p2 4 = true then (st K 26 (ix p2) ((K 26 (ix p2)) + 1) fun K1 => if inb p2 4 = true then (if inb p2 4 = true then ((if (K1 25 (ix p2)) = 1 then (some 5) else (some 6) : Option (Int32)).bind fun v2 => (f_X9_entry p1 (K1 20 (ix p2)) v2 K1).bind fun u5 => lt u5 fun x7 => if inb p2 4 = true then (if x7 ≤ (K1 26 (ix p2)) then (if inb p2 4 = true then ((if (K1 25 (ix p2)) = 1 then (some 2) else (some 0) : Option (Int32)).bind fun v8 => if inb p2 4 = true then (st K1 25 (ix p2) v8 fun K11 => if inb p2 4 = true then (st K11 26 (ix p2) 0 fun K12 => some K12) else none) else none) else none) else (some K1)) else none) else none) else none) else none) else none)) else none
abbrev rmX9_pace : Room := { frames := 1, cells := 0, slots := 0, locals := 23 }
theorem iX9_pace_X9 : ∀ w ∈ u_ws RX9 TX9 37, w ∈ wsX9_pace := fun _ h => List.mem_cons_of_mem _ (List.mem_append_right _ h)
theorem mX9_pace_f85 : Cond.fieldLink RX9 85 "BarrierLightsModel" "walker" "[I" ∈ wsX9_pace := by decide +kernel
theorem mX9_pace_f88 : Cond.fieldLink RX9 88 "BarrierLightsModel" "walked" "[I" ∈ wsX9_pace := by decide +kernel
theorem mX9_pace_f70 : Cond.fieldLink RX9 70 "BarrierLightsModel" "phase" "[I" ∈ wsX9_pace := by decide +kernel
set_option maxRecDepth 100000 in
set_option maxHeartbeats 4000000 in
theorem k_X9_pace {l : Launch} {D : va_G} {ad : Nat → Nat} {aI aZ aS aF : ClassId} {p1 : Int32} {p2 : Int32} {K : Mem} {u : Mem} (hf : f_X9_pace p1 p2 K = some u) : cV (EM l D ad aI aZ aS aF) yX9_pace wsX9_pace rmX9_pace [.ref (ad 0), .int p1, .int p2] K u := by
  rw [f_X9_pace] at hf
  refine j_entV (cc := cX9_pace) (maxL := 4) (EM_ok l D ad aI aZ aS aF) (by decide) rfl (Nat.le_of_ble_eq_true rfl) (fun G C ret => ?_)
  refine j_sub [0, 1, 2] (lv2 := [(0, .ref (ad 0)), (1, .int p1), (2, .int p2)]) rfl ?_
  refine j_aload_n C 0 dX9_pace_0 rfl rfl ?_
  refine j_get C 26 iX9_pace_X9 h_0 rfl (by decide) mX9_pace_f85 rfl rfl dX9_pace_1 ?_
  refine j_iload_n C 2 dX9_pace_4 rfl rfl ?_
  refine j_iald C 0 h_25 rfl dX9_pace_5 hf (fun hf => ?_)
  refine j_if_ne C 10 dX9_pace_6 (by decide) hf (fun hf => ?_) (fun hf => ?_)
  · cases hf
    exact ret _ _ dX9_pace_9
  · refine j_aload_n C 0 dX9_pace_10 rfl rfl ?_
    refine j_get C 27 iX9_pace_X9 h_0 rfl (by decide) mX9_pace_f88 rfl rfl dX9_pace_11 ?_
    refine j_iload_n C 2 dX9_pace_14 rfl rfl ?_
    refine j_dup2 C dX9_pace_15 rfl rfl ?_
    refine j_iald C 0 h_26 rfl dX9_pace_16 hf (fun hf => ?_)
    refine j_iconst C (v := 1) dX9_pace_17 (by decide) ?_
    refine j_iadd C dX9_pace_18 ?_
    refine j_iast C 0 h_26 (t_26 _ _) rfl dX9_pace_19 hf (fun K1 hf => ?_)
    refine j_aload_n C 0 dX9_pace_20 rfl rfl ?_
    refine j_iload_n C 1 dX9_pace_21 rfl rfl ?_
    refine j_aload_n C 0 dX9_pace_22 rfl rfl ?_
    refine j_get C 21 iX9_pace_X9 h_0 rfl (by decide) mX9_pace_f70 rfl rfl dX9_pace_23 ?_
    refine j_iload_n C 2 dX9_pace_26 rfl rfl ?_
    refine j_iald C 0 h_20 rfl dX9_pace_27 hf (fun hf => ?_)
    refine j_aload_n C 0 dX9_pace_28 rfl rfl ?_
    refine j_get C 26 iX9_pace_X9 h_0 rfl (by decide) mX9_pace_f85 rfl rfl dX9_pace_29 ?_
    refine j_iload_n C 2 dX9_pace_32 rfl rfl ?_
    refine j_iald C 0 h_25 rfl dX9_pace_33 hf (fun hf => ?_)
    refine j_iconst C (v := 1) dX9_pace_34 (by decide) ?_
    obtain ⟨v2, h3, hf⟩ := bd hf
    have jj4 : jW (EM l D ad aI aZ aS aF) G K1 44 [(0, .ref (ad 0)), (1, .int p1), (2, .int p2)] [.int v2, .int ((K1 20 (ix p2))), .int p1, .ref (ad 0)] := by
      obtain ⟨u5, h6, hf⟩ := bd hf
      refine j_cVI C [.int p1, .int ((K1 20 (ix p2))), .int v2] gX9_pace_X9_entry rfl hdX9_entry ⟨⟨rfl, rfl⟩, Nat.le_of_ble_eq_true rfl, Nat.le_of_ble_eq_true rfl⟩ rfl h_0 rfl (k_X9_entry h6) dX9_pace_44 rfl (Nat.le_of_ble_eq_true rfl) ?_
      refine j_istore_n C (fun y => [(3, .int y), (0, .ref (ad 0)), (1, .int p1), (2, .int p2)]) dX9_pace_47 rfl (by decide) (fun _ => rfl) hf (fun x7 hf => ?_)
      refine j_aload_n C 1 dX9_pace_48 rfl rfl ?_
      refine j_get C 27 iX9_pace_X9 h_0 rfl (by decide) mX9_pace_f88 rfl rfl dX9_pace_49 ?_
      refine j_iload_n C 3 dX9_pace_52 rfl rfl ?_
      refine j_iald C 0 h_26 rfl dX9_pace_53 hf (fun hf => ?_)
      refine j_iload_n C 0 dX9_pace_54 rfl rfl ?_
      refine j_icmp_ge C 59 dX9_pace_55 (by decide) hf (fun hf => ?_) (fun hf => ?_)
      · refine j_aload_n C 1 dX9_pace_59 rfl rfl ?_
        refine j_get C 26 iX9_pace_X9 h_0 rfl (by decide) mX9_pace_f85 rfl rfl dX9_pace_60 ?_
        refine j_iload_n C 3 dX9_pace_63 rfl rfl ?_
        refine j_aload_n C 1 dX9_pace_64 rfl rfl ?_
        refine j_get C 26 iX9_pace_X9 h_0 rfl (by decide) mX9_pace_f85 rfl rfl dX9_pace_65 ?_
        refine j_iload_n C 3 dX9_pace_68 rfl rfl ?_
        refine j_iald C 0 h_25 rfl dX9_pace_69 hf (fun hf => ?_)
        refine j_iconst C (v := 1) dX9_pace_70 (by decide) ?_
        obtain ⟨v8, h9, hf⟩ := bd hf
        have jj10 : jW (EM l D ad aI aZ aS aF) G K1 79 [(0, .ref (ad 0)), (1, .int p1), (2, .int p2), (3, .int x7)] [.int v8, .int p2, .ref (ad 25)] := by
          refine j_iast C 0 h_25 (t_25 _ _) rfl dX9_pace_79 hf (fun K11 hf => ?_)
          refine j_aload_n C 0 dX9_pace_80 rfl rfl ?_
          refine j_get C 27 iX9_pace_X9 h_0 rfl (by decide) mX9_pace_f88 rfl rfl dX9_pace_81 ?_
          refine j_iload_n C 2 dX9_pace_84 rfl rfl ?_
          refine j_iconst C (v := 0) dX9_pace_85 (by decide) ?_
          refine j_iast C 0 h_26 (t_26 _ _) rfl dX9_pace_86 hf (fun K12 hf => ?_)
          cases hf
          exact ret _ _ dX9_pace_87
        clear hf
        have hf := h9
        clear h9
        refine j_icmp_ne C 78 dX9_pace_71 (by decide) hf (fun hf => ?_) (fun hf => ?_)
        · refine j_iconst C (v := 2) dX9_pace_74 (by decide) ?_
          refine j_goto C 79 dX9_pace_75 (by decide) ?_
          cases hf
          refine j_sub [1, 2, 3, 0] rfl ?_
          exact jj10
        · refine j_iconst C (v := 0) dX9_pace_78 (by decide) ?_
          cases hf
          refine j_sub [1, 2, 3, 0] rfl ?_
          exact jj10
      · cases hf
        exact ret _ _ dX9_pace_58
    clear hf
    have hf := h3
    clear h3
    refine j_icmp_ne C 42 dX9_pace_35 (by decide) hf (fun hf => ?_) (fun hf => ?_)
    · refine j_iconst C (v := 5) dX9_pace_38 (by decide) ?_
      refine j_goto C 44 dX9_pace_39 (by decide) ?_
      cases hf
      exact jj4
    · refine j_bipush C (v := 6) dX9_pace_42 (by decide) ?_
      cases hf
      exact jj4
/-- BarrierLightsModel.grow(IIZ)V -/
def f_X9_grow (p1 : Int32) (p2 : Int32) (p3 : Int32) (K : Mem) : Option (Mem) := if inb p2 4 = true then (if (K 19 (ix p2)) = 0 then (some K) else (if inb p2 4 = true then (if inb p2 4 = true then (st K 22 (ix p2) ((K 22 (ix p2)) + 1) fun K1 => if inb p2 4 = true then (if (K1 19 (ix p2)) = 1 then ((f_X9_pace p1 p2 K1).bind fun u2 => if p3 = 0 then (some u2) else ((f_X9_wanted p1 p2 u2).bind fun u4 => if u4 = 0 then (some u2) else (if inb p2 4 = true then (if inb p2 4 = true then (st u2 23 (ix p2) ((u2 23 (ix p2)) + 1) fun K6 => some K6) else none) else none))) else (if inb p2 4 = true then (if (K1 19 (ix p2)) = 2 then (if inb p2 4 = true then (if inb p2 4 = true then ((f_X9_entry p1 (K1 20 (ix p2)) 3 K1).bind fun u7 => if u7 ≤ (K1 22 (ix p2)) then (if inb p2 4 = true then (st K1 19 (ix p2) 3 fun K9 => if inb p2 4 = true then (st K9 22 (ix p2) 0 fun K10 => if inb p2 4 = true then (if inb p2 4 = true then ((f_X9_entry p1 (K10 20 (ix p2)) 4 K10).bind fun u11 => if u11 ≤ (K10 22 (ix p2)) then (if inb p2 4 = true then (if (K10 21 (ix p2)) < 0 then ((f_X9_stopRing p2 K10).bind fun u13 => some u13) else (if inb p2 4 = true then ((f_X9_begin p1 (K10 21 (ix p2)) K10).bind fun u15 => some u15) else none)) else none) else (some K10)) else none) else none) else none) else none) else (some K1)) else none) else none) else (if inb p2 4 = true then (if inb p2 4 = true then ((f_X9_entry p1 (K1 20 (ix p2)) 4 K1).bind fun u17 => if u17 ≤ (K1 22 (ix p2)) then (if inb p2 4 = true then (if (K1 21 (ix p2)) < 0 then ((f_X9_stopRing p2 K1).bind fun u19 => some u19) else (if inb p2 4 = true then ((f_X9_begin p1 (K1 21 (ix p2)) K1).bind fun u21 => some u21) else none)) else none) else (some K1)) else none) else none)) else none)) else none) else none) else none)) else none
abbrev rmX9_grow : Room := { frames := 6, cells := 0, slots := 0, locals := 135 }
theorem iX9_grow_X9 : ∀ w ∈ u_ws RX9 TX9 37, w ∈ wsX9_grow := fun _ h => List.mem_cons_of_mem _ (List.mem_append_right _ h)
theorem mX9_grow_f67 : Cond.fieldLink RX9 67 "BarrierLightsModel" "state" "[I" ∈ wsX9_grow := by decide +kernel
theorem mX9_grow_f76 : Cond.fieldLink RX9 76 "BarrierLightsModel" "age" "[I" ∈ wsX9_grow := by decide +kernel
theorem hdX9_pace : yX9_pace.cls = RX9 ∧ yX9_pace.cls ≠ "java/lang/invoke/MethodHandle" ∧ yX9_pace.cls ≠ "java/lang/invoke/VarHandle" ∧ (parseMethodDescriptor yX9_pace.desc).map (fun d => d.parameters.length) = some 2 := by decide +kernel
theorem hdX9_wanted : yX9_wanted.cls = RX9 ∧ yX9_wanted.cls ≠ "java/lang/invoke/MethodHandle" ∧ yX9_wanted.cls ≠ "java/lang/invoke/VarHandle" ∧ (parseMethodDescriptor yX9_wanted.desc).map (fun d => d.parameters.length) = some 2 := by decide +kernel
theorem mX9_grow_f79 : Cond.fieldLink RX9 79 "BarrierLightsModel" "against" "[I" ∈ wsX9_grow := by decide +kernel
theorem mX9_grow_f70 : Cond.fieldLink RX9 70 "BarrierLightsModel" "phase" "[I" ∈ wsX9_grow := by decide +kernel
theorem mX9_grow_f73 : Cond.fieldLink RX9 73 "BarrierLightsModel" "follows" "[I" ∈ wsX9_grow := by decide +kernel
theorem hdX9_begin : yX9_begin.cls = RX9 ∧ yX9_begin.cls ≠ "java/lang/invoke/MethodHandle" ∧ yX9_begin.cls ≠ "java/lang/invoke/VarHandle" ∧ (parseMethodDescriptor yX9_begin.desc).map (fun d => d.parameters.length) = some 2 := by decide +kernel
set_option maxRecDepth 100000 in
set_option maxHeartbeats 4000000 in
theorem k_X9_grow {l : Launch} {D : va_G} {ad : Nat → Nat} {aI aZ aS aF : ClassId} {p1 : Int32} {p2 : Int32} {p3 : Int32} {K : Mem} {u : Mem} (hf : f_X9_grow p1 p2 p3 K = some u) : cV (EM l D ad aI aZ aS aF) yX9_grow wsX9_grow rmX9_grow [.ref (ad 0), .int p1, .int p2, .int p3] K u := by
  rw [f_X9_grow] at hf
  refine j_entV (cc := cX9_grow) (maxL := 4) (EM_ok l D ad aI aZ aS aF) (by decide) rfl (Nat.le_of_ble_eq_true rfl) (fun G C ret => ?_)
  refine j_sub [0, 1, 2, 3] (lv2 := [(0, .ref (ad 0)), (1, .int p1), (2, .int p2), (3, .int p3)]) rfl ?_
  refine j_aload_n C 0 dX9_grow_0 rfl rfl ?_
  refine j_get C 20 iX9_grow_X9 h_0 rfl (by decide) mX9_grow_f67 rfl rfl dX9_grow_1 ?_
  refine j_iload_n C 2 dX9_grow_4 rfl rfl ?_
  refine j_iald C 0 h_19 rfl dX9_grow_5 hf (fun hf => ?_)
  refine j_if_ne C 10 dX9_grow_6 (by decide) hf (fun hf => ?_) (fun hf => ?_)
  · cases hf
    exact ret _ _ dX9_grow_9
  · refine j_aload_n C 0 dX9_grow_10 rfl rfl ?_
    refine j_get C 23 iX9_grow_X9 h_0 rfl (by decide) mX9_grow_f76 rfl rfl dX9_grow_11 ?_
    refine j_iload_n C 2 dX9_grow_14 rfl rfl ?_
    refine j_dup2 C dX9_grow_15 rfl rfl ?_
    refine j_iald C 0 h_22 rfl dX9_grow_16 hf (fun hf => ?_)
    refine j_iconst C (v := 1) dX9_grow_17 (by decide) ?_
    refine j_iadd C dX9_grow_18 ?_
    refine j_iast C 0 h_22 (t_22 _ _) rfl dX9_grow_19 hf (fun K1 hf => ?_)
    refine j_aload_n C 0 dX9_grow_20 rfl rfl ?_
    refine j_get C 20 iX9_grow_X9 h_0 rfl (by decide) mX9_grow_f67 rfl rfl dX9_grow_21 ?_
    refine j_iload_n C 2 dX9_grow_24 rfl rfl ?_
    refine j_iald C 0 h_19 rfl dX9_grow_25 hf (fun hf => ?_)
    refine j_iconst C (v := 1) dX9_grow_26 (by decide) ?_
    refine j_icmp_ne C 60 dX9_grow_27 (by decide) hf (fun hf => ?_) (fun hf => ?_)
    · refine j_aload_n C 0 dX9_grow_30 rfl rfl ?_
      refine j_iload_n C 1 dX9_grow_31 rfl rfl ?_
      refine j_iload_n C 2 dX9_grow_32 rfl rfl ?_
      obtain ⟨u2, h3, hf⟩ := bd hf
      refine j_cVV C [.int p1, .int p2] gX9_grow_X9_pace rfl hdX9_pace ⟨⟨rfl, rfl⟩, Nat.le_of_ble_eq_true rfl, Nat.le_of_ble_eq_true rfl⟩ rfl h_0 rfl (k_X9_pace h3) dX9_grow_33 rfl (Nat.le_of_ble_eq_true rfl) ?_
      refine j_iload_n C 3 dX9_grow_36 rfl rfl ?_
      refine j_if_eq C 59 dX9_grow_37 (by decide) hf (fun hf => ?_) (fun hf => ?_)
      · cases hf
        exact ret _ _ dX9_grow_59
      · refine j_aload_n C 0 dX9_grow_40 rfl rfl ?_
        refine j_iload_n C 1 dX9_grow_41 rfl rfl ?_
        refine j_iload_n C 2 dX9_grow_42 rfl rfl ?_
        obtain ⟨u4, h5, hf⟩ := bd hf
        refine j_cVI C [.int p1, .int p2] gX9_grow_X9_wanted rfl hdX9_wanted ⟨⟨rfl, rfl⟩, Nat.le_of_ble_eq_true rfl, Nat.le_of_ble_eq_true rfl⟩ rfl h_0 rfl (k_X9_wanted h5) dX9_grow_43 rfl (Nat.le_of_ble_eq_true rfl) ?_
        refine j_if_eq C 59 dX9_grow_46 (by decide) hf (fun hf => ?_) (fun hf => ?_)
        · cases hf
          exact ret _ _ dX9_grow_59
        · refine j_aload_n C 0 dX9_grow_49 rfl rfl ?_
          refine j_get C 24 iX9_grow_X9 h_0 rfl (by decide) mX9_grow_f79 rfl rfl dX9_grow_50 ?_
          refine j_iload_n C 2 dX9_grow_53 rfl rfl ?_
          refine j_dup2 C dX9_grow_54 rfl rfl ?_
          refine j_iald C 0 h_23 rfl dX9_grow_55 hf (fun hf => ?_)
          refine j_iconst C (v := 1) dX9_grow_56 (by decide) ?_
          refine j_iadd C dX9_grow_57 ?_
          refine j_iast C 0 h_23 (t_23 _ _) rfl dX9_grow_58 hf (fun K6 hf => ?_)
          cases hf
          exact ret _ _ dX9_grow_59
    · refine j_aload_n C 0 dX9_grow_60 rfl rfl ?_
      refine j_get C 20 iX9_grow_X9 h_0 rfl (by decide) mX9_grow_f67 rfl rfl dX9_grow_61 ?_
      refine j_iload_n C 2 dX9_grow_64 rfl rfl ?_
      refine j_iald C 0 h_19 rfl dX9_grow_65 hf (fun hf => ?_)
      refine j_iconst C (v := 2) dX9_grow_66 (by decide) ?_
      refine j_icmp_ne C 106 dX9_grow_67 (by decide) hf (fun hf => ?_) (fun hf => ?_)
      · refine j_aload_n C 0 dX9_grow_70 rfl rfl ?_
        refine j_get C 23 iX9_grow_X9 h_0 rfl (by decide) mX9_grow_f76 rfl rfl dX9_grow_71 ?_
        refine j_iload_n C 2 dX9_grow_74 rfl rfl ?_
        refine j_iald C 0 h_22 rfl dX9_grow_75 hf (fun hf => ?_)
        refine j_aload_n C 0 dX9_grow_76 rfl rfl ?_
        refine j_iload_n C 1 dX9_grow_77 rfl rfl ?_
        refine j_aload_n C 0 dX9_grow_78 rfl rfl ?_
        refine j_get C 21 iX9_grow_X9 h_0 rfl (by decide) mX9_grow_f70 rfl rfl dX9_grow_79 ?_
        refine j_iload_n C 2 dX9_grow_82 rfl rfl ?_
        refine j_iald C 0 h_20 rfl dX9_grow_83 hf (fun hf => ?_)
        refine j_iconst C (v := 3) dX9_grow_84 (by decide) ?_
        obtain ⟨u7, h8, hf⟩ := bd hf
        refine j_cVI C [.int p1, .int ((K1 20 (ix p2))), .int 3] gX9_grow_X9_entry rfl hdX9_entry ⟨⟨rfl, rfl⟩, Nat.le_of_ble_eq_true rfl, Nat.le_of_ble_eq_true rfl⟩ rfl h_0 rfl (k_X9_entry h8) dX9_grow_85 rfl (Nat.le_of_ble_eq_true rfl) ?_
        refine j_icmp_ge C 92 dX9_grow_88 (by decide) hf (fun hf => ?_) (fun hf => ?_)
        · refine j_aload_n C 0 dX9_grow_92 rfl rfl ?_
          refine j_get C 20 iX9_grow_X9 h_0 rfl (by decide) mX9_grow_f67 rfl rfl dX9_grow_93 ?_
          refine j_iload_n C 2 dX9_grow_96 rfl rfl ?_
          refine j_iconst C (v := 3) dX9_grow_97 (by decide) ?_
          refine j_iast C 0 h_19 (t_19 _ _) rfl dX9_grow_98 hf (fun K9 hf => ?_)
          refine j_aload_n C 0 dX9_grow_99 rfl rfl ?_
          refine j_get C 23 iX9_grow_X9 h_0 rfl (by decide) mX9_grow_f76 rfl rfl dX9_grow_100 ?_
          refine j_iload_n C 2 dX9_grow_103 rfl rfl ?_
          refine j_iconst C (v := 0) dX9_grow_104 (by decide) ?_
          refine j_iast C 0 h_22 (t_22 _ _) rfl dX9_grow_105 hf (fun K10 hf => ?_)
          refine j_aload_n C 0 dX9_grow_106 rfl rfl ?_
          refine j_get C 23 iX9_grow_X9 h_0 rfl (by decide) mX9_grow_f76 rfl rfl dX9_grow_107 ?_
          refine j_iload_n C 2 dX9_grow_110 rfl rfl ?_
          refine j_iald C 0 h_22 rfl dX9_grow_111 hf (fun hf => ?_)
          refine j_aload_n C 0 dX9_grow_112 rfl rfl ?_
          refine j_iload_n C 1 dX9_grow_113 rfl rfl ?_
          refine j_aload_n C 0 dX9_grow_114 rfl rfl ?_
          refine j_get C 21 iX9_grow_X9 h_0 rfl (by decide) mX9_grow_f70 rfl rfl dX9_grow_115 ?_
          refine j_iload_n C 2 dX9_grow_118 rfl rfl ?_
          refine j_iald C 0 h_20 rfl dX9_grow_119 hf (fun hf => ?_)
          refine j_iconst C (v := 4) dX9_grow_120 (by decide) ?_
          obtain ⟨u11, h12, hf⟩ := bd hf
          refine j_cVI C [.int p1, .int ((K10 20 (ix p2))), .int 4] gX9_grow_X9_entry rfl hdX9_entry ⟨⟨rfl, rfl⟩, Nat.le_of_ble_eq_true rfl, Nat.le_of_ble_eq_true rfl⟩ rfl h_0 rfl (k_X9_entry h12) dX9_grow_121 rfl (Nat.le_of_ble_eq_true rfl) ?_
          refine j_icmp_ge C 128 dX9_grow_124 (by decide) hf (fun hf => ?_) (fun hf => ?_)
          · refine j_aload_n C 0 dX9_grow_128 rfl rfl ?_
            refine j_get C 22 iX9_grow_X9 h_0 rfl (by decide) mX9_grow_f73 rfl rfl dX9_grow_129 ?_
            refine j_iload_n C 2 dX9_grow_132 rfl rfl ?_
            refine j_iald C 0 h_21 rfl dX9_grow_133 hf (fun hf => ?_)
            refine j_if_lt C 151 dX9_grow_134 (by decide) hf (fun hf => ?_) (fun hf => ?_)
            · refine j_aload_n C 0 dX9_grow_151 rfl rfl ?_
              refine j_iload_n C 2 dX9_grow_152 rfl rfl ?_
              obtain ⟨u13, h14, hf⟩ := bd hf
              refine j_cVV C [.int p2] gX9_grow_X9_stopRing rfl hdX9_stopRing ⟨⟨rfl, rfl⟩, Nat.le_of_ble_eq_true rfl, Nat.le_of_ble_eq_true rfl⟩ rfl h_0 rfl (k_X9_stopRing h14) dX9_grow_153 rfl (Nat.le_of_ble_eq_true rfl) ?_
              cases hf
              exact ret _ _ dX9_grow_156
            · refine j_aload_n C 0 dX9_grow_137 rfl rfl ?_
              refine j_iload_n C 1 dX9_grow_138 rfl rfl ?_
              refine j_aload_n C 0 dX9_grow_139 rfl rfl ?_
              refine j_get C 22 iX9_grow_X9 h_0 rfl (by decide) mX9_grow_f73 rfl rfl dX9_grow_140 ?_
              refine j_iload_n C 2 dX9_grow_143 rfl rfl ?_
              refine j_iald C 0 h_21 rfl dX9_grow_144 hf (fun hf => ?_)
              obtain ⟨u15, h16, hf⟩ := bd hf
              refine j_cVV C [.int p1, .int ((K10 21 (ix p2)))] gX9_grow_X9_begin rfl hdX9_begin ⟨⟨rfl, rfl⟩, Nat.le_of_ble_eq_true rfl, Nat.le_of_ble_eq_true rfl⟩ rfl h_0 rfl (k_X9_begin h16) dX9_grow_145 rfl (Nat.le_of_ble_eq_true rfl) ?_
              refine j_goto C 156 dX9_grow_148 (by decide) ?_
              cases hf
              exact ret _ _ dX9_grow_156
          · cases hf
            exact ret _ _ dX9_grow_127
        · cases hf
          exact ret _ _ dX9_grow_91
      · refine j_aload_n C 0 dX9_grow_106 rfl rfl ?_
        refine j_get C 23 iX9_grow_X9 h_0 rfl (by decide) mX9_grow_f76 rfl rfl dX9_grow_107 ?_
        refine j_iload_n C 2 dX9_grow_110 rfl rfl ?_
        refine j_iald C 0 h_22 rfl dX9_grow_111 hf (fun hf => ?_)
        refine j_aload_n C 0 dX9_grow_112 rfl rfl ?_
        refine j_iload_n C 1 dX9_grow_113 rfl rfl ?_
        refine j_aload_n C 0 dX9_grow_114 rfl rfl ?_
        refine j_get C 21 iX9_grow_X9 h_0 rfl (by decide) mX9_grow_f70 rfl rfl dX9_grow_115 ?_
        refine j_iload_n C 2 dX9_grow_118 rfl rfl ?_
        refine j_iald C 0 h_20 rfl dX9_grow_119 hf (fun hf => ?_)
        refine j_iconst C (v := 4) dX9_grow_120 (by decide) ?_
        obtain ⟨u17, h18, hf⟩ := bd hf
        refine j_cVI C [.int p1, .int ((K1 20 (ix p2))), .int 4] gX9_grow_X9_entry rfl hdX9_entry ⟨⟨rfl, rfl⟩, Nat.le_of_ble_eq_true rfl, Nat.le_of_ble_eq_true rfl⟩ rfl h_0 rfl (k_X9_entry h18) dX9_grow_121 rfl (Nat.le_of_ble_eq_true rfl) ?_
        refine j_icmp_ge C 128 dX9_grow_124 (by decide) hf (fun hf => ?_) (fun hf => ?_)
        · refine j_aload_n C 0 dX9_grow_128 rfl rfl ?_
          refine j_get C 22 iX9_grow_X9 h_0 rfl (by decide) mX9_grow_f73 rfl rfl dX9_grow_129 ?_
          refine j_iload_n C 2 dX9_grow_132 rfl rfl ?_
          refine j_iald C 0 h_21 rfl dX9_grow_133 hf (fun hf => ?_)
          refine j_if_lt C 151 dX9_grow_134 (by decide) hf (fun hf => ?_) (fun hf => ?_)
          · refine j_aload_n C 0 dX9_grow_151 rfl rfl ?_
            refine j_iload_n C 2 dX9_grow_152 rfl rfl ?_
            obtain ⟨u19, h20, hf⟩ := bd hf
            refine j_cVV C [.int p2] gX9_grow_X9_stopRing rfl hdX9_stopRing ⟨⟨rfl, rfl⟩, Nat.le_of_ble_eq_true rfl, Nat.le_of_ble_eq_true rfl⟩ rfl h_0 rfl (k_X9_stopRing h20) dX9_grow_153 rfl (Nat.le_of_ble_eq_true rfl) ?_
            cases hf
            exact ret _ _ dX9_grow_156
          · refine j_aload_n C 0 dX9_grow_137 rfl rfl ?_
            refine j_iload_n C 1 dX9_grow_138 rfl rfl ?_
            refine j_aload_n C 0 dX9_grow_139 rfl rfl ?_
            refine j_get C 22 iX9_grow_X9 h_0 rfl (by decide) mX9_grow_f73 rfl rfl dX9_grow_140 ?_
            refine j_iload_n C 2 dX9_grow_143 rfl rfl ?_
            refine j_iald C 0 h_21 rfl dX9_grow_144 hf (fun hf => ?_)
            obtain ⟨u21, h22, hf⟩ := bd hf
            refine j_cVV C [.int p1, .int ((K1 21 (ix p2)))] gX9_grow_X9_begin rfl hdX9_begin ⟨⟨rfl, rfl⟩, Nat.le_of_ble_eq_true rfl, Nat.le_of_ble_eq_true rfl⟩ rfl h_0 rfl (k_X9_begin h22) dX9_grow_145 rfl (Nat.le_of_ble_eq_true rfl) ?_
            refine j_goto C 156 dX9_grow_148 (by decide) ?_
            cases hf
            exact ret _ _ dX9_grow_156
        · cases hf
          exact ret _ _ dX9_grow_127
/-- BarrierLightsModel.yellow(II)V -/
def f_X9_yellow (p1 : Int32) (p2 : Int32) (K : Mem) : Option (Mem) := if inb p1 4 = true then (st K 19 (ix p1) 2 fun K1 => if inb p1 4 = true then (st K1 22 (ix p1) 0 fun K2 => if inb p1 4 = true then (st K2 21 (ix p1) p2 fun K3 => some K3) else none) else none) else none
abbrev rmX9_yellow : Room := { frames := 0, cells := 0, slots := 0, locals := 0 }
theorem iX9_yellow_X9 : ∀ w ∈ u_ws RX9 TX9 37, w ∈ wsX9_yellow := fun _ h => List.mem_cons_of_mem _ (List.mem_append_right _ h)
theorem mX9_yellow_f67 : Cond.fieldLink RX9 67 "BarrierLightsModel" "state" "[I" ∈ wsX9_yellow := by decide +kernel
theorem mX9_yellow_f76 : Cond.fieldLink RX9 76 "BarrierLightsModel" "age" "[I" ∈ wsX9_yellow := by decide +kernel
theorem mX9_yellow_f73 : Cond.fieldLink RX9 73 "BarrierLightsModel" "follows" "[I" ∈ wsX9_yellow := by decide +kernel
set_option maxRecDepth 100000 in
set_option maxHeartbeats 4000000 in
theorem k_X9_yellow {l : Launch} {D : va_G} {ad : Nat → Nat} {aI aZ aS aF : ClassId} {p1 : Int32} {p2 : Int32} {K : Mem} {u : Mem} (hf : f_X9_yellow p1 p2 K = some u) : cV (EM l D ad aI aZ aS aF) yX9_yellow wsX9_yellow rmX9_yellow [.ref (ad 0), .int p1, .int p2] K u := by
  rw [f_X9_yellow] at hf
  refine j_entV (cc := cX9_yellow) (maxL := 3) (EM_ok l D ad aI aZ aS aF) (by decide) rfl (Nat.le_of_ble_eq_true rfl) (fun G C ret => ?_)
  refine j_sub [0, 1, 2] (lv2 := [(0, .ref (ad 0)), (1, .int p1), (2, .int p2)]) rfl ?_
  refine j_aload_n C 0 dX9_yellow_0 rfl rfl ?_
  refine j_get C 20 iX9_yellow_X9 h_0 rfl (by decide) mX9_yellow_f67 rfl rfl dX9_yellow_1 ?_
  refine j_iload_n C 1 dX9_yellow_4 rfl rfl ?_
  refine j_iconst C (v := 2) dX9_yellow_5 (by decide) ?_
  refine j_iast C 0 h_19 (t_19 _ _) rfl dX9_yellow_6 hf (fun K1 hf => ?_)
  refine j_aload_n C 0 dX9_yellow_7 rfl rfl ?_
  refine j_get C 23 iX9_yellow_X9 h_0 rfl (by decide) mX9_yellow_f76 rfl rfl dX9_yellow_8 ?_
  refine j_iload_n C 1 dX9_yellow_11 rfl rfl ?_
  refine j_iconst C (v := 0) dX9_yellow_12 (by decide) ?_
  refine j_iast C 0 h_22 (t_22 _ _) rfl dX9_yellow_13 hf (fun K2 hf => ?_)
  refine j_aload_n C 0 dX9_yellow_14 rfl rfl ?_
  refine j_get C 22 iX9_yellow_X9 h_0 rfl (by decide) mX9_yellow_f73 rfl rfl dX9_yellow_15 ?_
  refine j_iload_n C 1 dX9_yellow_18 rfl rfl ?_
  refine j_iload_n C 2 dX9_yellow_19 rfl rfl ?_
  refine j_iast C 0 h_21 (t_21 _ _) rfl dX9_yellow_20 hf (fun K3 hf => ?_)
  cases hf
  exact ret _ _ dX9_yellow_21
/-- BarrierLightsModel.isEarly(I)Z -/
def f_X9_isEarly (p1 : Int32) (K : Mem) : Option (Int32) := if inb p1 2 = true then (if (K 32 (ix p1)) < 0 then (some 0) else (if inb p1 2 = true then (if inb p1 2 = true then (if inb (K 32 (ix p1)) 4 = true then (if (K 31 (ix (K 32 (ix p1)))) ≤ (K 35 (ix p1)) then (some 0) else (some 1)) else none) else none) else none)) else none
abbrev rmX9_isEarly : Room := { frames := 0, cells := 0, slots := 0, locals := 0 }
theorem iX9_isEarly_X9 : ∀ w ∈ u_ws RX9 TX9 37, w ∈ wsX9_isEarly := fun _ h => List.mem_cons_of_mem _ (List.mem_append_right _ h)
theorem mX9_isEarly_f106 : Cond.fieldLink RX9 106 "BarrierLightsModel" "plan" "[I" ∈ wsX9_isEarly := by decide +kernel
theorem mX9_isEarly_f115 : Cond.fieldLink RX9 115 "BarrierLightsModel" "local" "[I" ∈ wsX9_isEarly := by decide +kernel
theorem mX9_isEarly_f103 : Cond.fieldLink RX9 103 "BarrierLightsModel" "split" "[I" ∈ wsX9_isEarly := by decide +kernel
set_option maxRecDepth 100000 in
set_option maxHeartbeats 4000000 in
theorem k_X9_isEarly {l : Launch} {D : va_G} {ad : Nat → Nat} {aI aZ aS aF : ClassId} {p1 : Int32} {K : Mem} {u : Int32} (hf : f_X9_isEarly p1 K = some u) : cI (EM l D ad aI aZ aS aF) yX9_isEarly wsX9_isEarly rmX9_isEarly [.ref (ad 0), .int p1] K u K := by
  rw [f_X9_isEarly] at hf
  refine j_entI (cc := cX9_isEarly) (maxL := 2) (EM_ok l D ad aI aZ aS aF) (Or.inr rfl) (by decide) rfl (Nat.le_of_ble_eq_true rfl) (fun G C ret => ?_)
  refine j_sub [0, 1] (lv2 := [(0, .ref (ad 0)), (1, .int p1)]) rfl ?_
  refine j_aload_n C 0 dX9_isEarly_0 rfl rfl ?_
  refine j_get C 33 iX9_isEarly_X9 h_0 rfl (by decide) mX9_isEarly_f106 rfl rfl dX9_isEarly_1 ?_
  refine j_iload_n C 1 dX9_isEarly_4 rfl rfl ?_
  refine j_iald C 0 h_32 rfl dX9_isEarly_5 hf (fun hf => ?_)
  refine j_if_lt C 33 dX9_isEarly_6 (by decide) hf (fun hf => ?_) (fun hf => ?_)
  · refine j_iconst C (v := 0) dX9_isEarly_33 (by decide) ?_
    cases hf
    exact ret _ _ dX9_isEarly_34 (fun _ => rfl)
  · refine j_aload_n C 0 dX9_isEarly_9 rfl rfl ?_
    refine j_get C 36 iX9_isEarly_X9 h_0 rfl (by decide) mX9_isEarly_f115 rfl rfl dX9_isEarly_10 ?_
    refine j_iload_n C 1 dX9_isEarly_13 rfl rfl ?_
    refine j_iald C 0 h_35 rfl dX9_isEarly_14 hf (fun hf => ?_)
    refine j_aload_n C 0 dX9_isEarly_15 rfl rfl ?_
    refine j_get C 32 iX9_isEarly_X9 h_0 rfl (by decide) mX9_isEarly_f103 rfl rfl dX9_isEarly_16 ?_
    refine j_aload_n C 0 dX9_isEarly_19 rfl rfl ?_
    refine j_get C 33 iX9_isEarly_X9 h_0 rfl (by decide) mX9_isEarly_f106 rfl rfl dX9_isEarly_20 ?_
    refine j_iload_n C 1 dX9_isEarly_23 rfl rfl ?_
    refine j_iald C 0 h_32 rfl dX9_isEarly_24 hf (fun hf => ?_)
    refine j_iald C 0 h_31 rfl dX9_isEarly_25 hf (fun hf => ?_)
    refine j_icmp_ge C 33 dX9_isEarly_26 (by decide) hf (fun hf => ?_) (fun hf => ?_)
    · refine j_iconst C (v := 0) dX9_isEarly_33 (by decide) ?_
      cases hf
      exact ret _ _ dX9_isEarly_34 (fun _ => rfl)
    · refine j_iconst C (v := 1) dX9_isEarly_29 (by decide) ?_
      refine j_goto C 34 dX9_isEarly_30 (by decide) ?_
      cases hf
      exact ret _ _ dX9_isEarly_34 (fun _ => rfl)
/-- BarrierLightsModel.plainDone(II)Z -/
def f_X9_plainDone (p1 : Int32) (p2 : Int32) (K : Mem) : Option (Int32) := if inb p2 4 = true then (if (K 19 (ix p2)) = 1 then (if inb p2 4 = true then (if inb p2 4 = true then ((f_X9_entry p1 (K 20 (ix p2)) 0 K).bind fun u1 => if (K 22 (ix p2)) < u1 then (some 0) else (if inb p2 4 = true then (if (K 25 (ix p2)) = 0 then ((f_X9_wanted p1 p2 K).bind fun u3 => if u3 = 0 then (some 0) else (if inb p2 4 = true then (if (K 24 (ix p2)) = 0 then (some 1) else (if inb p2 4 = true then (if inb p2 4 = true then ((f_X9_entry p1 (K 20 (ix p2)) 2 K).bind fun u5 => if u5 ≤ (K 23 (ix p2)) then (some 1) else ((f_X9_isEarly p1 K).bind fun u7 => if u7 = 0 then (some 0) else (if inb p1 2 = true then (if (K 6 (ix p1)) = 1 then (some 1) else (some 0)) else none))) else none) else none)) else none)) else (some 0)) else none)) else none) else none) else (some 0)) else none
abbrev rmX9_plainDone : Room := { frames := 6, cells := 0, slots := 0, locals := 135 }
theorem iX9_plainDone_X9 : ∀ w ∈ u_ws RX9 TX9 37, w ∈ wsX9_plainDone := fun _ h => List.mem_cons_of_mem _ (List.mem_append_right _ h)
theorem mX9_plainDone_f67 : Cond.fieldLink RX9 67 "BarrierLightsModel" "state" "[I" ∈ wsX9_plainDone := by decide +kernel
theorem mX9_plainDone_f76 : Cond.fieldLink RX9 76 "BarrierLightsModel" "age" "[I" ∈ wsX9_plainDone := by decide +kernel
theorem mX9_plainDone_f70 : Cond.fieldLink RX9 70 "BarrierLightsModel" "phase" "[I" ∈ wsX9_plainDone := by decide +kernel
theorem mX9_plainDone_f85 : Cond.fieldLink RX9 85 "BarrierLightsModel" "walker" "[I" ∈ wsX9_plainDone := by decide +kernel
theorem mX9_plainDone_f82 : Cond.fieldLink RX9 82 "BarrierLightsModel" "gap" "[I" ∈ wsX9_plainDone := by decide +kernel
theorem mX9_plainDone_f79 : Cond.fieldLink RX9 79 "BarrierLightsModel" "against" "[I" ∈ wsX9_plainDone := by decide +kernel
theorem hdX9_isEarly : yX9_isEarly.cls = RX9 ∧ yX9_isEarly.cls ≠ "java/lang/invoke/MethodHandle" ∧ yX9_isEarly.cls ≠ "java/lang/invoke/VarHandle" ∧ (parseMethodDescriptor yX9_isEarly.desc).map (fun d => d.parameters.length) = some 1 := by decide +kernel
theorem mX9_plainDone_f27 : Cond.fieldLink RX9 27 "BarrierLightsModel" "side" "[I" ∈ wsX9_plainDone := by decide +kernel
set_option maxRecDepth 100000 in
set_option maxHeartbeats 4000000 in
theorem k_X9_plainDone {l : Launch} {D : va_G} {ad : Nat → Nat} {aI aZ aS aF : ClassId} {p1 : Int32} {p2 : Int32} {K : Mem} {u : Int32} (hf : f_X9_plainDone p1 p2 K = some u) : cI (EM l D ad aI aZ aS aF) yX9_plainDone wsX9_plainDone rmX9_plainDone [.ref (ad 0), .int p1, .int p2] K u K := by
  rw [f_X9_plainDone] at hf
  refine j_entI (cc := cX9_plainDone) (maxL := 3) (EM_ok l D ad aI aZ aS aF) (Or.inr rfl) (by decide) rfl (Nat.le_of_ble_eq_true rfl) (fun G C ret => ?_)
  refine j_sub [0, 1, 2] (lv2 := [(0, .ref (ad 0)), (1, .int p1), (2, .int p2)]) rfl ?_
  refine j_aload_n C 0 dX9_plainDone_0 rfl rfl ?_
  refine j_get C 20 iX9_plainDone_X9 h_0 rfl (by decide) mX9_plainDone_f67 rfl rfl dX9_plainDone_1 ?_
  refine j_iload_n C 2 dX9_plainDone_4 rfl rfl ?_
  refine j_iald C 0 h_19 rfl dX9_plainDone_5 hf (fun hf => ?_)
  refine j_iconst C (v := 1) dX9_plainDone_6 (by decide) ?_
  refine j_icmp_ne C 49 dX9_plainDone_7 (by decide) hf (fun hf => ?_) (fun hf => ?_)
  · refine j_aload_n C 0 dX9_plainDone_10 rfl rfl ?_
    refine j_get C 23 iX9_plainDone_X9 h_0 rfl (by decide) mX9_plainDone_f76 rfl rfl dX9_plainDone_11 ?_
    refine j_iload_n C 2 dX9_plainDone_14 rfl rfl ?_
    refine j_iald C 0 h_22 rfl dX9_plainDone_15 hf (fun hf => ?_)
    refine j_aload_n C 0 dX9_plainDone_16 rfl rfl ?_
    refine j_iload_n C 1 dX9_plainDone_17 rfl rfl ?_
    refine j_aload_n C 0 dX9_plainDone_18 rfl rfl ?_
    refine j_get C 21 iX9_plainDone_X9 h_0 rfl (by decide) mX9_plainDone_f70 rfl rfl dX9_plainDone_19 ?_
    refine j_iload_n C 2 dX9_plainDone_22 rfl rfl ?_
    refine j_iald C 0 h_20 rfl dX9_plainDone_23 hf (fun hf => ?_)
    refine j_iconst C (v := 0) dX9_plainDone_24 (by decide) ?_
    obtain ⟨u1, h2, hf⟩ := bd hf
    refine j_cVI C [.int p1, .int ((K 20 (ix p2))), .int 0] gX9_plainDone_X9_entry rfl hdX9_entry ⟨⟨rfl, rfl⟩, Nat.le_of_ble_eq_true rfl, Nat.le_of_ble_eq_true rfl⟩ rfl h_0 rfl (k_X9_entry h2) dX9_plainDone_25 rfl (Nat.le_of_ble_eq_true rfl) ?_
    refine j_icmp_lt C 49 dX9_plainDone_28 (by decide) hf (fun hf => ?_) (fun hf => ?_)
    · refine j_iconst C (v := 0) dX9_plainDone_49 (by decide) ?_
      cases hf
      exact ret _ _ dX9_plainDone_50 (fun _ => rfl)
    · refine j_aload_n C 0 dX9_plainDone_31 rfl rfl ?_
      refine j_get C 26 iX9_plainDone_X9 h_0 rfl (by decide) mX9_plainDone_f85 rfl rfl dX9_plainDone_32 ?_
      refine j_iload_n C 2 dX9_plainDone_35 rfl rfl ?_
      refine j_iald C 0 h_25 rfl dX9_plainDone_36 hf (fun hf => ?_)
      refine j_if_ne C 49 dX9_plainDone_37 (by decide) hf (fun hf => ?_) (fun hf => ?_)
      · refine j_aload_n C 0 dX9_plainDone_40 rfl rfl ?_
        refine j_iload_n C 1 dX9_plainDone_41 rfl rfl ?_
        refine j_iload_n C 2 dX9_plainDone_42 rfl rfl ?_
        obtain ⟨u3, h4, hf⟩ := bd hf
        refine j_cVI C [.int p1, .int p2] gX9_plainDone_X9_wanted rfl hdX9_wanted ⟨⟨rfl, rfl⟩, Nat.le_of_ble_eq_true rfl, Nat.le_of_ble_eq_true rfl⟩ rfl h_0 rfl (k_X9_wanted h4) dX9_plainDone_43 rfl (Nat.le_of_ble_eq_true rfl) ?_
        refine j_if_ne C 51 dX9_plainDone_46 (by decide) hf (fun hf => ?_) (fun hf => ?_)
        · refine j_iconst C (v := 0) dX9_plainDone_49 (by decide) ?_
          cases hf
          exact ret _ _ dX9_plainDone_50 (fun _ => rfl)
        · refine j_aload_n C 0 dX9_plainDone_51 rfl rfl ?_
          refine j_get C 25 iX9_plainDone_X9 h_0 rfl (by decide) mX9_plainDone_f82 rfl rfl dX9_plainDone_52 ?_
          refine j_iload_n C 2 dX9_plainDone_55 rfl rfl ?_
          refine j_iald C 0 h_24 rfl dX9_plainDone_56 hf (fun hf => ?_)
          refine j_if_eq C 99 dX9_plainDone_57 (by decide) hf (fun hf => ?_) (fun hf => ?_)
          · refine j_iconst C (v := 1) dX9_plainDone_99 (by decide) ?_
            refine j_goto C 104 dX9_plainDone_100 (by decide) ?_
            cases hf
            exact ret _ _ dX9_plainDone_104 (fun _ => rfl)
          · refine j_aload_n C 0 dX9_plainDone_60 rfl rfl ?_
            refine j_get C 24 iX9_plainDone_X9 h_0 rfl (by decide) mX9_plainDone_f79 rfl rfl dX9_plainDone_61 ?_
            refine j_iload_n C 2 dX9_plainDone_64 rfl rfl ?_
            refine j_iald C 0 h_23 rfl dX9_plainDone_65 hf (fun hf => ?_)
            refine j_aload_n C 0 dX9_plainDone_66 rfl rfl ?_
            refine j_iload_n C 1 dX9_plainDone_67 rfl rfl ?_
            refine j_aload_n C 0 dX9_plainDone_68 rfl rfl ?_
            refine j_get C 21 iX9_plainDone_X9 h_0 rfl (by decide) mX9_plainDone_f70 rfl rfl dX9_plainDone_69 ?_
            refine j_iload_n C 2 dX9_plainDone_72 rfl rfl ?_
            refine j_iald C 0 h_20 rfl dX9_plainDone_73 hf (fun hf => ?_)
            refine j_iconst C (v := 2) dX9_plainDone_74 (by decide) ?_
            obtain ⟨u5, h6, hf⟩ := bd hf
            refine j_cVI C [.int p1, .int ((K 20 (ix p2))), .int 2] gX9_plainDone_X9_entry rfl hdX9_entry ⟨⟨rfl, rfl⟩, Nat.le_of_ble_eq_true rfl, Nat.le_of_ble_eq_true rfl⟩ rfl h_0 rfl (k_X9_entry h6) dX9_plainDone_75 rfl (Nat.le_of_ble_eq_true rfl) ?_
            refine j_icmp_ge C 99 dX9_plainDone_78 (by decide) hf (fun hf => ?_) (fun hf => ?_)
            · refine j_iconst C (v := 1) dX9_plainDone_99 (by decide) ?_
              refine j_goto C 104 dX9_plainDone_100 (by decide) ?_
              cases hf
              exact ret _ _ dX9_plainDone_104 (fun _ => rfl)
            · refine j_aload_n C 0 dX9_plainDone_81 rfl rfl ?_
              refine j_iload_n C 1 dX9_plainDone_82 rfl rfl ?_
              obtain ⟨u7, h8, hf⟩ := bd hf
              refine j_cVI C [.int p1] gX9_plainDone_X9_isEarly rfl hdX9_isEarly ⟨⟨rfl, rfl⟩, Nat.le_of_ble_eq_true rfl, Nat.le_of_ble_eq_true rfl⟩ rfl h_0 rfl (k_X9_isEarly h8) dX9_plainDone_83 rfl (Nat.le_of_ble_eq_true rfl) ?_
              refine j_if_eq C 103 dX9_plainDone_86 (by decide) hf (fun hf => ?_) (fun hf => ?_)
              · refine j_iconst C (v := 0) dX9_plainDone_103 (by decide) ?_
                cases hf
                exact ret _ _ dX9_plainDone_104 (fun _ => rfl)
              · refine j_aload_n C 0 dX9_plainDone_89 rfl rfl ?_
                refine j_get C 7 iX9_plainDone_X9 h_0 rfl (by decide) mX9_plainDone_f27 rfl rfl dX9_plainDone_90 ?_
                refine j_iload_n C 1 dX9_plainDone_93 rfl rfl ?_
                refine j_iald C 0 h_6 rfl dX9_plainDone_94 hf (fun hf => ?_)
                refine j_iconst C (v := 1) dX9_plainDone_95 (by decide) ?_
                refine j_icmp_ne C 103 dX9_plainDone_96 (by decide) hf (fun hf => ?_) (fun hf => ?_)
                · refine j_iconst C (v := 1) dX9_plainDone_99 (by decide) ?_
                  refine j_goto C 104 dX9_plainDone_100 (by decide) ?_
                  cases hf
                  exact ret _ _ dX9_plainDone_104 (fun _ => rfl)
                · refine j_iconst C (v := 0) dX9_plainDone_103 (by decide) ?_
                  cases hf
                  exact ret _ _ dX9_plainDone_104 (fun _ => rfl)
      · refine j_iconst C (v := 0) dX9_plainDone_49 (by decide) ?_
        cases hf
        exact ret _ _ dX9_plainDone_50 (fun _ => rfl)
  · refine j_iconst C (v := 0) dX9_plainDone_49 (by decide) ?_
    cases hf
    exact ret _ _ dX9_plainDone_50 (fun _ => rfl)
/-- BarrierLightsModel.goal(III)I -/
def f_X9_goal (p1 : Int32) (p2 : Int32) (p3 : Int32) (K : Mem) : Option (Int32) := lt ((jrem p3 4) + (4 * (jrem p2 2))) fun x1 => if inb ((8 * p1) + x1) 16 = true then (if (K 8 (ix ((8 * p1) + x1))) = 0 then (some (-1)) else (some x1)) else none
abbrev rmX9_goal : Room := { frames := 0, cells := 0, slots := 0, locals := 0 }
theorem iX9_goal_X9 : ∀ w ∈ u_ws RX9 TX9 37, w ∈ wsX9_goal := fun _ h => List.mem_cons_of_mem _ (List.mem_append_right _ h)
theorem mX9_goal_f33 : Cond.fieldLink RX9 33 "BarrierLightsModel" "used" "[Z" ∈ wsX9_goal := by decide +kernel
set_option maxRecDepth 100000 in
set_option maxHeartbeats 4000000 in
theorem k_X9_goal {l : Launch} {D : va_G} {ad : Nat → Nat} {aI aZ aS aF : ClassId} {p1 : Int32} {p2 : Int32} {p3 : Int32} {K : Mem} {u : Int32} (hf : f_X9_goal p1 p2 p3 K = some u) : cI (EM l D ad aI aZ aS aF) yX9_goal wsX9_goal rmX9_goal [.ref (ad 0), .int p1, .int p2, .int p3] K u K := by
  rw [f_X9_goal] at hf
  refine j_entI (cc := cX9_goal) (maxL := 5) (EM_ok l D ad aI aZ aS aF) (Or.inl rfl) (by decide) rfl (Nat.le_of_ble_eq_true rfl) (fun G C ret => ?_)
  refine j_sub [0, 1, 2, 3] (lv2 := [(0, .ref (ad 0)), (1, .int p1), (2, .int p2), (3, .int p3)]) rfl ?_
  refine j_iload_n C 3 dX9_goal_0 rfl rfl ?_
  refine j_iconst C (v := 4) dX9_goal_1 (by decide) ?_
  refine j_irem C dX9_goal_2 (by decide) ?_
  refine j_iconst C (v := 4) dX9_goal_3 (by decide) ?_
  refine j_iload_n C 2 dX9_goal_4 rfl rfl ?_
  refine j_iconst C (v := 2) dX9_goal_5 (by decide) ?_
  refine j_irem C dX9_goal_6 (by decide) ?_
  refine j_imul C dX9_goal_7 ?_
  refine j_iadd C dX9_goal_8 ?_
  refine j_istore C (fun y => [(4, .int y), (0, .ref (ad 0)), (1, .int p1), (2, .int p2), (3, .int p3)]) dX9_goal_9 (by decide) (fun _ => rfl) hf (fun x1 hf => ?_)
  refine j_aload_n C 1 dX9_goal_11 rfl rfl ?_
  refine j_get C 9 iX9_goal_X9 h_0 rfl (by decide) mX9_goal_f33 rfl rfl dX9_goal_12 ?_
  refine j_bipush C (v := 8) dX9_goal_15 (by decide) ?_
  refine j_iload_n C 2 dX9_goal_17 rfl rfl ?_
  refine j_imul C dX9_goal_18 ?_
  refine j_iload C 0 dX9_goal_19 rfl ?_
  refine j_iadd C dX9_goal_21 ?_
  refine j_zald C 1 h_8 rfl dX9_goal_22 hf (fun hf => ?_)
  refine j_if_eq C 31 dX9_goal_23 (by decide) hf (fun hf => ?_) (fun hf => ?_)
  · refine j_iconst C (v := (-1)) dX9_goal_31 (by decide) ?_
    cases hf
    exact ret _ _ dX9_goal_32 (fun h => by cases h)
  · refine j_iload C 0 dX9_goal_26 rfl ?_
    refine j_goto C 32 dX9_goal_28 (by decide) ?_
    cases hf
    exact ret _ _ dX9_goal_32 (fun h => by cases h)
/-- BarrierLightsModel.greaterDone(III)Z -/
def f_X9_greaterDone (p1 : Int32) (p2 : Int32) (p3 : Int32) (K : Mem) : Option (Int32) := if inb p2 4 = true then (if (K 19 (ix p2)) = 1 then (if inb p2 4 = true then ((f_X9_goal p1 p2 p3 K).bind fun u1 => if (K 20 (ix p2)) = u1 then (some 0) else (if inb p2 4 = true then (if inb p2 4 = true then ((f_X9_entry p1 (K 20 (ix p2)) 0 K).bind fun u3 => if (K 22 (ix p2)) < u3 then (some 0) else (if inb p2 4 = true then (if (K 25 (ix p2)) = 0 then (some 1) else (some 0)) else none)) else none) else none)) else none) else (some 0)) else none
abbrev rmX9_greaterDone : Room := { frames := 1, cells := 0, slots := 0, locals := 24 }
theorem iX9_greaterDone_X9 : ∀ w ∈ u_ws RX9 TX9 37, w ∈ wsX9_greaterDone := fun _ h => List.mem_cons_of_mem _ (List.mem_append_right _ h)
theorem mX9_greaterDone_f67 : Cond.fieldLink RX9 67 "BarrierLightsModel" "state" "[I" ∈ wsX9_greaterDone := by decide +kernel
theorem mX9_greaterDone_f70 : Cond.fieldLink RX9 70 "BarrierLightsModel" "phase" "[I" ∈ wsX9_greaterDone := by decide +kernel
theorem hdX9_goal : yX9_goal.cls = RX9 ∧ yX9_goal.cls ≠ "java/lang/invoke/MethodHandle" ∧ yX9_goal.cls ≠ "java/lang/invoke/VarHandle" ∧ (parseMethodDescriptor yX9_goal.desc).map (fun d => d.parameters.length) = some 3 := by decide +kernel
theorem mX9_greaterDone_f76 : Cond.fieldLink RX9 76 "BarrierLightsModel" "age" "[I" ∈ wsX9_greaterDone := by decide +kernel
theorem mX9_greaterDone_f85 : Cond.fieldLink RX9 85 "BarrierLightsModel" "walker" "[I" ∈ wsX9_greaterDone := by decide +kernel
set_option maxRecDepth 100000 in
set_option maxHeartbeats 4000000 in
theorem k_X9_greaterDone {l : Launch} {D : va_G} {ad : Nat → Nat} {aI aZ aS aF : ClassId} {p1 : Int32} {p2 : Int32} {p3 : Int32} {K : Mem} {u : Int32} (hf : f_X9_greaterDone p1 p2 p3 K = some u) : cI (EM l D ad aI aZ aS aF) yX9_greaterDone wsX9_greaterDone rmX9_greaterDone [.ref (ad 0), .int p1, .int p2, .int p3] K u K := by
  rw [f_X9_greaterDone] at hf
  refine j_entI (cc := cX9_greaterDone) (maxL := 4) (EM_ok l D ad aI aZ aS aF) (Or.inr rfl) (by decide) rfl (Nat.le_of_ble_eq_true rfl) (fun G C ret => ?_)
  refine j_sub [0, 1, 2, 3] (lv2 := [(0, .ref (ad 0)), (1, .int p1), (2, .int p2), (3, .int p3)]) rfl ?_
  refine j_aload_n C 0 dX9_greaterDone_0 rfl rfl ?_
  refine j_get C 20 iX9_greaterDone_X9 h_0 rfl (by decide) mX9_greaterDone_f67 rfl rfl dX9_greaterDone_1 ?_
  refine j_iload_n C 2 dX9_greaterDone_4 rfl rfl ?_
  refine j_iald C 0 h_19 rfl dX9_greaterDone_5 hf (fun hf => ?_)
  refine j_iconst C (v := 1) dX9_greaterDone_6 (by decide) ?_
  refine j_icmp_ne C 60 dX9_greaterDone_7 (by decide) hf (fun hf => ?_) (fun hf => ?_)
  · refine j_aload_n C 0 dX9_greaterDone_10 rfl rfl ?_
    refine j_get C 21 iX9_greaterDone_X9 h_0 rfl (by decide) mX9_greaterDone_f70 rfl rfl dX9_greaterDone_11 ?_
    refine j_iload_n C 2 dX9_greaterDone_14 rfl rfl ?_
    refine j_iald C 0 h_20 rfl dX9_greaterDone_15 hf (fun hf => ?_)
    refine j_aload_n C 0 dX9_greaterDone_16 rfl rfl ?_
    refine j_iload_n C 1 dX9_greaterDone_17 rfl rfl ?_
    refine j_iload_n C 2 dX9_greaterDone_18 rfl rfl ?_
    refine j_iload_n C 3 dX9_greaterDone_19 rfl rfl ?_
    obtain ⟨u1, h2, hf⟩ := bd hf
    refine j_cVI C [.int p1, .int p2, .int p3] gX9_greaterDone_X9_goal rfl hdX9_goal ⟨⟨rfl, rfl⟩, Nat.le_of_ble_eq_true rfl, Nat.le_of_ble_eq_true rfl⟩ rfl h_0 rfl (k_X9_goal h2) dX9_greaterDone_20 rfl (Nat.le_of_ble_eq_true rfl) ?_
    refine j_icmp_eq C 60 dX9_greaterDone_23 (by decide) hf (fun hf => ?_) (fun hf => ?_)
    · refine j_iconst C (v := 0) dX9_greaterDone_60 (by decide) ?_
      cases hf
      exact ret _ _ dX9_greaterDone_61 (fun _ => rfl)
    · refine j_aload_n C 0 dX9_greaterDone_26 rfl rfl ?_
      refine j_get C 23 iX9_greaterDone_X9 h_0 rfl (by decide) mX9_greaterDone_f76 rfl rfl dX9_greaterDone_27 ?_
      refine j_iload_n C 2 dX9_greaterDone_30 rfl rfl ?_
      refine j_iald C 0 h_22 rfl dX9_greaterDone_31 hf (fun hf => ?_)
      refine j_aload_n C 0 dX9_greaterDone_32 rfl rfl ?_
      refine j_iload_n C 1 dX9_greaterDone_33 rfl rfl ?_
      refine j_aload_n C 0 dX9_greaterDone_34 rfl rfl ?_
      refine j_get C 21 iX9_greaterDone_X9 h_0 rfl (by decide) mX9_greaterDone_f70 rfl rfl dX9_greaterDone_35 ?_
      refine j_iload_n C 2 dX9_greaterDone_38 rfl rfl ?_
      refine j_iald C 0 h_20 rfl dX9_greaterDone_39 hf (fun hf => ?_)
      refine j_iconst C (v := 0) dX9_greaterDone_40 (by decide) ?_
      obtain ⟨u3, h4, hf⟩ := bd hf
      refine j_cVI C [.int p1, .int ((K 20 (ix p2))), .int 0] gX9_greaterDone_X9_entry rfl hdX9_entry ⟨⟨rfl, rfl⟩, Nat.le_of_ble_eq_true rfl, Nat.le_of_ble_eq_true rfl⟩ rfl h_0 rfl (k_X9_entry h4) dX9_greaterDone_41 rfl (Nat.le_of_ble_eq_true rfl) ?_
      refine j_icmp_lt C 60 dX9_greaterDone_44 (by decide) hf (fun hf => ?_) (fun hf => ?_)
      · refine j_iconst C (v := 0) dX9_greaterDone_60 (by decide) ?_
        cases hf
        exact ret _ _ dX9_greaterDone_61 (fun _ => rfl)
      · refine j_aload_n C 0 dX9_greaterDone_47 rfl rfl ?_
        refine j_get C 26 iX9_greaterDone_X9 h_0 rfl (by decide) mX9_greaterDone_f85 rfl rfl dX9_greaterDone_48 ?_
        refine j_iload_n C 2 dX9_greaterDone_51 rfl rfl ?_
        refine j_iald C 0 h_25 rfl dX9_greaterDone_52 hf (fun hf => ?_)
        refine j_if_ne C 60 dX9_greaterDone_53 (by decide) hf (fun hf => ?_) (fun hf => ?_)
        · refine j_iconst C (v := 1) dX9_greaterDone_56 (by decide) ?_
          refine j_goto C 61 dX9_greaterDone_57 (by decide) ?_
          cases hf
          exact ret _ _ dX9_greaterDone_61 (fun _ => rfl)
        · refine j_iconst C (v := 0) dX9_greaterDone_60 (by decide) ?_
          cases hf
          exact ret _ _ dX9_greaterDone_61 (fun _ => rfl)
  · refine j_iconst C (v := 0) dX9_greaterDone_60 (by decide) ?_
    cases hf
    exact ret _ _ dX9_greaterDone_61 (fun _ => rfl)
/-- BarrierLightsModel.empty(II)V -/
def f_X9_empty_L10 (c1 : Int32) (c2 : Int32) : Nat → Int32 → Int32 → Int32 → Mem → Option (Int32 × Int32 × Int32)
  | 0, _, _, _, _ => none
  | n + 1, y3, y4, y5, K => if ((2 * c1) + 2) ≤ y5 then (some (y3, y4, y5)) else ((if y3 = 0 then (some 0) else (if inb y5 4 = true then (if (K 19 (ix y5)) = 0 then (some 1) else (if 0 ≤ c2 then ((f_X9_greaterDone c1 y5 c2 K).bind fun u7 => if u7 = 0 then (some 0) else (some 1)) else ((f_X9_plainDone c1 y5 K).bind fun u9 => if u9 = 0 then (some 0) else (some 1)))) else none) : Option (Int32)).bind fun v4 => lt v4 fun x11 => (if y4 = 0 then (if inb y5 4 = true then (if (K 19 (ix y5)) = 1 then (some 1) else (some 0)) else none) else (some 1) : Option (Int32)).bind fun v12 => lt v12 fun x15 => lt (y5 + 1) fun x16 => f_X9_empty_L10 c1 c2 n x11 x15 x16 K)
def f_X9_empty_L102 (c1 : Int32) (c2 : Int32) (c3 : Int32) (c4 : Int32) : Nat → Int32 → Mem → Option (Int32 × Mem)
  | 0, _, _ => none
  | n + 1, y5, K => if ((2 * c1) + 2) ≤ y5 then (some (y5, K)) else (if c3 = 0 then (some (y5, K)) else (if c4 = 0 then (some (y5, K)) else (if inb y5 4 = true then ((if (K 19 (ix y5)) = 1 then ((f_X9_yellow y5 (-1) K).bind fun u23 => some u23) else (some K) : Option (Mem)).bind fun v20 => lt (y5 + 1) fun x25 => f_X9_empty_L102 c1 c2 c3 c4 n x25 v20) else none)))
def f_X9_empty (p1 : Int32) (p2 : Int32) (K : Mem) : Option (Mem) := lt 1 fun x1 => lt 0 fun x2 => lt (2 * p1) fun x3 => (f_X9_empty_L10 p1 p2 70 x1 x2 x3 K).bind fun v17 => lt (2 * p1) fun x19 => (f_X9_empty_L102 p1 p2 v17.1 v17.2.1 70 x19 K).bind fun v26 => some v26.2
abbrev rmX9_empty : Room := { frames := 7, cells := 0, slots := 0, locals := 157 }
theorem iX9_empty_X9 : ∀ w ∈ u_ws RX9 TX9 37, w ∈ wsX9_empty := fun _ h => List.mem_cons_of_mem _ (List.mem_append_right _ h)
theorem mX9_empty_f67 : Cond.fieldLink RX9 67 "BarrierLightsModel" "state" "[I" ∈ wsX9_empty := by decide +kernel
theorem hdX9_greaterDone : yX9_greaterDone.cls = RX9 ∧ yX9_greaterDone.cls ≠ "java/lang/invoke/MethodHandle" ∧ yX9_greaterDone.cls ≠ "java/lang/invoke/VarHandle" ∧ (parseMethodDescriptor yX9_greaterDone.desc).map (fun d => d.parameters.length) = some 3 := by decide +kernel
theorem hdX9_plainDone : yX9_plainDone.cls = RX9 ∧ yX9_plainDone.cls ≠ "java/lang/invoke/MethodHandle" ∧ yX9_plainDone.cls ≠ "java/lang/invoke/VarHandle" ∧ (parseMethodDescriptor yX9_plainDone.desc).map (fun d => d.parameters.length) = some 2 := by decide +kernel
theorem hdX9_yellow : yX9_yellow.cls = RX9 ∧ yX9_yellow.cls ≠ "java/lang/invoke/MethodHandle" ∧ yX9_yellow.cls ≠ "java/lang/invoke/VarHandle" ∧ (parseMethodDescriptor yX9_yellow.desc).map (fun d => d.parameters.length) = some 2 := by decide +kernel
set_option maxRecDepth 100000 in
set_option maxHeartbeats 4000000 in
theorem lp_X9_empty_L10 {l : Launch} {D : va_G} {ad : Nat → Nat} {aI aZ aS aF : ClassId} {G : jG} {c1 : Int32} {c2 : Int32} (C : jC (EM l D ad aI aZ aS aF) G cX9_empty yX9_empty.cls wsX9_empty rmX9_empty 6) : ∀ (n : Nat) (y3 y4 y5 : Int32) (K : Mem) (v : Int32 × Int32 × Int32), f_X9_empty_L10 c1 c2 n y3 y4 y5 K = some v → jW (EM l D ad aI aZ aS aF) G K 97 [(0, .ref (ad 0)), (1, .int c1), (2, .int c2), (3, .int v.1), (4, .int v.2.1), (5, .int v.2.2)] [] → jW (EM l D ad aI aZ aS aF) G K 10 [(0, .ref (ad 0)), (1, .int c1), (2, .int c2), (3, .int y3), (4, .int y4), (5, .int y5)] [] := by
  intro n
  induction n with
  | zero =>
    intro y3 y4 y5 K v hf jj
    rw [f_X9_empty_L10] at hf
    cases hf
  | succ n ih =>
    intro y3 y4 y5 K v hf jj
    rw [f_X9_empty_L10] at hf
    refine j_iload C 5 dX9_empty_10 rfl ?_
    refine j_iconst C (v := 2) dX9_empty_12 (by decide) ?_
    refine j_iload_n C 1 dX9_empty_13 rfl rfl ?_
    refine j_imul C dX9_empty_14 ?_
    refine j_iconst C (v := 2) dX9_empty_15 (by decide) ?_
    refine j_iadd C dX9_empty_16 ?_
    refine j_icmp_ge C 97 dX9_empty_17 (by decide) hf (fun hf => ?_) (fun hf => ?_)
    · cases hf
      exact jj
    · refine j_iload_n C 3 dX9_empty_20 rfl rfl ?_
      obtain ⟨v4, h5, hf⟩ := bd hf
      have jj6 : jW (EM l D ad aI aZ aS aF) G K 67 [(0, .ref (ad 0)), (1, .int c1), (2, .int c2), (3, .int y3), (4, .int y4), (5, .int y5)] [.int v4] := by
        refine j_istore_n C (fun y => [(3, .int y), (0, .ref (ad 0)), (1, .int c1), (2, .int c2), (4, .int y4), (5, .int y5)]) dX9_empty_67 rfl (by decide) (fun _ => rfl) hf (fun x11 hf => ?_)
        refine j_iload C 4 dX9_empty_68 rfl ?_
        obtain ⟨v12, h13, hf⟩ := bd hf
        have jj14 : jW (EM l D ad aI aZ aS aF) G K 89 [(0, .ref (ad 0)), (1, .int c1), (2, .int c2), (3, .int x11), (4, .int y4), (5, .int y5)] [.int v12] := by
          refine j_istore C (fun y => [(4, .int y), (0, .ref (ad 0)), (1, .int c1), (2, .int c2), (3, .int x11), (5, .int y5)]) dX9_empty_89 (by decide) (fun _ => rfl) hf (fun x15 hf => ?_)
          refine j_iinc C (v := (y5 + 1)) 5 (fun y => [(5, .int y), (4, .int x15), (0, .ref (ad 0)), (1, .int c1), (2, .int c2), (3, .int x11)]) dX9_empty_91 rfl rfl (by decide) (fun _ => rfl) hf (fun x16 hf => ?_)
          refine j_goto C 10 dX9_empty_94 (by decide) ?_
          refine j_sub [2, 3, 4, 5, 1, 0] rfl ?_
          exact ih _ _ _ _ _ hf jj
        clear hf
        have hf := h13
        clear h13
        refine j_if_ne C 84 dX9_empty_70 (by decide) hf (fun hf => ?_) (fun hf => ?_)
        · refine j_aload_n C 1 dX9_empty_73 rfl rfl ?_
          refine j_get C 20 iX9_empty_X9 h_0 rfl (by decide) mX9_empty_f67 rfl rfl dX9_empty_74 ?_
          refine j_iload C 5 dX9_empty_77 rfl ?_
          refine j_iald C 0 h_19 rfl dX9_empty_79 hf (fun hf => ?_)
          refine j_iconst C (v := 1) dX9_empty_80 (by decide) ?_
          refine j_icmp_ne C 88 dX9_empty_81 (by decide) hf (fun hf => ?_) (fun hf => ?_)
          · refine j_iconst C (v := 1) dX9_empty_84 (by decide) ?_
            refine j_goto C 89 dX9_empty_85 (by decide) ?_
            cases hf
            refine j_sub [1, 2, 3, 0, 4, 5] rfl ?_
            exact jj14
          · refine j_iconst C (v := 0) dX9_empty_88 (by decide) ?_
            cases hf
            refine j_sub [1, 2, 3, 0, 4, 5] rfl ?_
            exact jj14
        · refine j_iconst C (v := 1) dX9_empty_84 (by decide) ?_
          refine j_goto C 89 dX9_empty_85 (by decide) ?_
          cases hf
          refine j_sub [1, 2, 3, 0, 4, 5] rfl ?_
          exact jj14
      clear hf
      have hf := h5
      clear h5
      refine j_if_eq C 66 dX9_empty_21 (by decide) hf (fun hf => ?_) (fun hf => ?_)
      · refine j_iconst C (v := 0) dX9_empty_66 (by decide) ?_
        cases hf
        exact jj6
      · refine j_aload_n C 0 dX9_empty_24 rfl rfl ?_
        refine j_get C 20 iX9_empty_X9 h_0 rfl (by decide) mX9_empty_f67 rfl rfl dX9_empty_25 ?_
        refine j_iload C 5 dX9_empty_28 rfl ?_
        refine j_iald C 0 h_19 rfl dX9_empty_30 hf (fun hf => ?_)
        refine j_if_eq C 62 dX9_empty_31 (by decide) hf (fun hf => ?_) (fun hf => ?_)
        · refine j_iconst C (v := 1) dX9_empty_62 (by decide) ?_
          refine j_goto C 67 dX9_empty_63 (by decide) ?_
          cases hf
          exact jj6
        · refine j_iload_n C 2 dX9_empty_34 rfl rfl ?_
          refine j_if_ge C 51 dX9_empty_35 (by decide) hf (fun hf => ?_) (fun hf => ?_)
          · refine j_aload_n C 0 dX9_empty_51 rfl rfl ?_
            refine j_iload_n C 1 dX9_empty_52 rfl rfl ?_
            refine j_iload C 5 dX9_empty_53 rfl ?_
            refine j_iload_n C 2 dX9_empty_55 rfl rfl ?_
            obtain ⟨u7, h8, hf⟩ := bd hf
            refine j_cVI C [.int c1, .int y5, .int c2] gX9_empty_X9_greaterDone rfl hdX9_greaterDone ⟨⟨rfl, rfl⟩, Nat.le_of_ble_eq_true rfl, Nat.le_of_ble_eq_true rfl⟩ rfl h_0 rfl (k_X9_greaterDone h8) dX9_empty_56 rfl (Nat.le_of_ble_eq_true rfl) ?_
            refine j_if_eq C 66 dX9_empty_59 (by decide) hf (fun hf => ?_) (fun hf => ?_)
            · refine j_iconst C (v := 0) dX9_empty_66 (by decide) ?_
              cases hf
              exact jj6
            · refine j_iconst C (v := 1) dX9_empty_62 (by decide) ?_
              refine j_goto C 67 dX9_empty_63 (by decide) ?_
              cases hf
              exact jj6
          · refine j_aload_n C 0 dX9_empty_38 rfl rfl ?_
            refine j_iload_n C 1 dX9_empty_39 rfl rfl ?_
            refine j_iload C 5 dX9_empty_40 rfl ?_
            obtain ⟨u9, h10, hf⟩ := bd hf
            refine j_cVI C [.int c1, .int y5] gX9_empty_X9_plainDone rfl hdX9_plainDone ⟨⟨rfl, rfl⟩, Nat.le_of_ble_eq_true rfl, Nat.le_of_ble_eq_true rfl⟩ rfl h_0 rfl (k_X9_plainDone h10) dX9_empty_42 rfl (Nat.le_of_ble_eq_true rfl) ?_
            refine j_if_eq C 66 dX9_empty_45 (by decide) hf (fun hf => ?_) (fun hf => ?_)
            · refine j_iconst C (v := 0) dX9_empty_66 (by decide) ?_
              cases hf
              exact jj6
            · refine j_goto C 62 dX9_empty_48 (by decide) ?_
              refine j_iconst C (v := 1) dX9_empty_62 (by decide) ?_
              refine j_goto C 67 dX9_empty_63 (by decide) ?_
              cases hf
              exact jj6
set_option maxRecDepth 100000 in
set_option maxHeartbeats 4000000 in
theorem lp_X9_empty_L102 {l : Launch} {D : va_G} {ad : Nat → Nat} {aI aZ aS aF : ClassId} {G : jG} {c1 : Int32} {c2 : Int32} {c3 : Int32} {c4 : Int32} (C : jC (EM l D ad aI aZ aS aF) G cX9_empty yX9_empty.cls wsX9_empty rmX9_empty 6) : ∀ (n : Nat) (y5 : Int32) (K : Mem) (v : Int32 × Mem), f_X9_empty_L102 c1 c2 c3 c4 n y5 K = some v → jW (EM l D ad aI aZ aS aF) G v.2 145 [(0, .ref (ad 0)), (1, .int c1), (2, .int c2), (3, .int c3), (4, .int c4), (5, .int v.1)] [] → jW (EM l D ad aI aZ aS aF) G K 102 [(0, .ref (ad 0)), (1, .int c1), (2, .int c2), (3, .int c3), (4, .int c4), (5, .int y5)] [] := by
  intro n
  induction n with
  | zero =>
    intro y5 K v hf jj
    rw [f_X9_empty_L102] at hf
    cases hf
  | succ n ih =>
    intro y5 K v hf jj
    rw [f_X9_empty_L102] at hf
    refine j_iload C 5 dX9_empty_102 rfl ?_
    refine j_iconst C (v := 2) dX9_empty_104 (by decide) ?_
    refine j_iload_n C 1 dX9_empty_105 rfl rfl ?_
    refine j_imul C dX9_empty_106 ?_
    refine j_iconst C (v := 2) dX9_empty_107 (by decide) ?_
    refine j_iadd C dX9_empty_108 ?_
    refine j_icmp_ge C 145 dX9_empty_109 (by decide) hf (fun hf => ?_) (fun hf => ?_)
    · cases hf
      exact jj
    · refine j_iload_n C 3 dX9_empty_112 rfl rfl ?_
      refine j_if_eq C 145 dX9_empty_113 (by decide) hf (fun hf => ?_) (fun hf => ?_)
      · cases hf
        exact jj
      · refine j_iload C 4 dX9_empty_116 rfl ?_
        refine j_if_eq C 145 dX9_empty_118 (by decide) hf (fun hf => ?_) (fun hf => ?_)
        · cases hf
          exact jj
        · refine j_aload_n C 0 dX9_empty_121 rfl rfl ?_
          refine j_get C 20 iX9_empty_X9 h_0 rfl (by decide) mX9_empty_f67 rfl rfl dX9_empty_122 ?_
          refine j_iload C 5 dX9_empty_125 rfl ?_
          refine j_iald C 0 h_19 rfl dX9_empty_127 hf (fun hf => ?_)
          refine j_iconst C (v := 1) dX9_empty_128 (by decide) ?_
          obtain ⟨v20, h21, hf⟩ := bd hf
          have jj22 : jW (EM l D ad aI aZ aS aF) G v20 139 [(0, .ref (ad 0)), (1, .int c1), (2, .int c2), (3, .int c3), (4, .int c4), (5, .int y5)] [] := by
            refine j_iinc C (v := (y5 + 1)) 5 (fun y => [(5, .int y), (0, .ref (ad 0)), (1, .int c1), (2, .int c2), (3, .int c3), (4, .int c4)]) dX9_empty_139 rfl rfl (by decide) (fun _ => rfl) hf (fun x25 hf => ?_)
            refine j_goto C 102 dX9_empty_142 (by decide) ?_
            refine j_sub [1, 2, 3, 4, 5, 0] rfl ?_
            exact ih _ _ _ hf jj
          clear hf
          have hf := h21
          clear h21
          refine j_icmp_ne C 139 dX9_empty_129 (by decide) hf (fun hf => ?_) (fun hf => ?_)
          · refine j_aload_n C 0 dX9_empty_132 rfl rfl ?_
            refine j_iload C 5 dX9_empty_133 rfl ?_
            refine j_iconst C (v := (-1)) dX9_empty_135 (by decide) ?_
            obtain ⟨u23, h24, hf⟩ := bd hf
            refine j_cVV C [.int y5, .int ((-1))] gX9_empty_X9_yellow rfl hdX9_yellow ⟨⟨rfl, rfl⟩, Nat.le_of_ble_eq_true rfl, Nat.le_of_ble_eq_true rfl⟩ rfl h_0 rfl (k_X9_yellow h24) dX9_empty_136 rfl (Nat.le_of_ble_eq_true rfl) ?_
            cases hf
            exact jj22
          · cases hf
            exact jj22
set_option maxRecDepth 100000 in
set_option maxHeartbeats 4000000 in
theorem k_X9_empty {l : Launch} {D : va_G} {ad : Nat → Nat} {aI aZ aS aF : ClassId} {p1 : Int32} {p2 : Int32} {K : Mem} {u : Mem} (hf : f_X9_empty p1 p2 K = some u) : cV (EM l D ad aI aZ aS aF) yX9_empty wsX9_empty rmX9_empty [.ref (ad 0), .int p1, .int p2] K u := by
  rw [f_X9_empty] at hf
  refine j_entV (cc := cX9_empty) (maxL := 6) (EM_ok l D ad aI aZ aS aF) (by decide) rfl (Nat.le_of_ble_eq_true rfl) (fun G C ret => ?_)
  refine j_sub [0, 1, 2] (lv2 := [(0, .ref (ad 0)), (1, .int p1), (2, .int p2)]) rfl ?_
  refine j_iconst C (v := 1) dX9_empty_0 (by decide) ?_
  refine j_istore_n C (fun y => [(3, .int y), (0, .ref (ad 0)), (1, .int p1), (2, .int p2)]) dX9_empty_1 rfl (by decide) (fun _ => rfl) hf (fun x1 hf => ?_)
  refine j_iconst C (v := 0) dX9_empty_2 (by decide) ?_
  refine j_istore C (fun y => [(4, .int y), (3, .int x1), (0, .ref (ad 0)), (1, .int p1), (2, .int p2)]) dX9_empty_3 (by decide) (fun _ => rfl) hf (fun x2 hf => ?_)
  refine j_iconst C (v := 2) dX9_empty_5 (by decide) ?_
  refine j_iload_n C 3 dX9_empty_6 rfl rfl ?_
  refine j_imul C dX9_empty_7 ?_
  refine j_istore C (fun y => [(5, .int y), (4, .int x2), (3, .int x1), (0, .ref (ad 0)), (1, .int p1), (2, .int p2)]) dX9_empty_8 (by decide) (fun _ => rfl) hf (fun x3 hf => ?_)
  obtain ⟨v17, h18, hf⟩ := bd hf
  refine j_sub [3, 4, 5, 2, 1, 0] (lv2 := [(0, .ref (ad 0)), (1, .int p1), (2, .int p2), (3, .int x1), (4, .int x2), (5, .int x3)]) rfl ?_
  refine lp_X9_empty_L10 C 70 _ _ _ _ _ h18 ?_
  refine j_iconst C (v := 2) dX9_empty_97 (by decide) ?_
  refine j_iload_n C 1 dX9_empty_98 rfl rfl ?_
  refine j_imul C dX9_empty_99 ?_
  refine j_istore C (fun y => [(5, .int y), (0, .ref (ad 0)), (1, .int p1), (2, .int p2), (3, .int v17.1), (4, .int v17.2.1)]) dX9_empty_100 (by decide) (fun _ => rfl) hf (fun x19 hf => ?_)
  obtain ⟨v26, h27, hf⟩ := bd hf
  refine j_sub [1, 2, 3, 4, 5, 0] (lv2 := [(0, .ref (ad 0)), (1, .int p1), (2, .int p2), (3, .int v17.1), (4, .int v17.2.1), (5, .int x19)]) rfl ?_
  refine lp_X9_empty_L102 C 70 _ _ _ h27 ?_
  cases hf
  exact ret _ _ dX9_empty_145
/-- BarrierLightsModel.bothWait(I)Z -/
def f_X9_bothWait (p1 : Int32) (K : Mem) : Option (Int32) := if inb (2 * p1) 4 = true then (if (K 19 (ix (2 * p1))) = 0 then (if inb ((2 * p1) + 1) 4 = true then (if (K 19 (ix ((2 * p1) + 1))) = 0 then (some 1) else (some 0)) else none) else (some 0)) else none
abbrev rmX9_bothWait : Room := { frames := 0, cells := 0, slots := 0, locals := 0 }
theorem iX9_bothWait_X9 : ∀ w ∈ u_ws RX9 TX9 37, w ∈ wsX9_bothWait := fun _ h => List.mem_cons_of_mem _ (List.mem_append_right _ h)
theorem mX9_bothWait_f67 : Cond.fieldLink RX9 67 "BarrierLightsModel" "state" "[I" ∈ wsX9_bothWait := by decide +kernel
set_option maxRecDepth 100000 in
set_option maxHeartbeats 4000000 in
theorem k_X9_bothWait {l : Launch} {D : va_G} {ad : Nat → Nat} {aI aZ aS aF : ClassId} {p1 : Int32} {K : Mem} {u : Int32} (hf : f_X9_bothWait p1 K = some u) : cI (EM l D ad aI aZ aS aF) yX9_bothWait wsX9_bothWait rmX9_bothWait [.ref (ad 0), .int p1] K u K := by
  rw [f_X9_bothWait] at hf
  refine j_entI (cc := cX9_bothWait) (maxL := 2) (EM_ok l D ad aI aZ aS aF) (Or.inr rfl) (by decide) rfl (Nat.le_of_ble_eq_true rfl) (fun G C ret => ?_)
  refine j_sub [0, 1] (lv2 := [(0, .ref (ad 0)), (1, .int p1)]) rfl ?_
  refine j_aload_n C 0 dX9_bothWait_0 rfl rfl ?_
  refine j_get C 20 iX9_bothWait_X9 h_0 rfl (by decide) mX9_bothWait_f67 rfl rfl dX9_bothWait_1 ?_
  refine j_iconst C (v := 2) dX9_bothWait_4 (by decide) ?_
  refine j_iload_n C 1 dX9_bothWait_5 rfl rfl ?_
  refine j_imul C dX9_bothWait_6 ?_
  refine j_iald C 0 h_19 rfl dX9_bothWait_7 hf (fun hf => ?_)
  refine j_if_ne C 28 dX9_bothWait_8 (by decide) hf (fun hf => ?_) (fun hf => ?_)
  · refine j_aload_n C 0 dX9_bothWait_11 rfl rfl ?_
    refine j_get C 20 iX9_bothWait_X9 h_0 rfl (by decide) mX9_bothWait_f67 rfl rfl dX9_bothWait_12 ?_
    refine j_iconst C (v := 2) dX9_bothWait_15 (by decide) ?_
    refine j_iload_n C 1 dX9_bothWait_16 rfl rfl ?_
    refine j_imul C dX9_bothWait_17 ?_
    refine j_iconst C (v := 1) dX9_bothWait_18 (by decide) ?_
    refine j_iadd C dX9_bothWait_19 ?_
    refine j_iald C 0 h_19 rfl dX9_bothWait_20 hf (fun hf => ?_)
    refine j_if_ne C 28 dX9_bothWait_21 (by decide) hf (fun hf => ?_) (fun hf => ?_)
    · refine j_iconst C (v := 1) dX9_bothWait_24 (by decide) ?_
      refine j_goto C 29 dX9_bothWait_25 (by decide) ?_
      cases hf
      exact ret _ _ dX9_bothWait_29 (fun _ => rfl)
    · refine j_iconst C (v := 0) dX9_bothWait_28 (by decide) ?_
      cases hf
      exact ret _ _ dX9_bothWait_29 (fun _ => rfl)
  · refine j_iconst C (v := 0) dX9_bothWait_28 (by decide) ?_
    cases hf
    exact ret _ _ dX9_bothWait_29 (fun _ => rfl)
