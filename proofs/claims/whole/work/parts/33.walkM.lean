/-- BarrierLightsModel.step(I)V -/
def f_X9_step_L68 (c1 : Int32) (c2 : Int32) : Nat → Int32 → Mem → Option (Int32 × Mem)
  | 0, _, _ => none
  | n + 1, y3, K => if 8 ≤ y3 then (some (y3, K)) else (if inb c1 2 = true then (if (K 7 (ix c1)) = 0 then (some (y3, K)) else (if 0 ≤ c2 then (some (y3, K)) else (if inb ((8 * c1) + y3) 16 = true then ((if (K 8 (ix ((8 * c1) + y3))) = 0 then (some K) else ((f_X9_isGreen c1 y3 K).bind fun u26 => if u26 = 0 then (if inb ((8 * c1) + y3) 16 = true then (st K 9 (ix ((8 * c1) + y3)) (vp_nar .boolean 1) fun K28 => some K28) else none) else (some K)) : Option (Mem)).bind fun v23 => lt (y3 + 1) fun x29 => f_X9_step_L68 c1 c2 n x29 v23) else none))) else none)
def f_X9_step (p1 : Int32) (K : Mem) : Option (Mem) := (f_X9_sense p1 K).bind fun u1 => (f_X9_link p1 u1).bind fun u3 => (f_X9_runs p1 u3).bind fun u5 => if u5 = 0 then (some u3) else ((f_X9_inputOf p1 u3).bind fun u7 => lt u7 fun x9 => (f_X9_call p1 u3).bind fun u10 => (if 0 ≤ x9 then (some 0) else (some 1) : Option (Int32)).bind fun v12 => (f_X9_grow p1 (2 * p1) v12 u10).bind fun u15 => (if 0 ≤ x9 then (some 0) else (some 1) : Option (Int32)).bind fun v17 => (f_X9_grow p1 ((2 * p1) + 1) v17 u15).bind fun u20 => lt 0 fun x22 => (f_X9_step_L68 p1 x9 70 x22 u20).bind fun v30 => (if x9 < 0 then (some 0) else (some 1) : Option (Int32)).bind fun v32 => if inb p1 2 = true then (st v30.2 7 (ix p1) (vp_nar .boolean v32) fun K35 => (if x9 < 0 then ((f_X9_actPlain p1 K35).bind fun u39 => some u39) else (if inb x9 4 = true then ((f_X9_actGreater p1 (K35 27 (ix x9)) K35).bind fun u41 => some u41) else none) : Option (Mem)).bind fun v36 => (f_X9_watch p1 v36).bind fun u43 => some u43) else none)
abbrev rmX9_step : Room := { frames := 9, cells := 0, slots := 0, locals := 206 }
theorem hdX9_sense : yX9_sense.cls = RX9 ∧ yX9_sense.cls ≠ "java/lang/invoke/MethodHandle" ∧ yX9_sense.cls ≠ "java/lang/invoke/VarHandle" ∧ (parseMethodDescriptor yX9_sense.desc).map (fun d => d.parameters.length) = some 1 := by decide +kernel
theorem hdX9_link : yX9_link.cls = RX9 ∧ yX9_link.cls ≠ "java/lang/invoke/MethodHandle" ∧ yX9_link.cls ≠ "java/lang/invoke/VarHandle" ∧ (parseMethodDescriptor yX9_link.desc).map (fun d => d.parameters.length) = some 1 := by decide +kernel
theorem hdX9_runs : yX9_runs.cls = RX9 ∧ yX9_runs.cls ≠ "java/lang/invoke/MethodHandle" ∧ yX9_runs.cls ≠ "java/lang/invoke/VarHandle" ∧ (parseMethodDescriptor yX9_runs.desc).map (fun d => d.parameters.length) = some 1 := by decide +kernel
theorem hdX9_inputOf : yX9_inputOf.cls = RX9 ∧ yX9_inputOf.cls ≠ "java/lang/invoke/MethodHandle" ∧ yX9_inputOf.cls ≠ "java/lang/invoke/VarHandle" ∧ (parseMethodDescriptor yX9_inputOf.desc).map (fun d => d.parameters.length) = some 1 := by decide +kernel
theorem hdX9_call : yX9_call.cls = RX9 ∧ yX9_call.cls ≠ "java/lang/invoke/MethodHandle" ∧ yX9_call.cls ≠ "java/lang/invoke/VarHandle" ∧ (parseMethodDescriptor yX9_call.desc).map (fun d => d.parameters.length) = some 1 := by decide +kernel
theorem hdX9_grow : yX9_grow.cls = RX9 ∧ yX9_grow.cls ≠ "java/lang/invoke/MethodHandle" ∧ yX9_grow.cls ≠ "java/lang/invoke/VarHandle" ∧ (parseMethodDescriptor yX9_grow.desc).map (fun d => d.parameters.length) = some 3 := by decide +kernel
theorem iX9_step_X9 : ∀ w ∈ u_ws RX9 TX9 37, w ∈ wsX9_step := fun _ h => List.mem_cons_of_mem _ (List.mem_append_right _ h)
theorem mX9_step_f30 : Cond.fieldLink RX9 30 "BarrierLightsModel" "greater" "[Z" ∈ wsX9_step := by decide +kernel
theorem mX9_step_f33 : Cond.fieldLink RX9 33 "BarrierLightsModel" "used" "[Z" ∈ wsX9_step := by decide +kernel
theorem mX9_step_f36 : Cond.fieldLink RX9 36 "BarrierLightsModel" "calls" "[Z" ∈ wsX9_step := by decide +kernel
theorem hdX9_actPlain : yX9_actPlain.cls = RX9 ∧ yX9_actPlain.cls ≠ "java/lang/invoke/MethodHandle" ∧ yX9_actPlain.cls ≠ "java/lang/invoke/VarHandle" ∧ (parseMethodDescriptor yX9_actPlain.desc).map (fun d => d.parameters.length) = some 1 := by decide +kernel
theorem mX9_step_f91 : Cond.fieldLink RX9 91 "BarrierLightsModel" "targets" "[I" ∈ wsX9_step := by decide +kernel
theorem hdX9_actGreater : yX9_actGreater.cls = RX9 ∧ yX9_actGreater.cls ≠ "java/lang/invoke/MethodHandle" ∧ yX9_actGreater.cls ≠ "java/lang/invoke/VarHandle" ∧ (parseMethodDescriptor yX9_actGreater.desc).map (fun d => d.parameters.length) = some 2 := by decide +kernel
theorem hdX9_watch : yX9_watch.cls = RX9 ∧ yX9_watch.cls ≠ "java/lang/invoke/MethodHandle" ∧ yX9_watch.cls ≠ "java/lang/invoke/VarHandle" ∧ (parseMethodDescriptor yX9_watch.desc).map (fun d => d.parameters.length) = some 1 := by decide +kernel
set_option maxRecDepth 100000 in
set_option maxHeartbeats 4000000 in
theorem lp_X9_step_L68 {l : Launch} {D : va_G} {ad : Nat → Nat} {aI aZ aS aF : ClassId} {G : jG} {c1 : Int32} {c2 : Int32} (C : jC (EM l D ad aI aZ aS aF) G cX9_step yX9_step.cls wsX9_step rmX9_step 4) : ∀ (n : Nat) (y3 : Int32) (K : Mem) (v : Int32 × Mem), f_X9_step_L68 c1 c2 n y3 K = some v → jW (EM l D ad aI aZ aS aF) G v.2 128 [(0, .ref (ad 0)), (1, .int c1), (2, .int c2), (3, .int v.1)] [] → jW (EM l D ad aI aZ aS aF) G K 68 [(0, .ref (ad 0)), (1, .int c1), (2, .int c2), (3, .int y3)] [] := by
  intro n
  induction n with
  | zero =>
    intro y3 K v hf jj
    rw [f_X9_step_L68] at hf
    cases hf
  | succ n ih =>
    intro y3 K v hf jj
    rw [f_X9_step_L68] at hf
    refine j_iload_n C 3 dX9_step_68 rfl rfl ?_
    refine j_bipush C (v := 8) dX9_step_69 (by decide) ?_
    refine j_icmp_ge C 128 dX9_step_71 (by decide) hf (fun hf => ?_) (fun hf => ?_)
    · cases hf
      exact jj
    · refine j_aload_n C 0 dX9_step_74 rfl rfl ?_
      refine j_get C 8 iX9_step_X9 h_0 rfl (by decide) mX9_step_f30 rfl rfl dX9_step_75 ?_
      refine j_iload_n C 1 dX9_step_78 rfl rfl ?_
      refine j_zald C 1 h_7 rfl dX9_step_79 hf (fun hf => ?_)
      refine j_if_eq C 128 dX9_step_80 (by decide) hf (fun hf => ?_) (fun hf => ?_)
      · cases hf
        exact jj
      · refine j_iload_n C 2 dX9_step_83 rfl rfl ?_
        refine j_if_ge C 128 dX9_step_84 (by decide) hf (fun hf => ?_) (fun hf => ?_)
        · cases hf
          exact jj
        · refine j_aload_n C 0 dX9_step_87 rfl rfl ?_
          refine j_get C 9 iX9_step_X9 h_0 rfl (by decide) mX9_step_f33 rfl rfl dX9_step_88 ?_
          refine j_bipush C (v := 8) dX9_step_91 (by decide) ?_
          refine j_iload_n C 1 dX9_step_93 rfl rfl ?_
          refine j_imul C dX9_step_94 ?_
          refine j_iload_n C 3 dX9_step_95 rfl rfl ?_
          refine j_iadd C dX9_step_96 ?_
          refine j_zald C 1 h_8 rfl dX9_step_97 hf (fun hf => ?_)
          obtain ⟨v23, h24, hf⟩ := bd hf
          have jj25 : jW (EM l D ad aI aZ aS aF) G v23 122 [(0, .ref (ad 0)), (1, .int c1), (2, .int c2), (3, .int y3)] [] := by
            refine j_iinc C (v := (y3 + 1)) 3 (fun y => [(3, .int y), (0, .ref (ad 0)), (1, .int c1), (2, .int c2)]) dX9_step_122 rfl rfl (by decide) (fun _ => rfl) hf (fun x29 hf => ?_)
            refine j_goto C 68 dX9_step_125 (by decide) ?_
            refine j_sub [1, 2, 3, 0] rfl ?_
            exact ih _ _ _ hf jj
          clear hf
          have hf := h24
          clear h24
          refine j_if_eq C 122 dX9_step_98 (by decide) hf (fun hf => ?_) (fun hf => ?_)
          · cases hf
            exact jj25
          · refine j_aload_n C 0 dX9_step_101 rfl rfl ?_
            refine j_iload_n C 1 dX9_step_102 rfl rfl ?_
            refine j_iload_n C 3 dX9_step_103 rfl rfl ?_
            obtain ⟨u26, h27, hf⟩ := bd hf
            refine j_cVI C [.int c1, .int y3] gX9_step_X9_isGreen rfl hdX9_isGreen ⟨⟨rfl, rfl⟩, Nat.le_of_ble_eq_true rfl, Nat.le_of_ble_eq_true rfl⟩ rfl h_0 rfl (k_X9_isGreen h27) dX9_step_104 rfl (Nat.le_of_ble_eq_true rfl) ?_
            refine j_if_ne C 122 dX9_step_107 (by decide) hf (fun hf => ?_) (fun hf => ?_)
            · refine j_aload_n C 0 dX9_step_110 rfl rfl ?_
              refine j_get C 10 iX9_step_X9 h_0 rfl (by decide) mX9_step_f36 rfl rfl dX9_step_111 ?_
              refine j_bipush C (v := 8) dX9_step_114 (by decide) ?_
              refine j_iload_n C 1 dX9_step_116 rfl rfl ?_
              refine j_imul C dX9_step_117 ?_
              refine j_iload_n C 3 dX9_step_118 rfl rfl ?_
              refine j_iadd C dX9_step_119 ?_
              refine j_iconst C (v := 1) dX9_step_120 (by decide) ?_
              refine j_zast C 1 h_9 (t_9 _ _) rfl dX9_step_121 hf (fun K28 hf => ?_)
              cases hf
              exact jj25
            · cases hf
              exact jj25
set_option maxRecDepth 100000 in
set_option maxHeartbeats 4000000 in
theorem k_X9_step {l : Launch} {D : va_G} {ad : Nat → Nat} {aI aZ aS aF : ClassId} {p1 : Int32} {K : Mem} {u : Mem} (hf : f_X9_step p1 K = some u) : cV (EM l D ad aI aZ aS aF) yX9_step wsX9_step rmX9_step [.ref (ad 0), .int p1] K u := by
  rw [f_X9_step] at hf
  refine j_entV (cc := cX9_step) (maxL := 4) (EM_ok l D ad aI aZ aS aF) (by decide) rfl (Nat.le_of_ble_eq_true rfl) (fun G C ret => ?_)
  refine j_sub [0, 1] (lv2 := [(0, .ref (ad 0)), (1, .int p1)]) rfl ?_
  refine j_aload_n C 0 dX9_step_0 rfl rfl ?_
  refine j_iload_n C 1 dX9_step_1 rfl rfl ?_
  obtain ⟨u1, h2, hf⟩ := bd hf
  refine j_cVV C [.int p1] gX9_step_X9_sense rfl hdX9_sense ⟨⟨rfl, rfl⟩, Nat.le_of_ble_eq_true rfl, Nat.le_of_ble_eq_true rfl⟩ rfl h_0 rfl (k_X9_sense h2) dX9_step_2 rfl (Nat.le_of_ble_eq_true rfl) ?_
  refine j_aload_n C 0 dX9_step_5 rfl rfl ?_
  refine j_iload_n C 1 dX9_step_6 rfl rfl ?_
  obtain ⟨u3, h4, hf⟩ := bd hf
  refine j_cVV C [.int p1] gX9_step_X9_link rfl hdX9_link ⟨⟨rfl, rfl⟩, Nat.le_of_ble_eq_true rfl, Nat.le_of_ble_eq_true rfl⟩ rfl h_0 rfl (k_X9_link h4) dX9_step_7 rfl (Nat.le_of_ble_eq_true rfl) ?_
  refine j_aload_n C 0 dX9_step_10 rfl rfl ?_
  refine j_iload_n C 1 dX9_step_11 rfl rfl ?_
  obtain ⟨u5, h6, hf⟩ := bd hf
  refine j_cVI C [.int p1] gX9_step_X9_runs rfl hdX9_runs ⟨⟨rfl, rfl⟩, Nat.le_of_ble_eq_true rfl, Nat.le_of_ble_eq_true rfl⟩ rfl h_0 rfl (k_X9_runs h6) dX9_step_12 rfl (Nat.le_of_ble_eq_true rfl) ?_
  refine j_if_ne C 19 dX9_step_15 (by decide) hf (fun hf => ?_) (fun hf => ?_)
  · cases hf
    exact ret _ _ dX9_step_18
  · refine j_aload_n C 0 dX9_step_19 rfl rfl ?_
    refine j_iload_n C 1 dX9_step_20 rfl rfl ?_
    obtain ⟨u7, h8, hf⟩ := bd hf
    refine j_cVI C [.int p1] gX9_step_X9_inputOf rfl hdX9_inputOf ⟨⟨rfl, rfl⟩, Nat.le_of_ble_eq_true rfl, Nat.le_of_ble_eq_true rfl⟩ rfl h_0 rfl (k_X9_inputOf h8) dX9_step_21 rfl (Nat.le_of_ble_eq_true rfl) ?_
    refine j_istore_n C (fun y => [(2, .int y), (0, .ref (ad 0)), (1, .int p1)]) dX9_step_24 rfl (by decide) (fun _ => rfl) hf (fun x9 hf => ?_)
    refine j_aload_n C 1 dX9_step_25 rfl rfl ?_
    refine j_iload_n C 2 dX9_step_26 rfl rfl ?_
    obtain ⟨u10, h11, hf⟩ := bd hf
    refine j_cVV C [.int p1] gX9_step_X9_call rfl hdX9_call ⟨⟨rfl, rfl⟩, Nat.le_of_ble_eq_true rfl, Nat.le_of_ble_eq_true rfl⟩ rfl h_0 rfl (k_X9_call h11) dX9_step_27 rfl (Nat.le_of_ble_eq_true rfl) ?_
    refine j_aload_n C 1 dX9_step_30 rfl rfl ?_
    refine j_iload_n C 2 dX9_step_31 rfl rfl ?_
    refine j_iconst C (v := 2) dX9_step_32 (by decide) ?_
    refine j_iload_n C 2 dX9_step_33 rfl rfl ?_
    refine j_imul C dX9_step_34 ?_
    refine j_iload_n C 0 dX9_step_35 rfl rfl ?_
    obtain ⟨v12, h13, hf⟩ := bd hf
    have jj14 : jW (EM l D ad aI aZ aS aF) G u10 44 [(0, .ref (ad 0)), (1, .int p1), (2, .int x9)] [.int v12, .int ((2 * p1)), .int p1, .ref (ad 0)] := by
      obtain ⟨u15, h16, hf⟩ := bd hf
      refine j_cVV C [.int p1, .int ((2 * p1)), .int v12] gX9_step_X9_grow rfl hdX9_grow ⟨⟨rfl, rfl⟩, Nat.le_of_ble_eq_true rfl, Nat.le_of_ble_eq_true rfl⟩ rfl h_0 rfl (k_X9_grow h16) dX9_step_44 rfl (Nat.le_of_ble_eq_true rfl) ?_
      refine j_aload_n C 0 dX9_step_47 rfl rfl ?_
      refine j_iload_n C 1 dX9_step_48 rfl rfl ?_
      refine j_iconst C (v := 2) dX9_step_49 (by decide) ?_
      refine j_iload_n C 1 dX9_step_50 rfl rfl ?_
      refine j_imul C dX9_step_51 ?_
      refine j_iconst C (v := 1) dX9_step_52 (by decide) ?_
      refine j_iadd C dX9_step_53 ?_
      refine j_iload_n C 2 dX9_step_54 rfl rfl ?_
      obtain ⟨v17, h18, hf⟩ := bd hf
      have jj19 : jW (EM l D ad aI aZ aS aF) G u15 63 [(0, .ref (ad 0)), (1, .int p1), (2, .int x9)] [.int v17, .int (((2 * p1) + 1)), .int p1, .ref (ad 0)] := by
        obtain ⟨u20, h21, hf⟩ := bd hf
        refine j_cVV C [.int p1, .int (((2 * p1) + 1)), .int v17] gX9_step_X9_grow rfl hdX9_grow ⟨⟨rfl, rfl⟩, Nat.le_of_ble_eq_true rfl, Nat.le_of_ble_eq_true rfl⟩ rfl h_0 rfl (k_X9_grow h21) dX9_step_63 rfl (Nat.le_of_ble_eq_true rfl) ?_
        refine j_iconst C (v := 0) dX9_step_66 (by decide) ?_
        refine j_istore_n C (fun y => [(3, .int y), (0, .ref (ad 0)), (1, .int p1), (2, .int x9)]) dX9_step_67 rfl (by decide) (fun _ => rfl) hf (fun x22 hf => ?_)
        obtain ⟨v30, h31, hf⟩ := bd hf
        refine j_sub [1, 2, 3, 0] (lv2 := [(0, .ref (ad 0)), (1, .int p1), (2, .int x9), (3, .int x22)]) rfl ?_
        refine lp_X9_step_L68 C 70 _ _ _ h31 ?_
        refine j_aload_n C 0 dX9_step_128 rfl rfl ?_
        refine j_get C 8 iX9_step_X9 h_0 rfl (by decide) mX9_step_f30 rfl rfl dX9_step_129 ?_
        refine j_iload_n C 1 dX9_step_132 rfl rfl ?_
        refine j_iload_n C 2 dX9_step_133 rfl rfl ?_
        obtain ⟨v32, h33, hf⟩ := bd hf
        have jj34 : jW (EM l D ad aI aZ aS aF) G v30.2 142 [(0, .ref (ad 0)), (1, .int p1), (2, .int x9), (3, .int v30.1)] [.int v32, .int p1, .ref (ad 7)] := by
          refine j_zast C 1 h_7 (t_7 _ _) rfl dX9_step_142 hf (fun K35 hf => ?_)
          refine j_iload_n C 2 dX9_step_143 rfl rfl ?_
          obtain ⟨v36, h37, hf⟩ := bd hf
          have jj38 : jW (EM l D ad aI aZ aS aF) G v36 166 [(0, .ref (ad 0)), (1, .int p1), (2, .int x9), (3, .int v30.1)] [] := by
            refine j_aload_n C 0 dX9_step_166 rfl rfl ?_
            refine j_iload_n C 1 dX9_step_167 rfl rfl ?_
            obtain ⟨u43, h44, hf⟩ := bd hf
            refine j_cVV C [.int p1] gX9_step_X9_watch rfl hdX9_watch ⟨⟨rfl, rfl⟩, Nat.le_of_ble_eq_true rfl, Nat.le_of_ble_eq_true rfl⟩ rfl h_0 rfl (k_X9_watch h44) dX9_step_168 rfl (Nat.le_of_ble_eq_true rfl) ?_
            cases hf
            exact ret _ _ dX9_step_171
          clear hf
          have hf := h37
          clear h37
          refine j_if_lt C 161 dX9_step_144 (by decide) hf (fun hf => ?_) (fun hf => ?_)
          · refine j_aload_n C 0 dX9_step_161 rfl rfl ?_
            refine j_iload_n C 1 dX9_step_162 rfl rfl ?_
            obtain ⟨u39, h40, hf⟩ := bd hf
            refine j_cVV C [.int p1] gX9_step_X9_actPlain rfl hdX9_actPlain ⟨⟨rfl, rfl⟩, Nat.le_of_ble_eq_true rfl, Nat.le_of_ble_eq_true rfl⟩ rfl h_0 rfl (k_X9_actPlain h40) dX9_step_163 rfl (Nat.le_of_ble_eq_true rfl) ?_
            cases hf
            exact jj38
          · refine j_aload_n C 0 dX9_step_147 rfl rfl ?_
            refine j_iload_n C 1 dX9_step_148 rfl rfl ?_
            refine j_aload_n C 0 dX9_step_149 rfl rfl ?_
            refine j_get C 28 iX9_step_X9 h_0 rfl (by decide) mX9_step_f91 rfl rfl dX9_step_150 ?_
            refine j_iload_n C 2 dX9_step_153 rfl rfl ?_
            refine j_iald C 0 h_27 rfl dX9_step_154 hf (fun hf => ?_)
            obtain ⟨u41, h42, hf⟩ := bd hf
            refine j_cVV C [.int p1, .int ((K35 27 (ix x9)))] gX9_step_X9_actGreater rfl hdX9_actGreater ⟨⟨rfl, rfl⟩, Nat.le_of_ble_eq_true rfl, Nat.le_of_ble_eq_true rfl⟩ rfl h_0 rfl (k_X9_actGreater h42) dX9_step_155 rfl (Nat.le_of_ble_eq_true rfl) ?_
            refine j_goto C 166 dX9_step_158 (by decide) ?_
            cases hf
            exact jj38
        clear hf
        have hf := h33
        clear h33
        refine j_if_lt C 141 dX9_step_134 (by decide) hf (fun hf => ?_) (fun hf => ?_)
        · refine j_iconst C (v := 0) dX9_step_141 (by decide) ?_
          cases hf
          exact jj34
        · refine j_iconst C (v := 1) dX9_step_137 (by decide) ?_
          refine j_goto C 142 dX9_step_138 (by decide) ?_
          cases hf
          exact jj34
      clear hf
      have hf := h18
      clear h18
      refine j_if_ge C 62 dX9_step_55 (by decide) hf (fun hf => ?_) (fun hf => ?_)
      · refine j_iconst C (v := 0) dX9_step_62 (by decide) ?_
        cases hf
        exact jj19
      · refine j_iconst C (v := 1) dX9_step_58 (by decide) ?_
        refine j_goto C 63 dX9_step_59 (by decide) ?_
        cases hf
        exact jj19
    clear hf
    have hf := h13
    clear h13
    refine j_if_ge C 43 dX9_step_36 (by decide) hf (fun hf => ?_) (fun hf => ?_)
    · refine j_iconst C (v := 0) dX9_step_43 (by decide) ?_
      cases hf
      refine j_sub [1, 2, 0] rfl ?_
      exact jj14
    · refine j_iconst C (v := 1) dX9_step_39 (by decide) ?_
      refine j_goto C 44 dX9_step_40 (by decide) ?_
      cases hf
      refine j_sub [1, 2, 0] rfl ?_
      exact jj14
/-- BarrierLightsModel.place(I)I -/
def f_X9_place (p1 : Int32) (K : Mem) : Option (Int32 × Mem) := st K 0 0 0 fun K1 => (f_X9_isCrossing p1 K1).bind fun u2 => if u2 = 0 then (some ((-1), K1)) else (if inb p1 2 = true then (some ((K1 3 (ix p1)), K1)) else none)
abbrev rmX9_place : Room := { frames := 1, cells := 0, slots := 0, locals := 20 }
theorem iX9_place_X9 : ∀ w ∈ u_ws RX9 TX9 37, w ∈ wsX9_place := fun _ h => List.mem_cons_of_mem _ (List.mem_append_right _ h)
theorem mX9_place_f118 : Cond.fieldLink RX9 118 "BarrierLightsModel" "code" "I" ∈ wsX9_place := by decide +kernel
theorem mX9_place_f16 : Cond.fieldLink RX9 16 "BarrierLightsModel" "wrong" "[I" ∈ wsX9_place := by decide +kernel
set_option maxRecDepth 100000 in
set_option maxHeartbeats 4000000 in
theorem k_X9_place {l : Launch} {D : va_G} {ad : Nat → Nat} {aI aZ aS aF : ClassId} {p1 : Int32} {K : Mem} {u : Int32 × Mem} (hf : f_X9_place p1 K = some u) : cI (EM l D ad aI aZ aS aF) yX9_place wsX9_place rmX9_place [.ref (ad 0), .int p1] K u.1 u.2 := by
  rw [f_X9_place] at hf
  refine j_entI (cc := cX9_place) (maxL := 2) (EM_ok l D ad aI aZ aS aF) (Or.inl rfl) (by decide) rfl (Nat.le_of_ble_eq_true rfl) (fun G C ret => ?_)
  refine j_sub [0, 1] (lv2 := [(0, .ref (ad 0)), (1, .int p1)]) rfl ?_
  refine j_aload_n C 0 dX9_place_0 rfl rfl ?_
  refine j_iconst C (v := 0) dX9_place_1 (by decide) ?_
  refine j_put C (ty := .int) 0 iX9_place_X9 tyX9 tyX9_ok nmX9 h_0 (t_0_0 _) rfl (by decide) mX9_place_f118 rfl rfl (by decide +kernel) rfl rfl (Nat.le_of_ble_eq_true rfl) dX9_place_2 hf (fun K1 hf => ?_)
  refine j_iload_n C 1 dX9_place_5 rfl rfl ?_
  obtain ⟨u2, h3, hf⟩ := bd hf
  refine j_cSI C [.int p1] gX9_place_X9_isCrossing rfl hdX9_isCrossing.2 ⟨⟨rfl, rfl⟩, Nat.le_of_ble_eq_true rfl, Nat.le_of_ble_eq_true rfl⟩ rfl (k_X9_isCrossing h3) dX9_place_6 rfl (Nat.le_of_ble_eq_true rfl) ?_
  refine j_if_eq C 21 dX9_place_9 (by decide) hf (fun hf => ?_) (fun hf => ?_)
  · refine j_iconst C (v := (-1)) dX9_place_21 (by decide) ?_
    cases hf
    exact ret _ _ dX9_place_22 (fun h => by cases h)
  · refine j_aload_n C 0 dX9_place_12 rfl rfl ?_
    refine j_get C 4 iX9_place_X9 h_0 rfl (by decide) mX9_place_f16 rfl rfl dX9_place_13 ?_
    refine j_iload_n C 1 dX9_place_16 rfl rfl ?_
    refine j_iald C 0 h_3 rfl dX9_place_17 hf (fun hf => ?_)
    refine j_goto C 22 dX9_place_18 (by decide) ?_
    cases hf
    exact ret _ _ dX9_place_22 (fun h => by cases h)
/-- BarrierLightsModel.detect(IIZ)Z -/
def f_X9_detect (p1 : Int32) (p2 : Int32) (p3 : Int32) (K : Mem) : Option (Int32 × Mem) := st K 0 0 0 fun K1 => (f_X9_isPhase p1 p2 K1).bind fun u2 => if u2 = 0 then (some (0, K1)) else (if inb ((8 * p1) + p2) 16 = true then (st K1 11 (ix ((8 * p1) + p2)) (vp_nar .boolean p3) fun K4 => some (1, K4)) else none)
abbrev rmX9_detect : Room := { frames := 2, cells := 0, slots := 0, locals := 41 }
theorem iX9_detect_X9 : ∀ w ∈ u_ws RX9 TX9 37, w ∈ wsX9_detect := fun _ h => List.mem_cons_of_mem _ (List.mem_append_right _ h)
theorem mX9_detect_f118 : Cond.fieldLink RX9 118 "BarrierLightsModel" "code" "I" ∈ wsX9_detect := by decide +kernel
theorem mX9_detect_f42 : Cond.fieldLink RX9 42 "BarrierLightsModel" "on" "[Z" ∈ wsX9_detect := by decide +kernel
set_option maxRecDepth 100000 in
set_option maxHeartbeats 4000000 in
theorem k_X9_detect {l : Launch} {D : va_G} {ad : Nat → Nat} {aI aZ aS aF : ClassId} {p1 : Int32} {p2 : Int32} {p3 : Int32} {K : Mem} {u : Int32 × Mem} (hf : f_X9_detect p1 p2 p3 K = some u) : cI (EM l D ad aI aZ aS aF) yX9_detect wsX9_detect rmX9_detect [.ref (ad 0), .int p1, .int p2, .int p3] K u.1 u.2 := by
  rw [f_X9_detect] at hf
  refine j_entI (cc := cX9_detect) (maxL := 4) (EM_ok l D ad aI aZ aS aF) (Or.inr rfl) (by decide) rfl (Nat.le_of_ble_eq_true rfl) (fun G C ret => ?_)
  refine j_sub [0, 1, 2, 3] (lv2 := [(0, .ref (ad 0)), (1, .int p1), (2, .int p2), (3, .int p3)]) rfl ?_
  refine j_aload_n C 0 dX9_detect_0 rfl rfl ?_
  refine j_iconst C (v := 0) dX9_detect_1 (by decide) ?_
  refine j_put C (ty := .int) 0 iX9_detect_X9 tyX9 tyX9_ok nmX9 h_0 (t_0_0 _) rfl (by decide) mX9_detect_f118 rfl rfl (by decide +kernel) rfl rfl (Nat.le_of_ble_eq_true rfl) dX9_detect_2 hf (fun K1 hf => ?_)
  refine j_iload_n C 1 dX9_detect_5 rfl rfl ?_
  refine j_iload_n C 2 dX9_detect_6 rfl rfl ?_
  obtain ⟨u2, h3, hf⟩ := bd hf
  refine j_cSI C [.int p1, .int p2] gX9_detect_X9_isPhase rfl hdX9_isPhase.2 ⟨⟨rfl, rfl⟩, Nat.le_of_ble_eq_true rfl, Nat.le_of_ble_eq_true rfl⟩ rfl (k_X9_isPhase h3) dX9_detect_7 rfl (Nat.le_of_ble_eq_true rfl) ?_
  refine j_if_ne C 15 dX9_detect_10 (by decide) hf (fun hf => ?_) (fun hf => ?_)
  · refine j_iconst C (v := 0) dX9_detect_13 (by decide) ?_
    cases hf
    exact ret _ _ dX9_detect_14 (fun _ => rfl)
  · refine j_aload_n C 0 dX9_detect_15 rfl rfl ?_
    refine j_get C 12 iX9_detect_X9 h_0 rfl (by decide) mX9_detect_f42 rfl rfl dX9_detect_16 ?_
    refine j_bipush C (v := 8) dX9_detect_19 (by decide) ?_
    refine j_iload_n C 1 dX9_detect_21 rfl rfl ?_
    refine j_imul C dX9_detect_22 ?_
    refine j_iload_n C 2 dX9_detect_23 rfl rfl ?_
    refine j_iadd C dX9_detect_24 ?_
    refine j_iload_n C 3 dX9_detect_25 rfl rfl ?_
    refine j_zast C 1 h_11 (t_11 _ _) rfl dX9_detect_26 hf (fun K4 hf => ?_)
    refine j_iconst C (v := 1) dX9_detect_27 (by decide) ?_
    cases hf
    exact ret _ _ dX9_detect_28 (fun _ => rfl)
/-- BarrierLightsModel.press(II)Z -/
def f_X9_press (p1 : Int32) (p2 : Int32) (K : Mem) : Option (Int32 × Mem) := st K 0 0 0 fun K1 => (f_X9_isPhase p1 p2 K1).bind fun u2 => if u2 = 0 then (some (0, K1)) else ((f_X9_runs p1 K1).bind fun u4 => if u4 = 0 then (some (0, K1)) else (if inb ((8 * p1) + p2) 16 = true then (if (K1 8 (ix ((8 * p1) + p2))) = 0 then (some (0, K1)) else ((f_X9_entry p1 p2 5 K1).bind fun u6 => if u6 = 0 then (some (0, K1)) else (if inb ((8 * p1) + p2) 16 = true then (st K1 10 (ix ((8 * p1) + p2)) (vp_nar .boolean 1) fun K8 => some (1, K8)) else none))) else none))
abbrev rmX9_press : Room := { frames := 2, cells := 0, slots := 0, locals := 41 }
theorem iX9_press_X9 : ∀ w ∈ u_ws RX9 TX9 37, w ∈ wsX9_press := fun _ h => List.mem_cons_of_mem _ (List.mem_append_right _ h)
theorem mX9_press_f118 : Cond.fieldLink RX9 118 "BarrierLightsModel" "code" "I" ∈ wsX9_press := by decide +kernel
theorem mX9_press_f33 : Cond.fieldLink RX9 33 "BarrierLightsModel" "used" "[Z" ∈ wsX9_press := by decide +kernel
theorem mX9_press_f39 : Cond.fieldLink RX9 39 "BarrierLightsModel" "walkCalls" "[Z" ∈ wsX9_press := by decide +kernel
set_option maxRecDepth 100000 in
set_option maxHeartbeats 4000000 in
theorem k_X9_press {l : Launch} {D : va_G} {ad : Nat → Nat} {aI aZ aS aF : ClassId} {p1 : Int32} {p2 : Int32} {K : Mem} {u : Int32 × Mem} (hf : f_X9_press p1 p2 K = some u) : cI (EM l D ad aI aZ aS aF) yX9_press wsX9_press rmX9_press [.ref (ad 0), .int p1, .int p2] K u.1 u.2 := by
  rw [f_X9_press] at hf
  refine j_entI (cc := cX9_press) (maxL := 3) (EM_ok l D ad aI aZ aS aF) (Or.inr rfl) (by decide) rfl (Nat.le_of_ble_eq_true rfl) (fun G C ret => ?_)
  refine j_sub [0, 1, 2] (lv2 := [(0, .ref (ad 0)), (1, .int p1), (2, .int p2)]) rfl ?_
  refine j_aload_n C 0 dX9_press_0 rfl rfl ?_
  refine j_iconst C (v := 0) dX9_press_1 (by decide) ?_
  refine j_put C (ty := .int) 0 iX9_press_X9 tyX9 tyX9_ok nmX9 h_0 (t_0_0 _) rfl (by decide) mX9_press_f118 rfl rfl (by decide +kernel) rfl rfl (Nat.le_of_ble_eq_true rfl) dX9_press_2 hf (fun K1 hf => ?_)
  refine j_iload_n C 1 dX9_press_5 rfl rfl ?_
  refine j_iload_n C 2 dX9_press_6 rfl rfl ?_
  obtain ⟨u2, h3, hf⟩ := bd hf
  refine j_cSI C [.int p1, .int p2] gX9_press_X9_isPhase rfl hdX9_isPhase.2 ⟨⟨rfl, rfl⟩, Nat.le_of_ble_eq_true rfl, Nat.le_of_ble_eq_true rfl⟩ rfl (k_X9_isPhase h3) dX9_press_7 rfl (Nat.le_of_ble_eq_true rfl) ?_
  refine j_if_eq C 45 dX9_press_10 (by decide) hf (fun hf => ?_) (fun hf => ?_)
  · refine j_iconst C (v := 0) dX9_press_45 (by decide) ?_
    cases hf
    exact ret _ _ dX9_press_46 (fun _ => rfl)
  · refine j_aload_n C 0 dX9_press_13 rfl rfl ?_
    refine j_iload_n C 1 dX9_press_14 rfl rfl ?_
    obtain ⟨u4, h5, hf⟩ := bd hf
    refine j_cVI C [.int p1] gX9_press_X9_runs rfl hdX9_runs ⟨⟨rfl, rfl⟩, Nat.le_of_ble_eq_true rfl, Nat.le_of_ble_eq_true rfl⟩ rfl h_0 rfl (k_X9_runs h5) dX9_press_15 rfl (Nat.le_of_ble_eq_true rfl) ?_
    refine j_if_eq C 45 dX9_press_18 (by decide) hf (fun hf => ?_) (fun hf => ?_)
    · refine j_iconst C (v := 0) dX9_press_45 (by decide) ?_
      cases hf
      exact ret _ _ dX9_press_46 (fun _ => rfl)
    · refine j_aload_n C 0 dX9_press_21 rfl rfl ?_
      refine j_get C 9 iX9_press_X9 h_0 rfl (by decide) mX9_press_f33 rfl rfl dX9_press_22 ?_
      refine j_bipush C (v := 8) dX9_press_25 (by decide) ?_
      refine j_iload_n C 1 dX9_press_27 rfl rfl ?_
      refine j_imul C dX9_press_28 ?_
      refine j_iload_n C 2 dX9_press_29 rfl rfl ?_
      refine j_iadd C dX9_press_30 ?_
      refine j_zald C 1 h_8 rfl dX9_press_31 hf (fun hf => ?_)
      refine j_if_eq C 45 dX9_press_32 (by decide) hf (fun hf => ?_) (fun hf => ?_)
      · refine j_iconst C (v := 0) dX9_press_45 (by decide) ?_
        cases hf
        exact ret _ _ dX9_press_46 (fun _ => rfl)
      · refine j_aload_n C 0 dX9_press_35 rfl rfl ?_
        refine j_iload_n C 1 dX9_press_36 rfl rfl ?_
        refine j_iload_n C 2 dX9_press_37 rfl rfl ?_
        refine j_iconst C (v := 5) dX9_press_38 (by decide) ?_
        obtain ⟨u6, h7, hf⟩ := bd hf
        refine j_cVI C [.int p1, .int p2, .int 5] gX9_press_X9_entry rfl hdX9_entry ⟨⟨rfl, rfl⟩, Nat.le_of_ble_eq_true rfl, Nat.le_of_ble_eq_true rfl⟩ rfl h_0 rfl (k_X9_entry h7) dX9_press_39 rfl (Nat.le_of_ble_eq_true rfl) ?_
        refine j_if_ne C 47 dX9_press_42 (by decide) hf (fun hf => ?_) (fun hf => ?_)
        · refine j_iconst C (v := 0) dX9_press_45 (by decide) ?_
          cases hf
          exact ret _ _ dX9_press_46 (fun _ => rfl)
        · refine j_aload_n C 0 dX9_press_47 rfl rfl ?_
          refine j_get C 11 iX9_press_X9 h_0 rfl (by decide) mX9_press_f39 rfl rfl dX9_press_48 ?_
          refine j_bipush C (v := 8) dX9_press_51 (by decide) ?_
          refine j_iload_n C 1 dX9_press_53 rfl rfl ?_
          refine j_imul C dX9_press_54 ?_
          refine j_iload_n C 2 dX9_press_55 rfl rfl ?_
          refine j_iadd C dX9_press_56 ?_
          refine j_iconst C (v := 1) dX9_press_57 (by decide) ?_
          refine j_zast C 1 h_10 (t_10 _ _) rfl dX9_press_58 hf (fun K8 hf => ?_)
          refine j_iconst C (v := 1) dX9_press_59 (by decide) ?_
          cases hf
          exact ret _ _ dX9_press_60 (fun _ => rfl)
/-- BarrierLightsModel.target(III)Z -/
def f_X9_target (p1 : Int32) (p2 : Int32) (p3 : Int32) (K : Mem) : Option (Int32 × Mem) := st K 0 0 0 fun K1 => (f_X9_isPhase p1 p3 K1).bind fun u2 => if u2 = 0 then (some (0, K1)) else (if p2 < 0 then (some (0, K1)) else (if p2 ≤ 1 then (if inb ((2 * p1) + p2) 4 = true then (st K1 27 (ix ((2 * p1) + p2)) p3 fun K4 => some (1, K4)) else none) else (some (0, K1))))
abbrev rmX9_target : Room := { frames := 2, cells := 0, slots := 0, locals := 41 }
theorem iX9_target_X9 : ∀ w ∈ u_ws RX9 TX9 37, w ∈ wsX9_target := fun _ h => List.mem_cons_of_mem _ (List.mem_append_right _ h)
theorem mX9_target_f118 : Cond.fieldLink RX9 118 "BarrierLightsModel" "code" "I" ∈ wsX9_target := by decide +kernel
theorem mX9_target_f91 : Cond.fieldLink RX9 91 "BarrierLightsModel" "targets" "[I" ∈ wsX9_target := by decide +kernel
set_option maxRecDepth 100000 in
set_option maxHeartbeats 4000000 in
theorem k_X9_target {l : Launch} {D : va_G} {ad : Nat → Nat} {aI aZ aS aF : ClassId} {p1 : Int32} {p2 : Int32} {p3 : Int32} {K : Mem} {u : Int32 × Mem} (hf : f_X9_target p1 p2 p3 K = some u) : cI (EM l D ad aI aZ aS aF) yX9_target wsX9_target rmX9_target [.ref (ad 0), .int p1, .int p2, .int p3] K u.1 u.2 := by
  rw [f_X9_target] at hf
  refine j_entI (cc := cX9_target) (maxL := 4) (EM_ok l D ad aI aZ aS aF) (Or.inr rfl) (by decide) rfl (Nat.le_of_ble_eq_true rfl) (fun G C ret => ?_)
  refine j_sub [0, 1, 2, 3] (lv2 := [(0, .ref (ad 0)), (1, .int p1), (2, .int p2), (3, .int p3)]) rfl ?_
  refine j_aload_n C 0 dX9_target_0 rfl rfl ?_
  refine j_iconst C (v := 0) dX9_target_1 (by decide) ?_
  refine j_put C (ty := .int) 0 iX9_target_X9 tyX9 tyX9_ok nmX9 h_0 (t_0_0 _) rfl (by decide) mX9_target_f118 rfl rfl (by decide +kernel) rfl rfl (Nat.le_of_ble_eq_true rfl) dX9_target_2 hf (fun K1 hf => ?_)
  refine j_iload_n C 1 dX9_target_5 rfl rfl ?_
  refine j_iload_n C 3 dX9_target_6 rfl rfl ?_
  obtain ⟨u2, h3, hf⟩ := bd hf
  refine j_cSI C [.int p1, .int p3] gX9_target_X9_isPhase rfl hdX9_isPhase.2 ⟨⟨rfl, rfl⟩, Nat.le_of_ble_eq_true rfl, Nat.le_of_ble_eq_true rfl⟩ rfl (k_X9_isPhase h3) dX9_target_7 rfl (Nat.le_of_ble_eq_true rfl) ?_
  refine j_if_eq C 22 dX9_target_10 (by decide) hf (fun hf => ?_) (fun hf => ?_)
  · refine j_iconst C (v := 0) dX9_target_22 (by decide) ?_
    cases hf
    exact ret _ _ dX9_target_23 (fun _ => rfl)
  · refine j_iload_n C 2 dX9_target_13 rfl rfl ?_
    refine j_if_lt C 22 dX9_target_14 (by decide) hf (fun hf => ?_) (fun hf => ?_)
    · refine j_iconst C (v := 0) dX9_target_22 (by decide) ?_
      cases hf
      exact ret _ _ dX9_target_23 (fun _ => rfl)
    · refine j_iload_n C 2 dX9_target_17 rfl rfl ?_
      refine j_iconst C (v := 1) dX9_target_18 (by decide) ?_
      refine j_icmp_le C 24 dX9_target_19 (by decide) hf (fun hf => ?_) (fun hf => ?_)
      · refine j_aload_n C 0 dX9_target_24 rfl rfl ?_
        refine j_get C 28 iX9_target_X9 h_0 rfl (by decide) mX9_target_f91 rfl rfl dX9_target_25 ?_
        refine j_iconst C (v := 2) dX9_target_28 (by decide) ?_
        refine j_iload_n C 1 dX9_target_29 rfl rfl ?_
        refine j_imul C dX9_target_30 ?_
        refine j_iload_n C 2 dX9_target_31 rfl rfl ?_
        refine j_iadd C dX9_target_32 ?_
        refine j_iload_n C 3 dX9_target_33 rfl rfl ?_
        refine j_iast C 0 h_27 (t_27 _ _) rfl dX9_target_34 hf (fun K4 hf => ?_)
        refine j_iconst C (v := 1) dX9_target_35 (by decide) ?_
        cases hf
        exact ret _ _ dX9_target_36 (fun _ => rfl)
      · refine j_iconst C (v := 0) dX9_target_22 (by decide) ?_
        cases hf
        exact ret _ _ dX9_target_23 (fun _ => rfl)
/-- BarrierLightsModel.preempt(IIZ)Z -/
def f_X9_preempt (p1 : Int32) (p2 : Int32) (p3 : Int32) (K : Mem) : Option (Int32 × Mem) := st K 0 0 0 fun K1 => (f_X9_isCrossing p1 K1).bind fun u2 => if u2 = 0 then (some (0, K1)) else (if p2 < 0 then (some (0, K1)) else (if p2 ≤ 1 then (if inb ((2 * p1) + p2) 4 = true then (st K1 28 (ix ((2 * p1) + p2)) (vp_nar .boolean p3) fun K4 => some (1, K4)) else none) else (some (0, K1))))
abbrev rmX9_preempt : Room := { frames := 1, cells := 0, slots := 0, locals := 20 }
theorem iX9_preempt_X9 : ∀ w ∈ u_ws RX9 TX9 37, w ∈ wsX9_preempt := fun _ h => List.mem_cons_of_mem _ (List.mem_append_right _ h)
theorem mX9_preempt_f118 : Cond.fieldLink RX9 118 "BarrierLightsModel" "code" "I" ∈ wsX9_preempt := by decide +kernel
theorem mX9_preempt_f94 : Cond.fieldLink RX9 94 "BarrierLightsModel" "inputs" "[Z" ∈ wsX9_preempt := by decide +kernel
set_option maxRecDepth 100000 in
set_option maxHeartbeats 4000000 in
theorem k_X9_preempt {l : Launch} {D : va_G} {ad : Nat → Nat} {aI aZ aS aF : ClassId} {p1 : Int32} {p2 : Int32} {p3 : Int32} {K : Mem} {u : Int32 × Mem} (hf : f_X9_preempt p1 p2 p3 K = some u) : cI (EM l D ad aI aZ aS aF) yX9_preempt wsX9_preempt rmX9_preempt [.ref (ad 0), .int p1, .int p2, .int p3] K u.1 u.2 := by
  rw [f_X9_preempt] at hf
  refine j_entI (cc := cX9_preempt) (maxL := 4) (EM_ok l D ad aI aZ aS aF) (Or.inr rfl) (by decide) rfl (Nat.le_of_ble_eq_true rfl) (fun G C ret => ?_)
  refine j_sub [0, 1, 2, 3] (lv2 := [(0, .ref (ad 0)), (1, .int p1), (2, .int p2), (3, .int p3)]) rfl ?_
  refine j_aload_n C 0 dX9_preempt_0 rfl rfl ?_
  refine j_iconst C (v := 0) dX9_preempt_1 (by decide) ?_
  refine j_put C (ty := .int) 0 iX9_preempt_X9 tyX9 tyX9_ok nmX9 h_0 (t_0_0 _) rfl (by decide) mX9_preempt_f118 rfl rfl (by decide +kernel) rfl rfl (Nat.le_of_ble_eq_true rfl) dX9_preempt_2 hf (fun K1 hf => ?_)
  refine j_iload_n C 1 dX9_preempt_5 rfl rfl ?_
  obtain ⟨u2, h3, hf⟩ := bd hf
  refine j_cSI C [.int p1] gX9_preempt_X9_isCrossing rfl hdX9_isCrossing.2 ⟨⟨rfl, rfl⟩, Nat.le_of_ble_eq_true rfl, Nat.le_of_ble_eq_true rfl⟩ rfl (k_X9_isCrossing h3) dX9_preempt_6 rfl (Nat.le_of_ble_eq_true rfl) ?_
  refine j_if_eq C 21 dX9_preempt_9 (by decide) hf (fun hf => ?_) (fun hf => ?_)
  · refine j_iconst C (v := 0) dX9_preempt_21 (by decide) ?_
    cases hf
    exact ret _ _ dX9_preempt_22 (fun _ => rfl)
  · refine j_iload_n C 2 dX9_preempt_12 rfl rfl ?_
    refine j_if_lt C 21 dX9_preempt_13 (by decide) hf (fun hf => ?_) (fun hf => ?_)
    · refine j_iconst C (v := 0) dX9_preempt_21 (by decide) ?_
      cases hf
      exact ret _ _ dX9_preempt_22 (fun _ => rfl)
    · refine j_iload_n C 2 dX9_preempt_16 rfl rfl ?_
      refine j_iconst C (v := 1) dX9_preempt_17 (by decide) ?_
      refine j_icmp_le C 23 dX9_preempt_18 (by decide) hf (fun hf => ?_) (fun hf => ?_)
      · refine j_aload_n C 0 dX9_preempt_23 rfl rfl ?_
        refine j_get C 29 iX9_preempt_X9 h_0 rfl (by decide) mX9_preempt_f94 rfl rfl dX9_preempt_24 ?_
        refine j_iconst C (v := 2) dX9_preempt_27 (by decide) ?_
        refine j_iload_n C 1 dX9_preempt_28 rfl rfl ?_
        refine j_imul C dX9_preempt_29 ?_
        refine j_iload_n C 2 dX9_preempt_30 rfl rfl ?_
        refine j_iadd C dX9_preempt_31 ?_
        refine j_iload_n C 3 dX9_preempt_32 rfl rfl ?_
        refine j_zast C 1 h_28 (t_28 _ _) rfl dX9_preempt_33 hf (fun K4 hf => ?_)
        refine j_iconst C (v := 1) dX9_preempt_34 (by decide) ?_
        cases hf
        exact ret _ _ dX9_preempt_35 (fun _ => rfl)
      · refine j_iconst C (v := 0) dX9_preempt_21 (by decide) ?_
        cases hf
        exact ret _ _ dX9_preempt_22 (fun _ => rfl)
/-- BarrierLightsModel.plan(IIII)Z -/
def f_X9_plan_L74 (c1 : Int32) (c2 : Int32) (c3 : Int32) (c4 : Int32) : Nat → Int32 → Mem → Option (Int32 × Mem)
  | 0, _, _ => none
  | n + 1, y5, K => if 2 ≤ y5 then (some (y5, K)) else (if inb y5 2 = true then ((if (K 32 (ix y5)) = c1 then (if inb y5 2 = true then (if c2 = 0 then none else (if inb y5 2 = true then (st K 35 (ix y5) (jrem (K 35 (ix y5)) c2) fun K9 => some K9) else none)) else none) else (some K) : Option (Mem)).bind fun v6 => lt (y5 + 1) fun x10 => f_X9_plan_L74 c1 c2 c3 c4 n x10 v6) else none)
def f_X9_plan (p1 : Int32) (p2 : Int32) (p3 : Int32) (p4 : Int32) (K : Mem) : Option (Int32 × Mem) := st K 0 0 0 fun K1 => if p1 < 0 then (some (0, K1)) else (if 3 < p1 then (some (0, K1)) else (if p2 < 20 then (some (0, K1)) else (if 120 < p2 then (some (0, K1)) else (if p3 < 0 then (some (0, K1)) else (if p2 ≤ p3 then (some (0, K1)) else (if p4 < 1 then (some (0, K1)) else (if p4 < p2 then (if inb p1 4 = true then (st K1 29 (ix p1) p2 fun K2 => if inb p1 4 = true then (st K2 30 (ix p1) p3 fun K3 => if inb p1 4 = true then (st K3 31 (ix p1) p4 fun K4 => lt 0 fun x5 => (f_X9_plan_L74 p1 p2 p3 p4 70 x5 K4).bind fun v11 => some (1, v11.2)) else none) else none) else none) else (some (0, K1)))))))))
abbrev rmX9_plan : Room := { frames := 0, cells := 0, slots := 0, locals := 0 }
theorem iX9_plan_X9 : ∀ w ∈ u_ws RX9 TX9 37, w ∈ wsX9_plan := fun _ h => List.mem_cons_of_mem _ (List.mem_append_right _ h)
theorem mX9_plan_f118 : Cond.fieldLink RX9 118 "BarrierLightsModel" "code" "I" ∈ wsX9_plan := by decide +kernel
theorem mX9_plan_f97 : Cond.fieldLink RX9 97 "BarrierLightsModel" "cycle" "[I" ∈ wsX9_plan := by decide +kernel
theorem mX9_plan_f100 : Cond.fieldLink RX9 100 "BarrierLightsModel" "offset" "[I" ∈ wsX9_plan := by decide +kernel
theorem mX9_plan_f103 : Cond.fieldLink RX9 103 "BarrierLightsModel" "split" "[I" ∈ wsX9_plan := by decide +kernel
theorem mX9_plan_f106 : Cond.fieldLink RX9 106 "BarrierLightsModel" "plan" "[I" ∈ wsX9_plan := by decide +kernel
theorem mX9_plan_f115 : Cond.fieldLink RX9 115 "BarrierLightsModel" "local" "[I" ∈ wsX9_plan := by decide +kernel
set_option maxRecDepth 100000 in
set_option maxHeartbeats 4000000 in
theorem lp_X9_plan_L74 {l : Launch} {D : va_G} {ad : Nat → Nat} {aI aZ aS aF : ClassId} {G : jG} {c1 : Int32} {c2 : Int32} {c3 : Int32} {c4 : Int32} (C : jC (EM l D ad aI aZ aS aF) G cX9_plan yX9_plan.cls wsX9_plan rmX9_plan 6) : ∀ (n : Nat) (y5 : Int32) (K : Mem) (v : Int32 × Mem), f_X9_plan_L74 c1 c2 c3 c4 n y5 K = some v → jW (EM l D ad aI aZ aS aF) G v.2 113 [(0, .ref (ad 0)), (1, .int c1), (2, .int c2), (3, .int c3), (4, .int c4), (5, .int v.1)] [] → jW (EM l D ad aI aZ aS aF) G K 74 [(0, .ref (ad 0)), (1, .int c1), (2, .int c2), (3, .int c3), (4, .int c4), (5, .int y5)] [] := by
  intro n
  induction n with
  | zero =>
    intro y5 K v hf jj
    rw [f_X9_plan_L74] at hf
    cases hf
  | succ n ih =>
    intro y5 K v hf jj
    rw [f_X9_plan_L74] at hf
    refine j_iload C 5 dX9_plan_74 rfl ?_
    refine j_iconst C (v := 2) dX9_plan_76 (by decide) ?_
    refine j_icmp_ge C 113 dX9_plan_77 (by decide) hf (fun hf => ?_) (fun hf => ?_)
    · cases hf
      exact jj
    · refine j_aload_n C 0 dX9_plan_80 rfl rfl ?_
      refine j_get C 33 iX9_plan_X9 h_0 rfl (by decide) mX9_plan_f106 rfl rfl dX9_plan_81 ?_
      refine j_iload C 5 dX9_plan_84 rfl ?_
      refine j_iald C 0 h_32 rfl dX9_plan_86 hf (fun hf => ?_)
      refine j_iload_n C 1 dX9_plan_87 rfl rfl ?_
      obtain ⟨v6, h7, hf⟩ := bd hf
      have jj8 : jW (EM l D ad aI aZ aS aF) G v6 107 [(0, .ref (ad 0)), (1, .int c1), (2, .int c2), (3, .int c3), (4, .int c4), (5, .int y5)] [] := by
        refine j_iinc C (v := (y5 + 1)) 5 (fun y => [(5, .int y), (0, .ref (ad 0)), (1, .int c1), (2, .int c2), (3, .int c3), (4, .int c4)]) dX9_plan_107 rfl rfl (by decide) (fun _ => rfl) hf (fun x10 hf => ?_)
        refine j_goto C 74 dX9_plan_110 (by decide) ?_
        refine j_sub [1, 2, 3, 4, 5, 0] rfl ?_
        exact ih _ _ _ hf jj
      clear hf
      have hf := h7
      clear h7
      refine j_icmp_ne C 107 dX9_plan_88 (by decide) hf (fun hf => ?_) (fun hf => ?_)
      · refine j_aload_n C 0 dX9_plan_91 rfl rfl ?_
        refine j_get C 36 iX9_plan_X9 h_0 rfl (by decide) mX9_plan_f115 rfl rfl dX9_plan_92 ?_
        refine j_iload C 5 dX9_plan_95 rfl ?_
        refine j_aload_n C 0 dX9_plan_97 rfl rfl ?_
        refine j_get C 36 iX9_plan_X9 h_0 rfl (by decide) mX9_plan_f115 rfl rfl dX9_plan_98 ?_
        refine j_iload C 5 dX9_plan_101 rfl ?_
        refine j_iald C 0 h_35 rfl dX9_plan_103 hf (fun hf => ?_)
        refine j_iload_n C 2 dX9_plan_104 rfl rfl ?_
        refine j_irem_f C dX9_plan_105 hf (fun hf => ?_)
        refine j_iast C 0 h_35 (t_35 _ _) rfl dX9_plan_106 hf (fun K9 hf => ?_)
        cases hf
        exact jj8
      · cases hf
        exact jj8
set_option maxRecDepth 100000 in
set_option maxHeartbeats 4000000 in
theorem k_X9_plan {l : Launch} {D : va_G} {ad : Nat → Nat} {aI aZ aS aF : ClassId} {p1 : Int32} {p2 : Int32} {p3 : Int32} {p4 : Int32} {K : Mem} {u : Int32 × Mem} (hf : f_X9_plan p1 p2 p3 p4 K = some u) : cI (EM l D ad aI aZ aS aF) yX9_plan wsX9_plan rmX9_plan [.ref (ad 0), .int p1, .int p2, .int p3, .int p4] K u.1 u.2 := by
  rw [f_X9_plan] at hf
  refine j_entI (cc := cX9_plan) (maxL := 6) (EM_ok l D ad aI aZ aS aF) (Or.inr rfl) (by decide) rfl (Nat.le_of_ble_eq_true rfl) (fun G C ret => ?_)
  refine j_sub [0, 1, 2, 3, 4] (lv2 := [(0, .ref (ad 0)), (1, .int p1), (2, .int p2), (3, .int p3), (4, .int p4)]) rfl ?_
  refine j_aload_n C 0 dX9_plan_0 rfl rfl ?_
  refine j_iconst C (v := 0) dX9_plan_1 (by decide) ?_
  refine j_put C (ty := .int) 0 iX9_plan_X9 tyX9 tyX9_ok nmX9 h_0 (t_0_0 _) rfl (by decide) mX9_plan_f118 rfl rfl (by decide +kernel) rfl rfl (Nat.le_of_ble_eq_true rfl) dX9_plan_2 hf (fun K1 hf => ?_)
  refine j_iload_n C 1 dX9_plan_5 rfl rfl ?_
  refine j_if_lt C 47 dX9_plan_6 (by decide) hf (fun hf => ?_) (fun hf => ?_)
  · refine j_iconst C (v := 0) dX9_plan_47 (by decide) ?_
    cases hf
    exact ret _ _ dX9_plan_48 (fun _ => rfl)
  · refine j_iload_n C 1 dX9_plan_9 rfl rfl ?_
    refine j_iconst C (v := 3) dX9_plan_10 (by decide) ?_
    refine j_icmp_gt C 47 dX9_plan_11 (by decide) hf (fun hf => ?_) (fun hf => ?_)
    · refine j_iconst C (v := 0) dX9_plan_47 (by decide) ?_
      cases hf
      exact ret _ _ dX9_plan_48 (fun _ => rfl)
    · refine j_iload_n C 2 dX9_plan_14 rfl rfl ?_
      refine j_bipush C (v := 20) dX9_plan_15 (by decide) ?_
      refine j_icmp_lt C 47 dX9_plan_17 (by decide) hf (fun hf => ?_) (fun hf => ?_)
      · refine j_iconst C (v := 0) dX9_plan_47 (by decide) ?_
        cases hf
        exact ret _ _ dX9_plan_48 (fun _ => rfl)
      · refine j_iload_n C 2 dX9_plan_20 rfl rfl ?_
        refine j_bipush C (v := 120) dX9_plan_21 (by decide) ?_
        refine j_icmp_gt C 47 dX9_plan_23 (by decide) hf (fun hf => ?_) (fun hf => ?_)
        · refine j_iconst C (v := 0) dX9_plan_47 (by decide) ?_
          cases hf
          exact ret _ _ dX9_plan_48 (fun _ => rfl)
        · refine j_iload_n C 3 dX9_plan_26 rfl rfl ?_
          refine j_if_lt C 47 dX9_plan_27 (by decide) hf (fun hf => ?_) (fun hf => ?_)
          · refine j_iconst C (v := 0) dX9_plan_47 (by decide) ?_
            cases hf
            exact ret _ _ dX9_plan_48 (fun _ => rfl)
          · refine j_iload_n C 3 dX9_plan_30 rfl rfl ?_
            refine j_iload_n C 2 dX9_plan_31 rfl rfl ?_
            refine j_icmp_ge C 47 dX9_plan_32 (by decide) hf (fun hf => ?_) (fun hf => ?_)
            · refine j_iconst C (v := 0) dX9_plan_47 (by decide) ?_
              cases hf
              exact ret _ _ dX9_plan_48 (fun _ => rfl)
            · refine j_iload C 4 dX9_plan_35 rfl ?_
              refine j_iconst C (v := 1) dX9_plan_37 (by decide) ?_
              refine j_icmp_lt C 47 dX9_plan_38 (by decide) hf (fun hf => ?_) (fun hf => ?_)
              · refine j_iconst C (v := 0) dX9_plan_47 (by decide) ?_
                cases hf
                exact ret _ _ dX9_plan_48 (fun _ => rfl)
              · refine j_iload C 4 dX9_plan_41 rfl ?_
                refine j_iload_n C 2 dX9_plan_43 rfl rfl ?_
                refine j_icmp_lt C 49 dX9_plan_44 (by decide) hf (fun hf => ?_) (fun hf => ?_)
                · refine j_aload_n C 0 dX9_plan_49 rfl rfl ?_
                  refine j_get C 30 iX9_plan_X9 h_0 rfl (by decide) mX9_plan_f97 rfl rfl dX9_plan_50 ?_
                  refine j_iload_n C 1 dX9_plan_53 rfl rfl ?_
                  refine j_iload_n C 2 dX9_plan_54 rfl rfl ?_
                  refine j_iast C 0 h_29 (t_29 _ _) rfl dX9_plan_55 hf (fun K2 hf => ?_)
                  refine j_aload_n C 0 dX9_plan_56 rfl rfl ?_
                  refine j_get C 31 iX9_plan_X9 h_0 rfl (by decide) mX9_plan_f100 rfl rfl dX9_plan_57 ?_
                  refine j_iload_n C 1 dX9_plan_60 rfl rfl ?_
                  refine j_iload_n C 3 dX9_plan_61 rfl rfl ?_
                  refine j_iast C 0 h_30 (t_30 _ _) rfl dX9_plan_62 hf (fun K3 hf => ?_)
                  refine j_aload_n C 0 dX9_plan_63 rfl rfl ?_
                  refine j_get C 32 iX9_plan_X9 h_0 rfl (by decide) mX9_plan_f103 rfl rfl dX9_plan_64 ?_
                  refine j_iload_n C 1 dX9_plan_67 rfl rfl ?_
                  refine j_iload C 4 dX9_plan_68 rfl ?_
                  refine j_iast C 0 h_31 (t_31 _ _) rfl dX9_plan_70 hf (fun K4 hf => ?_)
                  refine j_iconst C (v := 0) dX9_plan_71 (by decide) ?_
                  refine j_istore C (fun y => [(5, .int y), (0, .ref (ad 0)), (1, .int p1), (2, .int p2), (3, .int p3), (4, .int p4)]) dX9_plan_72 (by decide) (fun _ => rfl) hf (fun x5 hf => ?_)
                  obtain ⟨v11, h12, hf⟩ := bd hf
                  refine j_sub [1, 2, 3, 4, 5, 0] (lv2 := [(0, .ref (ad 0)), (1, .int p1), (2, .int p2), (3, .int p3), (4, .int p4), (5, .int x5)]) rfl ?_
                  refine lp_X9_plan_L74 C 70 _ _ _ h12 ?_
                  refine j_iconst C (v := 1) dX9_plan_113 (by decide) ?_
                  cases hf
                  exact ret _ _ dX9_plan_114 (fun _ => rfl)
                · refine j_iconst C (v := 0) dX9_plan_47 (by decide) ?_
                  cases hf
                  exact ret _ _ dX9_plan_48 (fun _ => rfl)
/-- BarrierLightsModel.message(III)Z -/
def f_X9_message (p1 : Int32) (p2 : Int32) (p3 : Int32) (K : Mem) : Option (Int32 × Mem) := st K 0 0 0 fun K1 => (f_X9_isCrossing p1 K1).bind fun u2 => if u2 = 0 then (some (0, K1)) else (if p2 < 0 then (some (0, K1)) else (if 7 < p2 then (some (0, K1)) else (if p3 < 0 then (some (0, K1)) else (if 3 < p3 then (some (0, K1)) else (if inb p3 4 = true then (if (K1 29 (ix p3)) = 0 then (some (0, K1)) else (if inb p1 2 = true then (if (K1 33 (ix p1)) < 0 then (if inb p1 2 = true then ((if 0 ≤ (K1 32 (ix p1)) then (if inb p1 2 = true then (if inb p3 4 = true then (if (K1 29 (ix p3)) = 0 then none else (some (jrem (K1 35 (ix p1)) (K1 29 (ix p3))))) else none) else none) else (some 0) : Option (Int32)).bind fun v4 => if inb p1 2 = true then (st K1 35 (ix p1) v4 fun K7 => if inb p1 2 = true then (st K7 32 (ix p1) p3 fun K8 => if inb p1 2 = true then (st K8 33 (ix p1) p2 fun K9 => if inb p1 2 = true then (st K9 34 (ix p1) 0 fun K10 => some (1, K10)) else none) else none) else none) else none) else none) else (if inb p1 2 = true then (if p2 = (jrem ((K1 33 (ix p1)) + 1) 8) then (if inb p1 2 = true then ((if 0 ≤ (K1 32 (ix p1)) then (if inb p1 2 = true then (if inb p3 4 = true then (if (K1 29 (ix p3)) = 0 then none else (some (jrem (K1 35 (ix p1)) (K1 29 (ix p3))))) else none) else none) else (some 0) : Option (Int32)).bind fun v11 => if inb p1 2 = true then (st K1 35 (ix p1) v11 fun K14 => if inb p1 2 = true then (st K14 32 (ix p1) p3 fun K15 => if inb p1 2 = true then (st K15 33 (ix p1) p2 fun K16 => if inb p1 2 = true then (st K16 34 (ix p1) 0 fun K17 => some (1, K17)) else none) else none) else none) else none) else none) else (some (0, K1))) else none)) else none)) else none)))))
abbrev rmX9_message : Room := { frames := 1, cells := 0, slots := 0, locals := 20 }
theorem iX9_message_X9 : ∀ w ∈ u_ws RX9 TX9 37, w ∈ wsX9_message := fun _ h => List.mem_cons_of_mem _ (List.mem_append_right _ h)
theorem mX9_message_f118 : Cond.fieldLink RX9 118 "BarrierLightsModel" "code" "I" ∈ wsX9_message := by decide +kernel
theorem mX9_message_f97 : Cond.fieldLink RX9 97 "BarrierLightsModel" "cycle" "[I" ∈ wsX9_message := by decide +kernel
theorem mX9_message_f109 : Cond.fieldLink RX9 109 "BarrierLightsModel" "last" "[I" ∈ wsX9_message := by decide +kernel
theorem mX9_message_f115 : Cond.fieldLink RX9 115 "BarrierLightsModel" "local" "[I" ∈ wsX9_message := by decide +kernel
theorem mX9_message_f106 : Cond.fieldLink RX9 106 "BarrierLightsModel" "plan" "[I" ∈ wsX9_message := by decide +kernel
theorem mX9_message_f112 : Cond.fieldLink RX9 112 "BarrierLightsModel" "silence" "[I" ∈ wsX9_message := by decide +kernel
set_option maxRecDepth 100000 in
set_option maxHeartbeats 4000000 in
theorem k_X9_message {l : Launch} {D : va_G} {ad : Nat → Nat} {aI aZ aS aF : ClassId} {p1 : Int32} {p2 : Int32} {p3 : Int32} {K : Mem} {u : Int32 × Mem} (hf : f_X9_message p1 p2 p3 K = some u) : cI (EM l D ad aI aZ aS aF) yX9_message wsX9_message rmX9_message [.ref (ad 0), .int p1, .int p2, .int p3] K u.1 u.2 := by
  rw [f_X9_message] at hf
  refine j_entI (cc := cX9_message) (maxL := 4) (EM_ok l D ad aI aZ aS aF) (Or.inr rfl) (by decide) rfl (Nat.le_of_ble_eq_true rfl) (fun G C ret => ?_)
  refine j_sub [0, 1, 2, 3] (lv2 := [(0, .ref (ad 0)), (1, .int p1), (2, .int p2), (3, .int p3)]) rfl ?_
  refine j_aload_n C 0 dX9_message_0 rfl rfl ?_
  refine j_iconst C (v := 0) dX9_message_1 (by decide) ?_
  refine j_put C (ty := .int) 0 iX9_message_X9 tyX9 tyX9_ok nmX9 h_0 (t_0_0 _) rfl (by decide) mX9_message_f118 rfl rfl (by decide +kernel) rfl rfl (Nat.le_of_ble_eq_true rfl) dX9_message_2 hf (fun K1 hf => ?_)
  refine j_iload_n C 1 dX9_message_5 rfl rfl ?_
  obtain ⟨u2, h3, hf⟩ := bd hf
  refine j_cSI C [.int p1] gX9_message_X9_isCrossing rfl hdX9_isCrossing.2 ⟨⟨rfl, rfl⟩, Nat.le_of_ble_eq_true rfl, Nat.le_of_ble_eq_true rfl⟩ rfl (k_X9_isCrossing h3) dX9_message_6 rfl (Nat.le_of_ble_eq_true rfl) ?_
  refine j_if_eq C 40 dX9_message_9 (by decide) hf (fun hf => ?_) (fun hf => ?_)
  · refine j_iconst C (v := 0) dX9_message_40 (by decide) ?_
    cases hf
    exact ret _ _ dX9_message_41 (fun _ => rfl)
  · refine j_iload_n C 2 dX9_message_12 rfl rfl ?_
    refine j_if_lt C 40 dX9_message_13 (by decide) hf (fun hf => ?_) (fun hf => ?_)
    · refine j_iconst C (v := 0) dX9_message_40 (by decide) ?_
      cases hf
      exact ret _ _ dX9_message_41 (fun _ => rfl)
    · refine j_iload_n C 2 dX9_message_16 rfl rfl ?_
      refine j_bipush C (v := 7) dX9_message_17 (by decide) ?_
      refine j_icmp_gt C 40 dX9_message_19 (by decide) hf (fun hf => ?_) (fun hf => ?_)
      · refine j_iconst C (v := 0) dX9_message_40 (by decide) ?_
        cases hf
        exact ret _ _ dX9_message_41 (fun _ => rfl)
      · refine j_iload_n C 3 dX9_message_22 rfl rfl ?_
        refine j_if_lt C 40 dX9_message_23 (by decide) hf (fun hf => ?_) (fun hf => ?_)
        · refine j_iconst C (v := 0) dX9_message_40 (by decide) ?_
          cases hf
          exact ret _ _ dX9_message_41 (fun _ => rfl)
        · refine j_iload_n C 3 dX9_message_26 rfl rfl ?_
          refine j_iconst C (v := 3) dX9_message_27 (by decide) ?_
          refine j_icmp_gt C 40 dX9_message_28 (by decide) hf (fun hf => ?_) (fun hf => ?_)
          · refine j_iconst C (v := 0) dX9_message_40 (by decide) ?_
            cases hf
            exact ret _ _ dX9_message_41 (fun _ => rfl)
          · refine j_aload_n C 0 dX9_message_31 rfl rfl ?_
            refine j_get C 30 iX9_message_X9 h_0 rfl (by decide) mX9_message_f97 rfl rfl dX9_message_32 ?_
            refine j_iload_n C 3 dX9_message_35 rfl rfl ?_
            refine j_iald C 0 h_29 rfl dX9_message_36 hf (fun hf => ?_)
            refine j_if_ne C 42 dX9_message_37 (by decide) hf (fun hf => ?_) (fun hf => ?_)
            · refine j_iconst C (v := 0) dX9_message_40 (by decide) ?_
              cases hf
              exact ret _ _ dX9_message_41 (fun _ => rfl)
            · refine j_aload_n C 0 dX9_message_42 rfl rfl ?_
              refine j_get C 34 iX9_message_X9 h_0 rfl (by decide) mX9_message_f109 rfl rfl dX9_message_43 ?_
              refine j_iload_n C 1 dX9_message_46 rfl rfl ?_
              refine j_iald C 0 h_33 rfl dX9_message_47 hf (fun hf => ?_)
              refine j_if_lt C 68 dX9_message_48 (by decide) hf (fun hf => ?_) (fun hf => ?_)
              · refine j_aload_n C 0 dX9_message_68 rfl rfl ?_
                refine j_get C 36 iX9_message_X9 h_0 rfl (by decide) mX9_message_f115 rfl rfl dX9_message_69 ?_
                refine j_iload_n C 1 dX9_message_72 rfl rfl ?_
                refine j_aload_n C 0 dX9_message_73 rfl rfl ?_
                refine j_get C 33 iX9_message_X9 h_0 rfl (by decide) mX9_message_f106 rfl rfl dX9_message_74 ?_
                refine j_iload_n C 1 dX9_message_77 rfl rfl ?_
                refine j_iald C 0 h_32 rfl dX9_message_78 hf (fun hf => ?_)
                obtain ⟨v4, h5, hf⟩ := bd hf
                have jj6 : jW (EM l D ad aI aZ aS aF) G K1 99 [(0, .ref (ad 0)), (1, .int p1), (2, .int p2), (3, .int p3)] [.int v4, .int p1, .ref (ad 35)] := by
                  refine j_iast C 0 h_35 (t_35 _ _) rfl dX9_message_99 hf (fun K7 hf => ?_)
                  refine j_aload_n C 0 dX9_message_100 rfl rfl ?_
                  refine j_get C 33 iX9_message_X9 h_0 rfl (by decide) mX9_message_f106 rfl rfl dX9_message_101 ?_
                  refine j_iload_n C 1 dX9_message_104 rfl rfl ?_
                  refine j_iload_n C 3 dX9_message_105 rfl rfl ?_
                  refine j_iast C 0 h_32 (t_32 _ _) rfl dX9_message_106 hf (fun K8 hf => ?_)
                  refine j_aload_n C 0 dX9_message_107 rfl rfl ?_
                  refine j_get C 34 iX9_message_X9 h_0 rfl (by decide) mX9_message_f109 rfl rfl dX9_message_108 ?_
                  refine j_iload_n C 1 dX9_message_111 rfl rfl ?_
                  refine j_iload_n C 2 dX9_message_112 rfl rfl ?_
                  refine j_iast C 0 h_33 (t_33 _ _) rfl dX9_message_113 hf (fun K9 hf => ?_)
                  refine j_aload_n C 0 dX9_message_114 rfl rfl ?_
                  refine j_get C 35 iX9_message_X9 h_0 rfl (by decide) mX9_message_f112 rfl rfl dX9_message_115 ?_
                  refine j_iload_n C 1 dX9_message_118 rfl rfl ?_
                  refine j_iconst C (v := 0) dX9_message_119 (by decide) ?_
                  refine j_iast C 0 h_34 (t_34 _ _) rfl dX9_message_120 hf (fun K10 hf => ?_)
                  refine j_iconst C (v := 1) dX9_message_121 (by decide) ?_
                  cases hf
                  exact ret _ _ dX9_message_122 (fun _ => rfl)
                clear hf
                have hf := h5
                clear h5
                refine j_if_ge C 86 dX9_message_79 (by decide) hf (fun hf => ?_) (fun hf => ?_)
                · refine j_aload_n C 0 dX9_message_86 rfl rfl ?_
                  refine j_get C 36 iX9_message_X9 h_0 rfl (by decide) mX9_message_f115 rfl rfl dX9_message_87 ?_
                  refine j_iload_n C 1 dX9_message_90 rfl rfl ?_
                  refine j_iald C 0 h_35 rfl dX9_message_91 hf (fun hf => ?_)
                  refine j_aload_n C 0 dX9_message_92 rfl rfl ?_
                  refine j_get C 30 iX9_message_X9 h_0 rfl (by decide) mX9_message_f97 rfl rfl dX9_message_93 ?_
                  refine j_iload_n C 3 dX9_message_96 rfl rfl ?_
                  refine j_iald C 0 h_29 rfl dX9_message_97 hf (fun hf => ?_)
                  refine j_irem_f C dX9_message_98 hf (fun hf => ?_)
                  cases hf
                  exact jj6
                · refine j_iconst C (v := 0) dX9_message_82 (by decide) ?_
                  refine j_goto C 99 dX9_message_83 (by decide) ?_
                  cases hf
                  exact jj6
              · refine j_iload_n C 2 dX9_message_51 rfl rfl ?_
                refine j_aload_n C 0 dX9_message_52 rfl rfl ?_
                refine j_get C 34 iX9_message_X9 h_0 rfl (by decide) mX9_message_f109 rfl rfl dX9_message_53 ?_
                refine j_iload_n C 1 dX9_message_56 rfl rfl ?_
                refine j_iald C 0 h_33 rfl dX9_message_57 hf (fun hf => ?_)
                refine j_iconst C (v := 1) dX9_message_58 (by decide) ?_
                refine j_iadd C dX9_message_59 ?_
                refine j_bipush C (v := 8) dX9_message_60 (by decide) ?_
                refine j_irem C dX9_message_62 (by decide) ?_
                refine j_icmp_eq C 68 dX9_message_63 (by decide) hf (fun hf => ?_) (fun hf => ?_)
                · refine j_aload_n C 0 dX9_message_68 rfl rfl ?_
                  refine j_get C 36 iX9_message_X9 h_0 rfl (by decide) mX9_message_f115 rfl rfl dX9_message_69 ?_
                  refine j_iload_n C 1 dX9_message_72 rfl rfl ?_
                  refine j_aload_n C 0 dX9_message_73 rfl rfl ?_
                  refine j_get C 33 iX9_message_X9 h_0 rfl (by decide) mX9_message_f106 rfl rfl dX9_message_74 ?_
                  refine j_iload_n C 1 dX9_message_77 rfl rfl ?_
                  refine j_iald C 0 h_32 rfl dX9_message_78 hf (fun hf => ?_)
                  obtain ⟨v11, h12, hf⟩ := bd hf
                  have jj13 : jW (EM l D ad aI aZ aS aF) G K1 99 [(0, .ref (ad 0)), (1, .int p1), (2, .int p2), (3, .int p3)] [.int v11, .int p1, .ref (ad 35)] := by
                    refine j_iast C 0 h_35 (t_35 _ _) rfl dX9_message_99 hf (fun K14 hf => ?_)
                    refine j_aload_n C 0 dX9_message_100 rfl rfl ?_
                    refine j_get C 33 iX9_message_X9 h_0 rfl (by decide) mX9_message_f106 rfl rfl dX9_message_101 ?_
                    refine j_iload_n C 1 dX9_message_104 rfl rfl ?_
                    refine j_iload_n C 3 dX9_message_105 rfl rfl ?_
                    refine j_iast C 0 h_32 (t_32 _ _) rfl dX9_message_106 hf (fun K15 hf => ?_)
                    refine j_aload_n C 0 dX9_message_107 rfl rfl ?_
                    refine j_get C 34 iX9_message_X9 h_0 rfl (by decide) mX9_message_f109 rfl rfl dX9_message_108 ?_
                    refine j_iload_n C 1 dX9_message_111 rfl rfl ?_
                    refine j_iload_n C 2 dX9_message_112 rfl rfl ?_
                    refine j_iast C 0 h_33 (t_33 _ _) rfl dX9_message_113 hf (fun K16 hf => ?_)
                    refine j_aload_n C 0 dX9_message_114 rfl rfl ?_
                    refine j_get C 35 iX9_message_X9 h_0 rfl (by decide) mX9_message_f112 rfl rfl dX9_message_115 ?_
                    refine j_iload_n C 1 dX9_message_118 rfl rfl ?_
                    refine j_iconst C (v := 0) dX9_message_119 (by decide) ?_
                    refine j_iast C 0 h_34 (t_34 _ _) rfl dX9_message_120 hf (fun K17 hf => ?_)
                    refine j_iconst C (v := 1) dX9_message_121 (by decide) ?_
                    cases hf
                    exact ret _ _ dX9_message_122 (fun _ => rfl)
                  clear hf
                  have hf := h12
                  clear h12
                  refine j_if_ge C 86 dX9_message_79 (by decide) hf (fun hf => ?_) (fun hf => ?_)
                  · refine j_aload_n C 0 dX9_message_86 rfl rfl ?_
                    refine j_get C 36 iX9_message_X9 h_0 rfl (by decide) mX9_message_f115 rfl rfl dX9_message_87 ?_
                    refine j_iload_n C 1 dX9_message_90 rfl rfl ?_
                    refine j_iald C 0 h_35 rfl dX9_message_91 hf (fun hf => ?_)
                    refine j_aload_n C 0 dX9_message_92 rfl rfl ?_
                    refine j_get C 30 iX9_message_X9 h_0 rfl (by decide) mX9_message_f97 rfl rfl dX9_message_93 ?_
                    refine j_iload_n C 3 dX9_message_96 rfl rfl ?_
                    refine j_iald C 0 h_29 rfl dX9_message_97 hf (fun hf => ?_)
                    refine j_irem_f C dX9_message_98 hf (fun hf => ?_)
                    cases hf
                    exact jj13
                  · refine j_iconst C (v := 0) dX9_message_82 (by decide) ?_
                    refine j_goto C 99 dX9_message_83 (by decide) ?_
                    cases hf
                    exact jj13
                · refine j_iconst C (v := 0) dX9_message_66 (by decide) ?_
                  cases hf
                  exact ret _ _ dX9_message_67 (fun _ => rfl)
/-- BarrierLightsModel.fault(III)Z -/
def f_X9_fault (p1 : Int32) (p2 : Int32) (p3 : Int32) (K : Mem) : Option (Int32 × Mem) := st K 0 0 0 fun K1 => (f_X9_isPhase p1 p2 K1).bind fun u2 => if u2 = 0 then (some (0, K1)) else (if p3 < 0 then (some (0, K1)) else (if p3 ≤ 3 then (if inb ((8 * p1) + p2) 16 = true then (st K1 14 (ix ((8 * p1) + p2)) p3 fun K4 => some (1, K4)) else none) else (some (0, K1))))
abbrev rmX9_fault : Room := { frames := 2, cells := 0, slots := 0, locals := 41 }
theorem iX9_fault_X9 : ∀ w ∈ u_ws RX9 TX9 37, w ∈ wsX9_fault := fun _ h => List.mem_cons_of_mem _ (List.mem_append_right _ h)
theorem mX9_fault_f118 : Cond.fieldLink RX9 118 "BarrierLightsModel" "code" "I" ∈ wsX9_fault := by decide +kernel
theorem mX9_fault_f52 : Cond.fieldLink RX9 52 "BarrierLightsModel" "faults" "[I" ∈ wsX9_fault := by decide +kernel
set_option maxRecDepth 100000 in
set_option maxHeartbeats 4000000 in
theorem k_X9_fault {l : Launch} {D : va_G} {ad : Nat → Nat} {aI aZ aS aF : ClassId} {p1 : Int32} {p2 : Int32} {p3 : Int32} {K : Mem} {u : Int32 × Mem} (hf : f_X9_fault p1 p2 p3 K = some u) : cI (EM l D ad aI aZ aS aF) yX9_fault wsX9_fault rmX9_fault [.ref (ad 0), .int p1, .int p2, .int p3] K u.1 u.2 := by
  rw [f_X9_fault] at hf
  refine j_entI (cc := cX9_fault) (maxL := 4) (EM_ok l D ad aI aZ aS aF) (Or.inr rfl) (by decide) rfl (Nat.le_of_ble_eq_true rfl) (fun G C ret => ?_)
  refine j_sub [0, 1, 2, 3] (lv2 := [(0, .ref (ad 0)), (1, .int p1), (2, .int p2), (3, .int p3)]) rfl ?_
  refine j_aload_n C 0 dX9_fault_0 rfl rfl ?_
  refine j_iconst C (v := 0) dX9_fault_1 (by decide) ?_
  refine j_put C (ty := .int) 0 iX9_fault_X9 tyX9 tyX9_ok nmX9 h_0 (t_0_0 _) rfl (by decide) mX9_fault_f118 rfl rfl (by decide +kernel) rfl rfl (Nat.le_of_ble_eq_true rfl) dX9_fault_2 hf (fun K1 hf => ?_)
  refine j_iload_n C 1 dX9_fault_5 rfl rfl ?_
  refine j_iload_n C 2 dX9_fault_6 rfl rfl ?_
  obtain ⟨u2, h3, hf⟩ := bd hf
  refine j_cSI C [.int p1, .int p2] gX9_fault_X9_isPhase rfl hdX9_isPhase.2 ⟨⟨rfl, rfl⟩, Nat.le_of_ble_eq_true rfl, Nat.le_of_ble_eq_true rfl⟩ rfl (k_X9_isPhase h3) dX9_fault_7 rfl (Nat.le_of_ble_eq_true rfl) ?_
  refine j_if_eq C 22 dX9_fault_10 (by decide) hf (fun hf => ?_) (fun hf => ?_)
  · refine j_iconst C (v := 0) dX9_fault_22 (by decide) ?_
    cases hf
    exact ret _ _ dX9_fault_23 (fun _ => rfl)
  · refine j_iload_n C 3 dX9_fault_13 rfl rfl ?_
    refine j_if_lt C 22 dX9_fault_14 (by decide) hf (fun hf => ?_) (fun hf => ?_)
    · refine j_iconst C (v := 0) dX9_fault_22 (by decide) ?_
      cases hf
      exact ret _ _ dX9_fault_23 (fun _ => rfl)
    · refine j_iload_n C 3 dX9_fault_17 rfl rfl ?_
      refine j_iconst C (v := 3) dX9_fault_18 (by decide) ?_
      refine j_icmp_le C 24 dX9_fault_19 (by decide) hf (fun hf => ?_) (fun hf => ?_)
      · refine j_aload_n C 0 dX9_fault_24 rfl rfl ?_
        refine j_get C 15 iX9_fault_X9 h_0 rfl (by decide) mX9_fault_f52 rfl rfl dX9_fault_25 ?_
        refine j_bipush C (v := 8) dX9_fault_28 (by decide) ?_
        refine j_iload_n C 1 dX9_fault_30 rfl rfl ?_
        refine j_imul C dX9_fault_31 ?_
        refine j_iload_n C 2 dX9_fault_32 rfl rfl ?_
        refine j_iadd C dX9_fault_33 ?_
        refine j_iload_n C 3 dX9_fault_34 rfl rfl ?_
        refine j_iast C 0 h_14 (t_14 _ _) rfl dX9_fault_35 hf (fun K4 hf => ?_)
        refine j_iconst C (v := 1) dX9_fault_36 (by decide) ?_
        cases hf
        exact ret _ _ dX9_fault_37 (fun _ => rfl)
      · refine j_iconst C (v := 0) dX9_fault_22 (by decide) ?_
        cases hf
        exact ret _ _ dX9_fault_23 (fun _ => rfl)
/-- BarrierLightsModel.reset(I)Z -/
def f_X9_reset (p1 : Int32) (K : Mem) : Option (Int32 × Mem) := st K 0 0 0 fun K1 => (f_X9_isCrossing p1 K1).bind fun u2 => if u2 = 0 then (some (0, K1)) else (if inb p1 2 = true then (if (K1 5 (ix p1)) = 0 then (some (0, K1)) else ((f_X9_start p1 K1).bind fun u4 => some (1, u4))) else none)
abbrev rmX9_reset : Room := { frames := 2, cells := 0, slots := 0, locals := 43 }
theorem iX9_reset_X9 : ∀ w ∈ u_ws RX9 TX9 37, w ∈ wsX9_reset := fun _ h => List.mem_cons_of_mem _ (List.mem_append_right _ h)
theorem mX9_reset_f118 : Cond.fieldLink RX9 118 "BarrierLightsModel" "code" "I" ∈ wsX9_reset := by decide +kernel
theorem mX9_reset_f24 : Cond.fieldLink RX9 24 "BarrierLightsModel" "why" "[I" ∈ wsX9_reset := by decide +kernel
set_option maxRecDepth 100000 in
set_option maxHeartbeats 4000000 in
theorem k_X9_reset {l : Launch} {D : va_G} {ad : Nat → Nat} {aI aZ aS aF : ClassId} {p1 : Int32} {K : Mem} {u : Int32 × Mem} (hf : f_X9_reset p1 K = some u) : cI (EM l D ad aI aZ aS aF) yX9_reset wsX9_reset rmX9_reset [.ref (ad 0), .int p1] K u.1 u.2 := by
  rw [f_X9_reset] at hf
  refine j_entI (cc := cX9_reset) (maxL := 2) (EM_ok l D ad aI aZ aS aF) (Or.inr rfl) (by decide) rfl (Nat.le_of_ble_eq_true rfl) (fun G C ret => ?_)
  refine j_sub [0, 1] (lv2 := [(0, .ref (ad 0)), (1, .int p1)]) rfl ?_
  refine j_aload_n C 0 dX9_reset_0 rfl rfl ?_
  refine j_iconst C (v := 0) dX9_reset_1 (by decide) ?_
  refine j_put C (ty := .int) 0 iX9_reset_X9 tyX9 tyX9_ok nmX9 h_0 (t_0_0 _) rfl (by decide) mX9_reset_f118 rfl rfl (by decide +kernel) rfl rfl (Nat.le_of_ble_eq_true rfl) dX9_reset_2 hf (fun K1 hf => ?_)
  refine j_iload_n C 1 dX9_reset_5 rfl rfl ?_
  obtain ⟨u2, h3, hf⟩ := bd hf
  refine j_cSI C [.int p1] gX9_reset_X9_isCrossing rfl hdX9_isCrossing.2 ⟨⟨rfl, rfl⟩, Nat.le_of_ble_eq_true rfl, Nat.le_of_ble_eq_true rfl⟩ rfl (k_X9_isCrossing h3) dX9_reset_6 rfl (Nat.le_of_ble_eq_true rfl) ?_
  refine j_if_eq C 21 dX9_reset_9 (by decide) hf (fun hf => ?_) (fun hf => ?_)
  · refine j_iconst C (v := 0) dX9_reset_21 (by decide) ?_
    cases hf
    exact ret _ _ dX9_reset_22 (fun _ => rfl)
  · refine j_aload_n C 0 dX9_reset_12 rfl rfl ?_
    refine j_get C 6 iX9_reset_X9 h_0 rfl (by decide) mX9_reset_f24 rfl rfl dX9_reset_13 ?_
    refine j_iload_n C 1 dX9_reset_16 rfl rfl ?_
    refine j_iald C 0 h_5 rfl dX9_reset_17 hf (fun hf => ?_)
    refine j_if_ne C 23 dX9_reset_18 (by decide) hf (fun hf => ?_) (fun hf => ?_)
    · refine j_iconst C (v := 0) dX9_reset_21 (by decide) ?_
      cases hf
      exact ret _ _ dX9_reset_22 (fun _ => rfl)
    · refine j_aload_n C 0 dX9_reset_23 rfl rfl ?_
      refine j_iload_n C 1 dX9_reset_24 rfl rfl ?_
      obtain ⟨u4, h5, hf⟩ := bd hf
      refine j_cVV C [.int p1] gX9_reset_X9_start rfl hdX9_start ⟨⟨rfl, rfl⟩, Nat.le_of_ble_eq_true rfl, Nat.le_of_ble_eq_true rfl⟩ rfl h_0 rfl (k_X9_start h5) dX9_reset_25 rfl (Nat.le_of_ble_eq_true rfl) ?_
      refine j_iconst C (v := 1) dX9_reset_28 (by decide) ?_
      cases hf
      exact ret _ _ dX9_reset_29 (fun _ => rfl)
/-- BarrierLightsModel.tick(I)I -/
def f_X9_tick_L30 (c1 : Int32) : Nat → Int32 → Mem → Option (Int32 × Mem)
  | 0, _, _ => none
  | n + 1, y2, K => if c1 ≤ y2 then (some (y2, K)) else ((f_X9_step 0 K).bind fun u6 => (f_X9_step 1 u6).bind fun u8 => st u8 0 1 ((u8 0 1) + 1) fun K10 => lt (y2 + 1) fun x11 => f_X9_tick_L30 c1 n x11 K10)
def f_X9_tick (p1 : Int32) (K : Mem) : Option (Int32 × Mem) := (if p1 < 0 then (some 1) else (if p1 ≤ 20 then (some 0) else (some 1)) : Option (Int32)).bind fun v1 => st K 0 0 v1 fun K4 => if (K4 0 0) = 0 then (lt 0 fun x5 => (f_X9_tick_L30 p1 70 x5 K4).bind fun v12 => some ((v12.2 0 1), v12.2)) else (some (0, K4))
abbrev rmX9_tick : Room := { frames := 10, cells := 0, slots := 0, locals := 229 }
theorem iX9_tick_X9 : ∀ w ∈ u_ws RX9 TX9 37, w ∈ wsX9_tick := fun _ h => List.mem_cons_of_mem _ (List.mem_append_right _ h)
theorem mX9_tick_f118 : Cond.fieldLink RX9 118 "BarrierLightsModel" "code" "I" ∈ wsX9_tick := by decide +kernel
theorem hdX9_step : yX9_step.cls = RX9 ∧ yX9_step.cls ≠ "java/lang/invoke/MethodHandle" ∧ yX9_step.cls ≠ "java/lang/invoke/VarHandle" ∧ (parseMethodDescriptor yX9_step.desc).map (fun d => d.parameters.length) = some 1 := by decide +kernel
theorem mX9_tick_f172 : Cond.fieldLink RX9 172 "BarrierLightsModel" "clock" "I" ∈ wsX9_tick := by decide +kernel
set_option maxRecDepth 100000 in
set_option maxHeartbeats 4000000 in
theorem lp_X9_tick_L30 {l : Launch} {D : va_G} {ad : Nat → Nat} {aI aZ aS aF : ClassId} {G : jG} {c1 : Int32} (C : jC (EM l D ad aI aZ aS aF) G cX9_tick yX9_tick.cls wsX9_tick rmX9_tick 3) : ∀ (n : Nat) (y2 : Int32) (K : Mem) (v : Int32 × Mem), f_X9_tick_L30 c1 n y2 K = some v → jW (EM l D ad aI aZ aS aF) G v.2 61 [(0, .ref (ad 0)), (1, .int c1), (2, .int v.1)] [] → jW (EM l D ad aI aZ aS aF) G K 30 [(0, .ref (ad 0)), (1, .int c1), (2, .int y2)] [] := by
  intro n
  induction n with
  | zero =>
    intro y2 K v hf jj
    rw [f_X9_tick_L30] at hf
    cases hf
  | succ n ih =>
    intro y2 K v hf jj
    rw [f_X9_tick_L30] at hf
    refine j_iload_n C 2 dX9_tick_30 rfl rfl ?_
    refine j_iload_n C 1 dX9_tick_31 rfl rfl ?_
    refine j_icmp_ge C 61 dX9_tick_32 (by decide) hf (fun hf => ?_) (fun hf => ?_)
    · cases hf
      exact jj
    · refine j_aload_n C 0 dX9_tick_35 rfl rfl ?_
      refine j_iconst C (v := 0) dX9_tick_36 (by decide) ?_
      obtain ⟨u6, h7, hf⟩ := bd hf
      refine j_cVV C [.int 0] gX9_tick_X9_step rfl hdX9_step ⟨⟨rfl, rfl⟩, Nat.le_of_ble_eq_true rfl, Nat.le_of_ble_eq_true rfl⟩ rfl h_0 rfl (k_X9_step h7) dX9_tick_37 rfl (Nat.le_of_ble_eq_true rfl) ?_
      refine j_aload_n C 0 dX9_tick_40 rfl rfl ?_
      refine j_iconst C (v := 1) dX9_tick_41 (by decide) ?_
      obtain ⟨u8, h9, hf⟩ := bd hf
      refine j_cVV C [.int 1] gX9_tick_X9_step rfl hdX9_step ⟨⟨rfl, rfl⟩, Nat.le_of_ble_eq_true rfl, Nat.le_of_ble_eq_true rfl⟩ rfl h_0 rfl (k_X9_step h9) dX9_tick_42 rfl (Nat.le_of_ble_eq_true rfl) ?_
      refine j_aload_n C 0 dX9_tick_45 rfl rfl ?_
      refine j_dup C dX9_tick_46 rfl ?_
      refine j_get C 1 iX9_tick_X9 h_0 rfl (by decide) mX9_tick_f172 rfl rfl dX9_tick_47 ?_
      refine j_iconst C (v := 1) dX9_tick_50 (by decide) ?_
      refine j_iadd C dX9_tick_51 ?_
      refine j_put C (ty := .int) 1 iX9_tick_X9 tyX9 tyX9_ok nmX9 h_0 (t_0_1 _) rfl (by decide) mX9_tick_f172 rfl rfl (by decide +kernel) rfl rfl (Nat.le_of_ble_eq_true rfl) dX9_tick_52 hf (fun K10 hf => ?_)
      refine j_iinc C (v := (y2 + 1)) 2 (fun y => [(2, .int y), (0, .ref (ad 0)), (1, .int c1)]) dX9_tick_55 rfl rfl (by decide) (fun _ => rfl) hf (fun x11 hf => ?_)
      refine j_goto C 30 dX9_tick_58 (by decide) ?_
      refine j_sub [1, 2, 0] rfl ?_
      exact ih _ _ _ hf jj
set_option maxRecDepth 100000 in
set_option maxHeartbeats 4000000 in
theorem k_X9_tick {l : Launch} {D : va_G} {ad : Nat → Nat} {aI aZ aS aF : ClassId} {p1 : Int32} {K : Mem} {u : Int32 × Mem} (hf : f_X9_tick p1 K = some u) : cI (EM l D ad aI aZ aS aF) yX9_tick wsX9_tick rmX9_tick [.ref (ad 0), .int p1] K u.1 u.2 := by
  rw [f_X9_tick] at hf
  refine j_entI (cc := cX9_tick) (maxL := 3) (EM_ok l D ad aI aZ aS aF) (Or.inl rfl) (by decide) rfl (Nat.le_of_ble_eq_true rfl) (fun G C ret => ?_)
  refine j_sub [0, 1] (lv2 := [(0, .ref (ad 0)), (1, .int p1)]) rfl ?_
  refine j_aload_n C 0 dX9_tick_0 rfl rfl ?_
  refine j_iload_n C 1 dX9_tick_1 rfl rfl ?_
  obtain ⟨v1, h2, hf⟩ := bd hf
  have jj3 : jW (EM l D ad aI aZ aS aF) G K 16 [(0, .ref (ad 0)), (1, .int p1)] [.int v1, .ref (ad 0)] := by
    refine j_put C (ty := .int) 0 iX9_tick_X9 tyX9 tyX9_ok nmX9 h_0 (t_0_0 _) rfl (by decide) mX9_tick_f118 rfl rfl (by decide +kernel) rfl rfl (Nat.le_of_ble_eq_true rfl) dX9_tick_16 hf (fun K4 hf => ?_)
    refine j_aload_n C 0 dX9_tick_19 rfl rfl ?_
    refine j_get C 0 iX9_tick_X9 h_0 rfl (by decide) mX9_tick_f118 rfl rfl dX9_tick_20 ?_
    refine j_if_eq C 28 dX9_tick_23 (by decide) hf (fun hf => ?_) (fun hf => ?_)
    · refine j_iconst C (v := 0) dX9_tick_28 (by decide) ?_
      refine j_istore_n C (fun y => [(2, .int y), (0, .ref (ad 0)), (1, .int p1)]) dX9_tick_29 rfl (by decide) (fun _ => rfl) hf (fun x5 hf => ?_)
      obtain ⟨v12, h13, hf⟩ := bd hf
      refine j_sub [1, 2, 0] (lv2 := [(0, .ref (ad 0)), (1, .int p1), (2, .int x5)]) rfl ?_
      refine lp_X9_tick_L30 C 70 _ _ _ h13 ?_
      refine j_aload_n C 0 dX9_tick_61 rfl rfl ?_
      refine j_get C 1 iX9_tick_X9 h_0 rfl (by decide) mX9_tick_f172 rfl rfl dX9_tick_62 ?_
      cases hf
      exact ret _ _ dX9_tick_65 (fun h => by cases h)
    · refine j_iconst C (v := 0) dX9_tick_26 (by decide) ?_
      cases hf
      exact ret _ _ dX9_tick_27 (fun h => by cases h)
  clear hf
  have hf := h2
  clear h2
  refine j_if_lt C 11 dX9_tick_2 (by decide) hf (fun hf => ?_) (fun hf => ?_)
  · refine j_iconst C (v := 1) dX9_tick_11 (by decide) ?_
    refine j_goto C 16 dX9_tick_12 (by decide) ?_
    cases hf
    exact jj3
  · refine j_iload_n C 1 dX9_tick_5 rfl rfl ?_
    refine j_bipush C (v := 20) dX9_tick_6 (by decide) ?_
    refine j_icmp_le C 15 dX9_tick_8 (by decide) hf (fun hf => ?_) (fun hf => ?_)
    · refine j_iconst C (v := 0) dX9_tick_15 (by decide) ?_
      cases hf
      exact jj3
    · refine j_iconst C (v := 1) dX9_tick_11 (by decide) ?_
      refine j_goto C 16 dX9_tick_12 (by decide) ?_
      cases hf
      exact jj3
/-- BarrierLightsModel.lamp(II)I -/
def f_X9_lamp (p1 : Int32) (p2 : Int32) (K : Mem) : Option (Int32 × Mem) := st K 0 0 0 fun K1 => (f_X9_isPhase p1 p2 K1).bind fun u2 => if u2 = 0 then (some ((-1), K1)) else (if inb p1 2 = true then (if (K1 4 (ix p1)) = 0 then (if inb ((8 * p1) + p2) 16 = true then (if (K1 8 (ix ((8 * p1) + p2))) = 0 then (some (0, K1)) else (if inb p1 2 = true then (if (K1 5 (ix p1)) = 0 then ((f_X9_lampsOf p1 p2 K1).bind fun u4 => some (u4, K1)) else (some (8, K1))) else none)) else none) else (some (0, K1))) else none)
abbrev rmX9_lamp : Room := { frames := 2, cells := 0, slots := 0, locals := 46 }
theorem iX9_lamp_X9 : ∀ w ∈ u_ws RX9 TX9 37, w ∈ wsX9_lamp := fun _ h => List.mem_cons_of_mem _ (List.mem_append_right _ h)
theorem mX9_lamp_f118 : Cond.fieldLink RX9 118 "BarrierLightsModel" "code" "I" ∈ wsX9_lamp := by decide +kernel
theorem mX9_lamp_f20 : Cond.fieldLink RX9 20 "BarrierLightsModel" "off" "[Z" ∈ wsX9_lamp := by decide +kernel
theorem mX9_lamp_f33 : Cond.fieldLink RX9 33 "BarrierLightsModel" "used" "[Z" ∈ wsX9_lamp := by decide +kernel
theorem mX9_lamp_f24 : Cond.fieldLink RX9 24 "BarrierLightsModel" "why" "[I" ∈ wsX9_lamp := by decide +kernel
set_option maxRecDepth 100000 in
set_option maxHeartbeats 4000000 in
theorem k_X9_lamp {l : Launch} {D : va_G} {ad : Nat → Nat} {aI aZ aS aF : ClassId} {p1 : Int32} {p2 : Int32} {K : Mem} {u : Int32 × Mem} (hf : f_X9_lamp p1 p2 K = some u) : cI (EM l D ad aI aZ aS aF) yX9_lamp wsX9_lamp rmX9_lamp [.ref (ad 0), .int p1, .int p2] K u.1 u.2 := by
  rw [f_X9_lamp] at hf
  refine j_entI (cc := cX9_lamp) (maxL := 3) (EM_ok l D ad aI aZ aS aF) (Or.inl rfl) (by decide) rfl (Nat.le_of_ble_eq_true rfl) (fun G C ret => ?_)
  refine j_sub [0, 1, 2] (lv2 := [(0, .ref (ad 0)), (1, .int p1), (2, .int p2)]) rfl ?_
  refine j_aload_n C 0 dX9_lamp_0 rfl rfl ?_
  refine j_iconst C (v := 0) dX9_lamp_1 (by decide) ?_
  refine j_put C (ty := .int) 0 iX9_lamp_X9 tyX9 tyX9_ok nmX9 h_0 (t_0_0 _) rfl (by decide) mX9_lamp_f118 rfl rfl (by decide +kernel) rfl rfl (Nat.le_of_ble_eq_true rfl) dX9_lamp_2 hf (fun K1 hf => ?_)
  refine j_iload_n C 1 dX9_lamp_5 rfl rfl ?_
  refine j_iload_n C 2 dX9_lamp_6 rfl rfl ?_
  obtain ⟨u2, h3, hf⟩ := bd hf
  refine j_cSI C [.int p1, .int p2] gX9_lamp_X9_isPhase rfl hdX9_isPhase.2 ⟨⟨rfl, rfl⟩, Nat.le_of_ble_eq_true rfl, Nat.le_of_ble_eq_true rfl⟩ rfl (k_X9_isPhase h3) dX9_lamp_7 rfl (Nat.le_of_ble_eq_true rfl) ?_
  refine j_if_ne C 15 dX9_lamp_10 (by decide) hf (fun hf => ?_) (fun hf => ?_)
  · refine j_iconst C (v := (-1)) dX9_lamp_13 (by decide) ?_
    cases hf
    exact ret _ _ dX9_lamp_14 (fun h => by cases h)
  · refine j_aload_n C 0 dX9_lamp_15 rfl rfl ?_
    refine j_get C 5 iX9_lamp_X9 h_0 rfl (by decide) mX9_lamp_f20 rfl rfl dX9_lamp_16 ?_
    refine j_iload_n C 1 dX9_lamp_19 rfl rfl ?_
    refine j_zald C 1 h_4 rfl dX9_lamp_20 hf (fun hf => ?_)
    refine j_if_ne C 38 dX9_lamp_21 (by decide) hf (fun hf => ?_) (fun hf => ?_)
    · refine j_aload_n C 0 dX9_lamp_24 rfl rfl ?_
      refine j_get C 9 iX9_lamp_X9 h_0 rfl (by decide) mX9_lamp_f33 rfl rfl dX9_lamp_25 ?_
      refine j_bipush C (v := 8) dX9_lamp_28 (by decide) ?_
      refine j_iload_n C 1 dX9_lamp_30 rfl rfl ?_
      refine j_imul C dX9_lamp_31 ?_
      refine j_iload_n C 2 dX9_lamp_32 rfl rfl ?_
      refine j_iadd C dX9_lamp_33 ?_
      refine j_zald C 1 h_8 rfl dX9_lamp_34 hf (fun hf => ?_)
      refine j_if_ne C 40 dX9_lamp_35 (by decide) hf (fun hf => ?_) (fun hf => ?_)
      · refine j_iconst C (v := 0) dX9_lamp_38 (by decide) ?_
        cases hf
        exact ret _ _ dX9_lamp_39 (fun h => by cases h)
      · refine j_aload_n C 0 dX9_lamp_40 rfl rfl ?_
        refine j_get C 6 iX9_lamp_X9 h_0 rfl (by decide) mX9_lamp_f24 rfl rfl dX9_lamp_41 ?_
        refine j_iload_n C 1 dX9_lamp_44 rfl rfl ?_
        refine j_iald C 0 h_5 rfl dX9_lamp_45 hf (fun hf => ?_)
        refine j_if_eq C 54 dX9_lamp_46 (by decide) hf (fun hf => ?_) (fun hf => ?_)
        · refine j_aload_n C 0 dX9_lamp_54 rfl rfl ?_
          refine j_iload_n C 1 dX9_lamp_55 rfl rfl ?_
          refine j_iload_n C 2 dX9_lamp_56 rfl rfl ?_
          obtain ⟨u4, h5, hf⟩ := bd hf
          refine j_cVI C [.int p1, .int p2] gX9_lamp_X9_lampsOf rfl hdX9_lampsOf ⟨⟨rfl, rfl⟩, Nat.le_of_ble_eq_true rfl, Nat.le_of_ble_eq_true rfl⟩ rfl h_0 rfl (k_X9_lampsOf h5) dX9_lamp_57 rfl (Nat.le_of_ble_eq_true rfl) ?_
          cases hf
          exact ret _ _ dX9_lamp_60 (fun h => by cases h)
        · refine j_bipush C (v := 8) dX9_lamp_49 (by decide) ?_
          refine j_goto C 60 dX9_lamp_51 (by decide) ?_
          cases hf
          exact ret _ _ dX9_lamp_60 (fun h => by cases h)
    · refine j_iconst C (v := 0) dX9_lamp_38 (by decide) ?_
      cases hf
      exact ret _ _ dX9_lamp_39 (fun h => by cases h)
/-- BarrierLightsModel.signs(II)I -/
def f_X9_signs (p1 : Int32) (p2 : Int32) (K : Mem) : Option (Int32 × Mem) := st K 0 0 0 fun K1 => (f_X9_isPhase p1 p2 K1).bind fun u2 => if u2 = 0 then (some ((-1), K1)) else (lt ((8 * p1) + p2) fun x4 => if inb x4 16 = true then ((if (K1 9 (ix x4)) = 0 then (some 0) else (some 1) : Option (Int32)).bind fun v5 => if inb x4 16 = true then ((if (K1 10 (ix x4)) = 0 then (some 0) else (some 2) : Option (Int32)).bind fun v8 => (f_X9_failed p1 p2 K1).bind fun u11 => (if u11 = 0 then (some 0) else (some 16) : Option (Int32)).bind fun v13 => lt ((v5 + v8) + v13) fun x16 => (f_X9_isGreen p1 p2 K1).bind fun u17 => (if u17 = 0 then (some 0) else ((f_X9_ringOf p1 p2 K1).bind fun u22 => if inb u22 4 = true then (some (K1 25 (ix u22))) else none) : Option (Int32)).bind fun v19 => lt v19 fun x24 => if x24 = 1 then (some ((x16 + 4), K1)) else (if x24 = 2 then (some ((x16 + 8), K1)) else (some (x16, K1)))) else none) else none)
abbrev rmX9_signs : Room := { frames := 2, cells := 0, slots := 0, locals := 43 }
theorem iX9_signs_X9 : ∀ w ∈ u_ws RX9 TX9 37, w ∈ wsX9_signs := fun _ h => List.mem_cons_of_mem _ (List.mem_append_right _ h)
theorem mX9_signs_f118 : Cond.fieldLink RX9 118 "BarrierLightsModel" "code" "I" ∈ wsX9_signs := by decide +kernel
theorem mX9_signs_f36 : Cond.fieldLink RX9 36 "BarrierLightsModel" "calls" "[Z" ∈ wsX9_signs := by decide +kernel
theorem mX9_signs_f39 : Cond.fieldLink RX9 39 "BarrierLightsModel" "walkCalls" "[Z" ∈ wsX9_signs := by decide +kernel
theorem mX9_signs_f85 : Cond.fieldLink RX9 85 "BarrierLightsModel" "walker" "[I" ∈ wsX9_signs := by decide +kernel
set_option maxRecDepth 100000 in
set_option maxHeartbeats 4000000 in
theorem k_X9_signs {l : Launch} {D : va_G} {ad : Nat → Nat} {aI aZ aS aF : ClassId} {p1 : Int32} {p2 : Int32} {K : Mem} {u : Int32 × Mem} (hf : f_X9_signs p1 p2 K = some u) : cI (EM l D ad aI aZ aS aF) yX9_signs wsX9_signs rmX9_signs [.ref (ad 0), .int p1, .int p2] K u.1 u.2 := by
  rw [f_X9_signs] at hf
  refine j_entI (cc := cX9_signs) (maxL := 6) (EM_ok l D ad aI aZ aS aF) (Or.inl rfl) (by decide) rfl (Nat.le_of_ble_eq_true rfl) (fun G C ret => ?_)
  refine j_sub [0, 1, 2] (lv2 := [(0, .ref (ad 0)), (1, .int p1), (2, .int p2)]) rfl ?_
  refine j_aload_n C 0 dX9_signs_0 rfl rfl ?_
  refine j_iconst C (v := 0) dX9_signs_1 (by decide) ?_
  refine j_put C (ty := .int) 0 iX9_signs_X9 tyX9 tyX9_ok nmX9 h_0 (t_0_0 _) rfl (by decide) mX9_signs_f118 rfl rfl (by decide +kernel) rfl rfl (Nat.le_of_ble_eq_true rfl) dX9_signs_2 hf (fun K1 hf => ?_)
  refine j_iload_n C 1 dX9_signs_5 rfl rfl ?_
  refine j_iload_n C 2 dX9_signs_6 rfl rfl ?_
  obtain ⟨u2, h3, hf⟩ := bd hf
  refine j_cSI C [.int p1, .int p2] gX9_signs_X9_isPhase rfl hdX9_isPhase.2 ⟨⟨rfl, rfl⟩, Nat.le_of_ble_eq_true rfl, Nat.le_of_ble_eq_true rfl⟩ rfl (k_X9_isPhase h3) dX9_signs_7 rfl (Nat.le_of_ble_eq_true rfl) ?_
  refine j_if_ne C 15 dX9_signs_10 (by decide) hf (fun hf => ?_) (fun hf => ?_)
  · refine j_iconst C (v := (-1)) dX9_signs_13 (by decide) ?_
    cases hf
    exact ret _ _ dX9_signs_14 (fun h => by cases h)
  · refine j_bipush C (v := 8) dX9_signs_15 (by decide) ?_
    refine j_iload_n C 1 dX9_signs_17 rfl rfl ?_
    refine j_imul C dX9_signs_18 ?_
    refine j_iload_n C 2 dX9_signs_19 rfl rfl ?_
    refine j_iadd C dX9_signs_20 ?_
    refine j_istore_n C (fun y => [(3, .int y), (0, .ref (ad 0)), (1, .int p1), (2, .int p2)]) dX9_signs_21 rfl (by decide) (fun _ => rfl) hf (fun x4 hf => ?_)
    refine j_aload_n C 1 dX9_signs_22 rfl rfl ?_
    refine j_get C 10 iX9_signs_X9 h_0 rfl (by decide) mX9_signs_f36 rfl rfl dX9_signs_23 ?_
    refine j_iload_n C 0 dX9_signs_26 rfl rfl ?_
    refine j_zald C 1 h_9 rfl dX9_signs_27 hf (fun hf => ?_)
    obtain ⟨v5, h6, hf⟩ := bd hf
    have jj7 : jW (EM l D ad aI aZ aS aF) G K1 36 [(0, .ref (ad 0)), (1, .int p1), (2, .int p2), (3, .int x4)] [.int v5] := by
      refine j_aload_n C 0 dX9_signs_36 rfl rfl ?_
      refine j_get C 11 iX9_signs_X9 h_0 rfl (by decide) mX9_signs_f39 rfl rfl dX9_signs_37 ?_
      refine j_iload_n C 3 dX9_signs_40 rfl rfl ?_
      refine j_zald C 1 h_10 rfl dX9_signs_41 hf (fun hf => ?_)
      obtain ⟨v8, h9, hf⟩ := bd hf
      have jj10 : jW (EM l D ad aI aZ aS aF) G K1 50 [(0, .ref (ad 0)), (1, .int p1), (2, .int p2), (3, .int x4)] [.int v8, .int v5] := by
        refine j_iadd C dX9_signs_50 ?_
        refine j_aload_n C 0 dX9_signs_51 rfl rfl ?_
        refine j_iload_n C 1 dX9_signs_52 rfl rfl ?_
        refine j_iload_n C 2 dX9_signs_53 rfl rfl ?_
        obtain ⟨u11, h12, hf⟩ := bd hf
        refine j_cVI C [.int p1, .int p2] gX9_signs_X9_failed rfl hdX9_failed ⟨⟨rfl, rfl⟩, Nat.le_of_ble_eq_true rfl, Nat.le_of_ble_eq_true rfl⟩ rfl h_0 rfl (k_X9_failed h12) dX9_signs_54 rfl (Nat.le_of_ble_eq_true rfl) ?_
        obtain ⟨v13, h14, hf⟩ := bd hf
        have jj15 : jW (EM l D ad aI aZ aS aF) G K1 66 [(0, .ref (ad 0)), (1, .int p1), (2, .int p2), (3, .int x4)] [.int v13, .int ((v5 + v8))] := by
          refine j_iadd C dX9_signs_66 ?_
          refine j_istore C (fun y => [(4, .int y), (0, .ref (ad 0)), (1, .int p1), (2, .int p2), (3, .int x4)]) dX9_signs_67 (by decide) (fun _ => rfl) hf (fun x16 hf => ?_)
          refine j_aload_n C 1 dX9_signs_69 rfl rfl ?_
          refine j_iload_n C 2 dX9_signs_70 rfl rfl ?_
          refine j_iload_n C 3 dX9_signs_71 rfl rfl ?_
          obtain ⟨u17, h18, hf⟩ := bd hf
          refine j_cVI C [.int p1, .int p2] gX9_signs_X9_isGreen rfl hdX9_isGreen ⟨⟨rfl, rfl⟩, Nat.le_of_ble_eq_true rfl, Nat.le_of_ble_eq_true rfl⟩ rfl h_0 rfl (k_X9_isGreen h18) dX9_signs_72 rfl (Nat.le_of_ble_eq_true rfl) ?_
          obtain ⟨v19, h20, hf⟩ := bd hf
          have jj21 : jW (EM l D ad aI aZ aS aF) G K1 92 [(0, .ref (ad 0)), (1, .int p1), (2, .int p2), (3, .int x4), (4, .int x16)] [.int v19] := by
            refine j_istore C (fun y => [(5, .int y), (0, .ref (ad 0)), (1, .int p1), (2, .int p2), (3, .int x4), (4, .int x16)]) dX9_signs_92 (by decide) (fun _ => rfl) hf (fun x24 hf => ?_)
            refine j_iload C 0 dX9_signs_94 rfl ?_
            refine j_iconst C (v := 1) dX9_signs_96 (by decide) ?_
            refine j_icmp_ne C 107 dX9_signs_97 (by decide) hf (fun hf => ?_) (fun hf => ?_)
            · refine j_iload C 5 dX9_signs_100 rfl ?_
              refine j_iconst C (v := 4) dX9_signs_102 (by decide) ?_
              refine j_iadd C dX9_signs_103 ?_
              refine j_goto C 123 dX9_signs_104 (by decide) ?_
              cases hf
              exact ret _ _ dX9_signs_123 (fun h => by cases h)
            · refine j_iload C 0 dX9_signs_107 rfl ?_
              refine j_iconst C (v := 2) dX9_signs_109 (by decide) ?_
              refine j_icmp_ne C 121 dX9_signs_110 (by decide) hf (fun hf => ?_) (fun hf => ?_)
              · refine j_iload C 5 dX9_signs_113 rfl ?_
                refine j_bipush C (v := 8) dX9_signs_115 (by decide) ?_
                refine j_iadd C dX9_signs_117 ?_
                refine j_goto C 123 dX9_signs_118 (by decide) ?_
                cases hf
                exact ret _ _ dX9_signs_123 (fun h => by cases h)
              · refine j_iload C 5 dX9_signs_121 rfl ?_
                cases hf
                exact ret _ _ dX9_signs_123 (fun h => by cases h)
          clear hf
          have hf := h20
          clear h20
          refine j_if_eq C 91 dX9_signs_75 (by decide) hf (fun hf => ?_) (fun hf => ?_)
          · refine j_iconst C (v := 0) dX9_signs_91 (by decide) ?_
            cases hf
            refine j_sub [1, 2, 3, 4, 0] rfl ?_
            exact jj21
          · refine j_aload_n C 1 dX9_signs_78 rfl rfl ?_
            refine j_get C 26 iX9_signs_X9 h_0 rfl (by decide) mX9_signs_f85 rfl rfl dX9_signs_79 ?_
            refine j_iload_n C 2 dX9_signs_82 rfl rfl ?_
            refine j_iload_n C 3 dX9_signs_83 rfl rfl ?_
            obtain ⟨u22, h23, hf⟩ := bd hf
            refine j_cSI C [.int p1, .int p2] gX9_signs_X9_ringOf rfl hdX9_ringOf.2 ⟨⟨rfl, rfl⟩, Nat.le_of_ble_eq_true rfl, Nat.le_of_ble_eq_true rfl⟩ rfl (k_X9_ringOf h23) dX9_signs_84 rfl (Nat.le_of_ble_eq_true rfl) ?_
            refine j_iald C 0 h_25 rfl dX9_signs_87 hf (fun hf => ?_)
            refine j_goto C 92 dX9_signs_88 (by decide) ?_
            cases hf
            refine j_sub [1, 2, 3, 4, 0] rfl ?_
            exact jj21
        clear hf
        have hf := h14
        clear h14
        refine j_if_eq C 65 dX9_signs_57 (by decide) hf (fun hf => ?_) (fun hf => ?_)
        · refine j_iconst C (v := 0) dX9_signs_65 (by decide) ?_
          cases hf
          exact jj15
        · refine j_bipush C (v := 16) dX9_signs_60 (by decide) ?_
          refine j_goto C 66 dX9_signs_62 (by decide) ?_
          cases hf
          exact jj15
      clear hf
      have hf := h9
      clear h9
      refine j_if_eq C 49 dX9_signs_42 (by decide) hf (fun hf => ?_) (fun hf => ?_)
      · refine j_iconst C (v := 0) dX9_signs_49 (by decide) ?_
        cases hf
        exact jj10
      · refine j_iconst C (v := 2) dX9_signs_45 (by decide) ?_
        refine j_goto C 50 dX9_signs_46 (by decide) ?_
        cases hf
        exact jj10
    clear hf
    have hf := h6
    clear h6
    refine j_if_eq C 35 dX9_signs_28 (by decide) hf (fun hf => ?_) (fun hf => ?_)
    · refine j_iconst C (v := 0) dX9_signs_35 (by decide) ?_
      cases hf
      refine j_sub [1, 2, 3, 0] rfl ?_
      exact jj7
    · refine j_iconst C (v := 1) dX9_signs_31 (by decide) ?_
      refine j_goto C 36 dX9_signs_32 (by decide) ?_
      cases hf
      refine j_sub [1, 2, 3, 0] rfl ?_
      exact jj7
/-- BarrierLightsModel.crossing(II)I -/
def f_X9_crossing (p1 : Int32) (p2 : Int32) (K : Mem) : Option (Int32 × Mem) := st K 0 0 0 fun K1 => (f_X9_isCrossing p1 K1).bind fun u2 => if u2 = 0 then (some ((-1), K1)) else (if p2 = 0 then (if inb p1 2 = true then (some ((K1 6 (ix p1)), K1)) else none) else (if p2 = 1 then (if inb p1 2 = true then (if (K1 4 (ix p1)) = 0 then (if inb p1 2 = true then (if (K1 5 (ix p1)) = 0 then ((f_X9_inputOf p1 K1).bind fun u5 => if u5 < 0 then (if inb p1 2 = true then (if (K1 32 (ix p1)) < 0 then (some (1, K1)) else (some (2, K1))) else none) else (some (3, K1))) else (some (4, K1))) else none) else (some (0, K1))) else none) else (if p2 = 2 then (if inb p1 2 = true then (some ((K1 5 (ix p1)), K1)) else none) else (if p2 = 3 then (if inb p1 2 = true then (some ((K1 32 (ix p1)), K1)) else none) else (if p2 = 4 then (if inb p1 2 = true then (if 0 ≤ (K1 32 (ix p1)) then (if inb p1 2 = true then (some ((K1 35 (ix p1)), K1)) else none) else (some ((-1), K1))) else none) else (if p2 = 5 then (if inb (2 * p1) 4 = true then (some ((K1 20 (ix (2 * p1))), K1)) else none) else (if p2 = 6 then (if inb ((2 * p1) + 1) 4 = true then (some ((K1 20 (ix ((2 * p1) + 1))), K1)) else none) else (some ((-1), K1)))))))))
abbrev rmX9_crossing : Room := { frames := 1, cells := 0, slots := 0, locals := 22 }
theorem iX9_crossing_X9 : ∀ w ∈ u_ws RX9 TX9 37, w ∈ wsX9_crossing := fun _ h => List.mem_cons_of_mem _ (List.mem_append_right _ h)
theorem mX9_crossing_f118 : Cond.fieldLink RX9 118 "BarrierLightsModel" "code" "I" ∈ wsX9_crossing := by decide +kernel
theorem mX9_crossing_f27 : Cond.fieldLink RX9 27 "BarrierLightsModel" "side" "[I" ∈ wsX9_crossing := by decide +kernel
theorem mX9_crossing_f20 : Cond.fieldLink RX9 20 "BarrierLightsModel" "off" "[Z" ∈ wsX9_crossing := by decide +kernel
theorem mX9_crossing_f24 : Cond.fieldLink RX9 24 "BarrierLightsModel" "why" "[I" ∈ wsX9_crossing := by decide +kernel
theorem mX9_crossing_f106 : Cond.fieldLink RX9 106 "BarrierLightsModel" "plan" "[I" ∈ wsX9_crossing := by decide +kernel
theorem mX9_crossing_f115 : Cond.fieldLink RX9 115 "BarrierLightsModel" "local" "[I" ∈ wsX9_crossing := by decide +kernel
theorem mX9_crossing_f70 : Cond.fieldLink RX9 70 "BarrierLightsModel" "phase" "[I" ∈ wsX9_crossing := by decide +kernel
set_option maxRecDepth 100000 in
set_option maxHeartbeats 4000000 in
theorem k_X9_crossing {l : Launch} {D : va_G} {ad : Nat → Nat} {aI aZ aS aF : ClassId} {p1 : Int32} {p2 : Int32} {K : Mem} {u : Int32 × Mem} (hf : f_X9_crossing p1 p2 K = some u) : cI (EM l D ad aI aZ aS aF) yX9_crossing wsX9_crossing rmX9_crossing [.ref (ad 0), .int p1, .int p2] K u.1 u.2 := by
  rw [f_X9_crossing] at hf
  refine j_entI (cc := cX9_crossing) (maxL := 3) (EM_ok l D ad aI aZ aS aF) (Or.inl rfl) (by decide) rfl (Nat.le_of_ble_eq_true rfl) (fun G C ret => ?_)
  refine j_sub [0, 1, 2] (lv2 := [(0, .ref (ad 0)), (1, .int p1), (2, .int p2)]) rfl ?_
  refine j_aload_n C 0 dX9_crossing_0 rfl rfl ?_
  refine j_iconst C (v := 0) dX9_crossing_1 (by decide) ?_
  refine j_put C (ty := .int) 0 iX9_crossing_X9 tyX9 tyX9_ok nmX9 h_0 (t_0_0 _) rfl (by decide) mX9_crossing_f118 rfl rfl (by decide +kernel) rfl rfl (Nat.le_of_ble_eq_true rfl) dX9_crossing_2 hf (fun K1 hf => ?_)
  refine j_iload_n C 1 dX9_crossing_5 rfl rfl ?_
  obtain ⟨u2, h3, hf⟩ := bd hf
  refine j_cSI C [.int p1] gX9_crossing_X9_isCrossing rfl hdX9_isCrossing.2 ⟨⟨rfl, rfl⟩, Nat.le_of_ble_eq_true rfl, Nat.le_of_ble_eq_true rfl⟩ rfl (k_X9_isCrossing h3) dX9_crossing_6 rfl (Nat.le_of_ble_eq_true rfl) ?_
  refine j_if_ne C 14 dX9_crossing_9 (by decide) hf (fun hf => ?_) (fun hf => ?_)
  · refine j_iconst C (v := (-1)) dX9_crossing_12 (by decide) ?_
    cases hf
    exact ret _ _ dX9_crossing_13 (fun h => by cases h)
  · refine j_iload_n C 2 dX9_crossing_14 rfl rfl ?_
    refine j_case hf (fun c4 hf => ?_) (fun c4 hf => ?_)
    · refine j_tabIn C 56 dX9_crossing_15 (by rw [c4]; decide) (by rw [c4]; decide) (by rw [c4]; rfl) (by decide) ?_
      refine j_aload_n C 0 dX9_crossing_56 rfl rfl ?_
      refine j_get C 7 iX9_crossing_X9 h_0 rfl (by decide) mX9_crossing_f27 rfl rfl dX9_crossing_57 ?_
      refine j_iload_n C 1 dX9_crossing_60 rfl rfl ?_
      refine j_iald C 0 h_6 rfl dX9_crossing_61 hf (fun hf => ?_)
      cases hf
      exact ret _ _ dX9_crossing_62 (fun h => by cases h)
    refine j_case hf (fun c7 hf => ?_) (fun c7 hf => ?_)
    · refine j_tabIn C 63 dX9_crossing_15 (by rw [c7]; decide) (by rw [c7]; decide) (by rw [c7]; rfl) (by decide) ?_
      refine j_aload_n C 0 dX9_crossing_63 rfl rfl ?_
      refine j_get C 5 iX9_crossing_X9 h_0 rfl (by decide) mX9_crossing_f20 rfl rfl dX9_crossing_64 ?_
      refine j_iload_n C 1 dX9_crossing_67 rfl rfl ?_
      refine j_zald C 1 h_4 rfl dX9_crossing_68 hf (fun hf => ?_)
      refine j_if_eq C 76 dX9_crossing_69 (by decide) hf (fun hf => ?_) (fun hf => ?_)
      · refine j_aload_n C 0 dX9_crossing_76 rfl rfl ?_
        refine j_get C 6 iX9_crossing_X9 h_0 rfl (by decide) mX9_crossing_f24 rfl rfl dX9_crossing_77 ?_
        refine j_iload_n C 1 dX9_crossing_80 rfl rfl ?_
        refine j_iald C 0 h_5 rfl dX9_crossing_81 hf (fun hf => ?_)
        refine j_if_eq C 89 dX9_crossing_82 (by decide) hf (fun hf => ?_) (fun hf => ?_)
        · refine j_aload_n C 0 dX9_crossing_89 rfl rfl ?_
          refine j_iload_n C 1 dX9_crossing_90 rfl rfl ?_
          obtain ⟨u5, h6, hf⟩ := bd hf
          refine j_cVI C [.int p1] gX9_crossing_X9_inputOf rfl hdX9_inputOf ⟨⟨rfl, rfl⟩, Nat.le_of_ble_eq_true rfl, Nat.le_of_ble_eq_true rfl⟩ rfl h_0 rfl (k_X9_inputOf h6) dX9_crossing_91 rfl (Nat.le_of_ble_eq_true rfl) ?_
          refine j_if_lt C 101 dX9_crossing_94 (by decide) hf (fun hf => ?_) (fun hf => ?_)
          · refine j_aload_n C 0 dX9_crossing_101 rfl rfl ?_
            refine j_get C 33 iX9_crossing_X9 h_0 rfl (by decide) mX9_crossing_f106 rfl rfl dX9_crossing_102 ?_
            refine j_iload_n C 1 dX9_crossing_105 rfl rfl ?_
            refine j_iald C 0 h_32 rfl dX9_crossing_106 hf (fun hf => ?_)
            refine j_if_lt C 114 dX9_crossing_107 (by decide) hf (fun hf => ?_) (fun hf => ?_)
            · refine j_iconst C (v := 1) dX9_crossing_114 (by decide) ?_
              cases hf
              exact ret _ _ dX9_crossing_115 (fun h => by cases h)
            · refine j_iconst C (v := 2) dX9_crossing_110 (by decide) ?_
              refine j_goto C 115 dX9_crossing_111 (by decide) ?_
              cases hf
              exact ret _ _ dX9_crossing_115 (fun h => by cases h)
          · refine j_iconst C (v := 3) dX9_crossing_97 (by decide) ?_
            refine j_goto C 115 dX9_crossing_98 (by decide) ?_
            cases hf
            exact ret _ _ dX9_crossing_115 (fun h => by cases h)
        · refine j_iconst C (v := 4) dX9_crossing_85 (by decide) ?_
          refine j_goto C 115 dX9_crossing_86 (by decide) ?_
          cases hf
          exact ret _ _ dX9_crossing_115 (fun h => by cases h)
      · refine j_iconst C (v := 0) dX9_crossing_72 (by decide) ?_
        refine j_goto C 115 dX9_crossing_73 (by decide) ?_
        cases hf
        exact ret _ _ dX9_crossing_115 (fun h => by cases h)
    refine j_case hf (fun c8 hf => ?_) (fun c8 hf => ?_)
    · refine j_tabIn C 116 dX9_crossing_15 (by rw [c8]; decide) (by rw [c8]; decide) (by rw [c8]; rfl) (by decide) ?_
      refine j_aload_n C 0 dX9_crossing_116 rfl rfl ?_
      refine j_get C 6 iX9_crossing_X9 h_0 rfl (by decide) mX9_crossing_f24 rfl rfl dX9_crossing_117 ?_
      refine j_iload_n C 1 dX9_crossing_120 rfl rfl ?_
      refine j_iald C 0 h_5 rfl dX9_crossing_121 hf (fun hf => ?_)
      cases hf
      exact ret _ _ dX9_crossing_122 (fun h => by cases h)
    refine j_case hf (fun c9 hf => ?_) (fun c9 hf => ?_)
    · refine j_tabIn C 123 dX9_crossing_15 (by rw [c9]; decide) (by rw [c9]; decide) (by rw [c9]; rfl) (by decide) ?_
      refine j_aload_n C 0 dX9_crossing_123 rfl rfl ?_
      refine j_get C 33 iX9_crossing_X9 h_0 rfl (by decide) mX9_crossing_f106 rfl rfl dX9_crossing_124 ?_
      refine j_iload_n C 1 dX9_crossing_127 rfl rfl ?_
      refine j_iald C 0 h_32 rfl dX9_crossing_128 hf (fun hf => ?_)
      cases hf
      exact ret _ _ dX9_crossing_129 (fun h => by cases h)
    refine j_case hf (fun c10 hf => ?_) (fun c10 hf => ?_)
    · refine j_tabIn C 130 dX9_crossing_15 (by rw [c10]; decide) (by rw [c10]; decide) (by rw [c10]; rfl) (by decide) ?_
      refine j_aload_n C 0 dX9_crossing_130 rfl rfl ?_
      refine j_get C 33 iX9_crossing_X9 h_0 rfl (by decide) mX9_crossing_f106 rfl rfl dX9_crossing_131 ?_
      refine j_iload_n C 1 dX9_crossing_134 rfl rfl ?_
      refine j_iald C 0 h_32 rfl dX9_crossing_135 hf (fun hf => ?_)
      refine j_if_ge C 143 dX9_crossing_136 (by decide) hf (fun hf => ?_) (fun hf => ?_)
      · refine j_aload_n C 0 dX9_crossing_143 rfl rfl ?_
        refine j_get C 36 iX9_crossing_X9 h_0 rfl (by decide) mX9_crossing_f115 rfl rfl dX9_crossing_144 ?_
        refine j_iload_n C 1 dX9_crossing_147 rfl rfl ?_
        refine j_iald C 0 h_35 rfl dX9_crossing_148 hf (fun hf => ?_)
        cases hf
        exact ret _ _ dX9_crossing_149 (fun h => by cases h)
      · refine j_iconst C (v := (-1)) dX9_crossing_139 (by decide) ?_
        refine j_goto C 149 dX9_crossing_140 (by decide) ?_
        cases hf
        exact ret _ _ dX9_crossing_149 (fun h => by cases h)
    refine j_case hf (fun c11 hf => ?_) (fun c11 hf => ?_)
    · refine j_tabIn C 150 dX9_crossing_15 (by rw [c11]; decide) (by rw [c11]; decide) (by rw [c11]; rfl) (by decide) ?_
      refine j_aload_n C 0 dX9_crossing_150 rfl rfl ?_
      refine j_get C 21 iX9_crossing_X9 h_0 rfl (by decide) mX9_crossing_f70 rfl rfl dX9_crossing_151 ?_
      refine j_iconst C (v := 2) dX9_crossing_154 (by decide) ?_
      refine j_iload_n C 1 dX9_crossing_155 rfl rfl ?_
      refine j_imul C dX9_crossing_156 ?_
      refine j_iald C 0 h_20 rfl dX9_crossing_157 hf (fun hf => ?_)
      cases hf
      exact ret _ _ dX9_crossing_158 (fun h => by cases h)
    refine j_case hf (fun c12 hf => ?_) (fun c12 hf => ?_)
    · refine j_tabIn C 159 dX9_crossing_15 (by rw [c12]; decide) (by rw [c12]; decide) (by rw [c12]; rfl) (by decide) ?_
      refine j_aload_n C 0 dX9_crossing_159 rfl rfl ?_
      refine j_get C 21 iX9_crossing_X9 h_0 rfl (by decide) mX9_crossing_f70 rfl rfl dX9_crossing_160 ?_
      refine j_iconst C (v := 2) dX9_crossing_163 (by decide) ?_
      refine j_iload_n C 1 dX9_crossing_164 rfl rfl ?_
      refine j_imul C dX9_crossing_165 ?_
      refine j_iconst C (v := 1) dX9_crossing_166 (by decide) ?_
      refine j_iadd C dX9_crossing_167 ?_
      refine j_iald C 0 h_20 rfl dX9_crossing_168 hf (fun hf => ?_)
      cases hf
      exact ret _ _ dX9_crossing_169 (fun h => by cases h)
    refine j_tabOut C 170 dX9_crossing_15 (by have ec4 := lv_neT c4 (a := 0) (by decide); have ec7 := lv_neT c7 (a := 1) (by decide); have ec8 := lv_neT c8 (a := 2) (by decide); have ec9 := lv_neT c9 (a := 3) (by decide); have ec10 := lv_neT c10 (a := 4) (by decide); have ec11 := lv_neT c11 (a := 5) (by decide); have ec12 := lv_neT c12 (a := 6) (by decide); omega) (by decide) ?_
    refine j_iconst C (v := (-1)) dX9_crossing_170 (by decide) ?_
    cases hf
    exact ret _ _ dX9_crossing_171 (fun h => by cases h)
/-- BarrierLightsModel.occupancy(II)F -/
def f_X9_occupancy (p1 : Int32) (p2 : Int32) (K : Mem) : Option (UInt32 × Mem) := st K 0 0 0 fun K1 => (f_X9_isPhase p1 p2 K1).bind fun u2 => if u2 = 0 then (some (FP.fconst0, K1)) else (if inb ((8 * p1) + p2) 16 = true then (some (((K1 13 (ix ((8 * p1) + p2)))).toUInt32, K1)) else none)
abbrev rmX9_occupancy : Room := { frames := 2, cells := 0, slots := 0, locals := 41 }
theorem iX9_occupancy_X9 : ∀ w ∈ u_ws RX9 TX9 37, w ∈ wsX9_occupancy := fun _ h => List.mem_cons_of_mem _ (List.mem_append_right _ h)
theorem mX9_occupancy_f118 : Cond.fieldLink RX9 118 "BarrierLightsModel" "code" "I" ∈ wsX9_occupancy := by decide +kernel
theorem mX9_occupancy_f48 : Cond.fieldLink RX9 48 "BarrierLightsModel" "occupied" "[F" ∈ wsX9_occupancy := by decide +kernel
set_option maxRecDepth 100000 in
set_option maxHeartbeats 4000000 in
theorem k_X9_occupancy {l : Launch} {D : va_G} {ad : Nat → Nat} {aI aZ aS aF : ClassId} {p1 : Int32} {p2 : Int32} {K : Mem} {u : UInt32 × Mem} (hf : f_X9_occupancy p1 p2 K = some u) : cF (EM l D ad aI aZ aS aF) yX9_occupancy wsX9_occupancy rmX9_occupancy [.ref (ad 0), .int p1, .int p2] K u.1 u.2 := by
  rw [f_X9_occupancy] at hf
  refine j_entF (cc := cX9_occupancy) (maxL := 3) (EM_ok l D ad aI aZ aS aF) (by decide) rfl (Nat.le_of_ble_eq_true rfl) (fun G C ret => ?_)
  refine j_sub [0, 1, 2] (lv2 := [(0, .ref (ad 0)), (1, .int p1), (2, .int p2)]) rfl ?_
  refine j_aload_n C 0 dX9_occupancy_0 rfl rfl ?_
  refine j_iconst C (v := 0) dX9_occupancy_1 (by decide) ?_
  refine j_put C (ty := .int) 0 iX9_occupancy_X9 tyX9 tyX9_ok nmX9 h_0 (t_0_0 _) rfl (by decide) mX9_occupancy_f118 rfl rfl (by decide +kernel) rfl rfl (Nat.le_of_ble_eq_true rfl) dX9_occupancy_2 hf (fun K1 hf => ?_)
  refine j_iload_n C 1 dX9_occupancy_5 rfl rfl ?_
  refine j_iload_n C 2 dX9_occupancy_6 rfl rfl ?_
  obtain ⟨u2, h3, hf⟩ := bd hf
  refine j_cSI C [.int p1, .int p2] gX9_occupancy_X9_isPhase rfl hdX9_isPhase.2 ⟨⟨rfl, rfl⟩, Nat.le_of_ble_eq_true rfl, Nat.le_of_ble_eq_true rfl⟩ rfl (k_X9_isPhase h3) dX9_occupancy_7 rfl (Nat.le_of_ble_eq_true rfl) ?_
  refine j_if_eq C 27 dX9_occupancy_10 (by decide) hf (fun hf => ?_) (fun hf => ?_)
  · refine j_fconst0 C dX9_occupancy_27 ?_
    cases hf
    exact ret _ _ dX9_occupancy_28
  · refine j_aload_n C 0 dX9_occupancy_13 rfl rfl ?_
    refine j_get C 14 iX9_occupancy_X9 h_0 rfl (by decide) mX9_occupancy_f48 rfl rfl dX9_occupancy_14 ?_
    refine j_bipush C (v := 8) dX9_occupancy_17 (by decide) ?_
    refine j_iload_n C 1 dX9_occupancy_19 rfl rfl ?_
    refine j_imul C dX9_occupancy_20 ?_
    refine j_iload_n C 2 dX9_occupancy_21 rfl rfl ?_
    refine j_iadd C dX9_occupancy_22 ?_
    refine j_fald C 3 h_13 rfl dX9_occupancy_23 hf (fun hf => ?_)
    refine j_goto C 28 dX9_occupancy_24 (by decide) ?_
    cases hf
    exact ret _ _ dX9_occupancy_28
