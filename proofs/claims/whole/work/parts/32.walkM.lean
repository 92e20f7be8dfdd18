/-- BarrierLightsModel.cross(I)V -/
def f_X9_cross_L62 (c1 : Int32) (c2 : Int32) : Nat → Int32 → Mem → Option (Int32 × Mem)
  | 0, _, _ => none
  | n + 1, y3, K => if 2 ≤ y3 then (some (y3, K)) else (if inb c1 2 = true then (lt ((4 * y3) + (2 * (K 6 (ix c1)))) fun x11 => (f_X9_called c1 x11 K).bind fun u12 => (if u12 = 0 then ((f_X9_called c1 (x11 + 1) K).bind fun u17 => if u17 = 0 then (if inb ((8 * c1) + x11) 16 = true then (if (K 8 (ix ((8 * c1) + x11))) = 0 then (if inb (((8 * c1) + x11) + 1) 16 = true then (if (K 8 (ix (((8 * c1) + x11) + 1))) = 0 then (some K) else ((f_X9_begin c1 (x11 + 1) K).bind fun u19 => some u19)) else none) else ((f_X9_begin c1 x11 K).bind fun u21 => some u21)) else none) else ((f_X9_begin c1 (x11 + 1) K).bind fun u23 => some u23)) else ((f_X9_begin c1 x11 K).bind fun u25 => some u25) : Option (Mem)).bind fun v14 => lt (y3 + 1) fun x27 => f_X9_cross_L62 c1 c2 n x27 v14) else none)
def f_X9_cross (p1 : Int32) (K : Mem) : Option (Mem) := if inb p1 2 = true then ((f_X9_calledOn p1 (1 - (K 6 (ix p1))) K).bind fun u1 => lt u1 fun x3 => if x3 = 0 then (if inb p1 2 = true then ((f_X9_calledOn p1 (K 6 (ix p1)) K).bind fun u4 => if u4 = 0 then (some K) else ((if x3 = 0 then (if inb p1 2 = true then (some (K 6 (ix p1))) else none) else (if inb p1 2 = true then (some (1 - (K 6 (ix p1)))) else none) : Option (Int32)).bind fun v6 => if inb p1 2 = true then (st K 6 (ix p1) v6 fun K9 => lt 0 fun x10 => (f_X9_cross_L62 p1 x3 70 x10 K9).bind fun v28 => some v28.2) else none)) else none) else ((if x3 = 0 then (if inb p1 2 = true then (some (K 6 (ix p1))) else none) else (if inb p1 2 = true then (some (1 - (K 6 (ix p1)))) else none) : Option (Int32)).bind fun v30 => if inb p1 2 = true then (st K 6 (ix p1) v30 fun K33 => lt 0 fun x34 => (f_X9_cross_L62 p1 x3 70 x34 K33).bind fun v35 => some v35.2) else none)) else none
abbrev rmX9_cross : Room := { frames := 4, cells := 0, slots := 0, locals := 89 }
theorem iX9_cross_X9 : ∀ w ∈ u_ws RX9 TX9 37, w ∈ wsX9_cross := fun _ h => List.mem_cons_of_mem _ (List.mem_append_right _ h)
theorem mX9_cross_f27 : Cond.fieldLink RX9 27 "BarrierLightsModel" "side" "[I" ∈ wsX9_cross := by decide +kernel
theorem mX9_cross_f33 : Cond.fieldLink RX9 33 "BarrierLightsModel" "used" "[Z" ∈ wsX9_cross := by decide +kernel
set_option maxRecDepth 100000 in
set_option maxHeartbeats 4000000 in
theorem lp_X9_cross_L62 {l : Launch} {D : va_G} {ad : Nat → Nat} {aI aZ aS aF : ClassId} {G : jG} {c1 : Int32} {c2 : Int32} (C : jC (EM l D ad aI aZ aS aF) G cX9_cross yX9_cross.cls wsX9_cross rmX9_cross 5) : ∀ (n : Nat) (y3 : Int32) (K : Mem) (v : Int32 × Mem), f_X9_cross_L62 c1 c2 n y3 K = some v → jW (EM l D ad aI aZ aS aF) G v.2 182 [(0, .ref (ad 0)), (1, .int c1), (2, .int c2), (3, .int v.1)] [] → jW (EM l D ad aI aZ aS aF) G K 62 [(0, .ref (ad 0)), (1, .int c1), (2, .int c2), (3, .int y3)] [] := by
  intro n
  induction n with
  | zero =>
    intro y3 K v hf jj
    rw [f_X9_cross_L62] at hf
    cases hf
  | succ n ih =>
    intro y3 K v hf jj
    rw [f_X9_cross_L62] at hf
    refine j_iload_n C 3 dX9_cross_62 rfl rfl ?_
    refine j_iconst C (v := 2) dX9_cross_63 (by decide) ?_
    refine j_icmp_ge C 182 dX9_cross_64 (by decide) hf (fun hf => ?_) (fun hf => ?_)
    · cases hf
      exact jj
    · refine j_iconst C (v := 4) dX9_cross_67 (by decide) ?_
      refine j_iload_n C 3 dX9_cross_68 rfl rfl ?_
      refine j_imul C dX9_cross_69 ?_
      refine j_iconst C (v := 2) dX9_cross_70 (by decide) ?_
      refine j_aload_n C 0 dX9_cross_71 rfl rfl ?_
      refine j_get C 7 iX9_cross_X9 h_0 rfl (by decide) mX9_cross_f27 rfl rfl dX9_cross_72 ?_
      refine j_iload_n C 1 dX9_cross_75 rfl rfl ?_
      refine j_iald C 0 h_6 rfl dX9_cross_76 hf (fun hf => ?_)
      refine j_imul C dX9_cross_77 ?_
      refine j_iadd C dX9_cross_78 ?_
      refine j_istore C (fun y => [(4, .int y), (0, .ref (ad 0)), (1, .int c1), (2, .int c2), (3, .int y3)]) dX9_cross_79 (by decide) (fun _ => rfl) hf (fun x11 hf => ?_)
      refine j_aload_n C 1 dX9_cross_81 rfl rfl ?_
      refine j_iload_n C 2 dX9_cross_82 rfl rfl ?_
      refine j_iload C 0 dX9_cross_83 rfl ?_
      obtain ⟨u12, h13, hf⟩ := bd hf
      refine j_cVI C [.int c1, .int x11] gX9_cross_X9_called rfl hdX9_called ⟨⟨rfl, rfl⟩, Nat.le_of_ble_eq_true rfl, Nat.le_of_ble_eq_true rfl⟩ rfl h_0 rfl (k_X9_called h13) dX9_cross_85 rfl (Nat.le_of_ble_eq_true rfl) ?_
      obtain ⟨v14, h15, hf⟩ := bd hf
      have jj16 : jW (EM l D ad aI aZ aS aF) G v14 176 [(0, .ref (ad 0)), (1, .int c1), (2, .int c2), (3, .int y3), (4, .int x11)] [] := by
        refine j_iinc C (v := (y3 + 1)) 3 (fun y => [(3, .int y), (0, .ref (ad 0)), (1, .int c1), (2, .int c2), (4, .int x11)]) dX9_cross_176 rfl rfl (by decide) (fun _ => rfl) hf (fun x27 hf => ?_)
        refine j_goto C 62 dX9_cross_179 (by decide) ?_
        refine j_sub [1, 2, 3, 0] rfl ?_
        exact ih _ _ _ hf jj
      clear hf
      have hf := h15
      clear h15
      refine j_if_eq C 101 dX9_cross_88 (by decide) hf (fun hf => ?_) (fun hf => ?_)
      · refine j_aload_n C 1 dX9_cross_101 rfl rfl ?_
        refine j_iload_n C 2 dX9_cross_102 rfl rfl ?_
        refine j_iload C 0 dX9_cross_103 rfl ?_
        refine j_iconst C (v := 1) dX9_cross_105 (by decide) ?_
        refine j_iadd C dX9_cross_106 ?_
        obtain ⟨u17, h18, hf⟩ := bd hf
        refine j_cVI C [.int c1, .int ((x11 + 1))] gX9_cross_X9_called rfl hdX9_called ⟨⟨rfl, rfl⟩, Nat.le_of_ble_eq_true rfl, Nat.le_of_ble_eq_true rfl⟩ rfl h_0 rfl (k_X9_called h18) dX9_cross_107 rfl (Nat.le_of_ble_eq_true rfl) ?_
        refine j_if_eq C 125 dX9_cross_110 (by decide) hf (fun hf => ?_) (fun hf => ?_)
        · refine j_aload_n C 1 dX9_cross_125 rfl rfl ?_
          refine j_get C 9 iX9_cross_X9 h_0 rfl (by decide) mX9_cross_f33 rfl rfl dX9_cross_126 ?_
          refine j_bipush C (v := 8) dX9_cross_129 (by decide) ?_
          refine j_iload_n C 2 dX9_cross_131 rfl rfl ?_
          refine j_imul C dX9_cross_132 ?_
          refine j_iload C 0 dX9_cross_133 rfl ?_
          refine j_iadd C dX9_cross_135 ?_
          refine j_zald C 1 h_8 rfl dX9_cross_136 hf (fun hf => ?_)
          refine j_if_eq C 150 dX9_cross_137 (by decide) hf (fun hf => ?_) (fun hf => ?_)
          · refine j_aload_n C 1 dX9_cross_150 rfl rfl ?_
            refine j_get C 9 iX9_cross_X9 h_0 rfl (by decide) mX9_cross_f33 rfl rfl dX9_cross_151 ?_
            refine j_bipush C (v := 8) dX9_cross_154 (by decide) ?_
            refine j_iload_n C 2 dX9_cross_156 rfl rfl ?_
            refine j_imul C dX9_cross_157 ?_
            refine j_iload C 0 dX9_cross_158 rfl ?_
            refine j_iadd C dX9_cross_160 ?_
            refine j_iconst C (v := 1) dX9_cross_161 (by decide) ?_
            refine j_iadd C dX9_cross_162 ?_
            refine j_zald C 1 h_8 rfl dX9_cross_163 hf (fun hf => ?_)
            refine j_if_eq C 176 dX9_cross_164 (by decide) hf (fun hf => ?_) (fun hf => ?_)
            · cases hf
              refine j_sub [1, 2, 3, 4, 0] rfl ?_
              exact jj16
            · refine j_aload_n C 1 dX9_cross_167 rfl rfl ?_
              refine j_iload_n C 2 dX9_cross_168 rfl rfl ?_
              refine j_iload C 0 dX9_cross_169 rfl ?_
              refine j_iconst C (v := 1) dX9_cross_171 (by decide) ?_
              refine j_iadd C dX9_cross_172 ?_
              obtain ⟨u19, h20, hf⟩ := bd hf
              refine j_cVV C [.int c1, .int ((x11 + 1))] gX9_cross_X9_begin rfl hdX9_begin ⟨⟨rfl, rfl⟩, Nat.le_of_ble_eq_true rfl, Nat.le_of_ble_eq_true rfl⟩ rfl h_0 rfl (k_X9_begin h20) dX9_cross_173 rfl (Nat.le_of_ble_eq_true rfl) ?_
              cases hf
              refine j_sub [1, 2, 3, 4, 0] rfl ?_
              exact jj16
          · refine j_aload_n C 1 dX9_cross_140 rfl rfl ?_
            refine j_iload_n C 2 dX9_cross_141 rfl rfl ?_
            refine j_iload C 0 dX9_cross_142 rfl ?_
            obtain ⟨u21, h22, hf⟩ := bd hf
            refine j_cVV C [.int c1, .int x11] gX9_cross_X9_begin rfl hdX9_begin ⟨⟨rfl, rfl⟩, Nat.le_of_ble_eq_true rfl, Nat.le_of_ble_eq_true rfl⟩ rfl h_0 rfl (k_X9_begin h22) dX9_cross_144 rfl (Nat.le_of_ble_eq_true rfl) ?_
            refine j_goto C 176 dX9_cross_147 (by decide) ?_
            cases hf
            refine j_sub [1, 2, 3, 4, 0] rfl ?_
            exact jj16
        · refine j_aload_n C 1 dX9_cross_113 rfl rfl ?_
          refine j_iload_n C 2 dX9_cross_114 rfl rfl ?_
          refine j_iload C 0 dX9_cross_115 rfl ?_
          refine j_iconst C (v := 1) dX9_cross_117 (by decide) ?_
          refine j_iadd C dX9_cross_118 ?_
          obtain ⟨u23, h24, hf⟩ := bd hf
          refine j_cVV C [.int c1, .int ((x11 + 1))] gX9_cross_X9_begin rfl hdX9_begin ⟨⟨rfl, rfl⟩, Nat.le_of_ble_eq_true rfl, Nat.le_of_ble_eq_true rfl⟩ rfl h_0 rfl (k_X9_begin h24) dX9_cross_119 rfl (Nat.le_of_ble_eq_true rfl) ?_
          refine j_goto C 176 dX9_cross_122 (by decide) ?_
          cases hf
          refine j_sub [1, 2, 3, 4, 0] rfl ?_
          exact jj16
      · refine j_aload_n C 1 dX9_cross_91 rfl rfl ?_
        refine j_iload_n C 2 dX9_cross_92 rfl rfl ?_
        refine j_iload C 0 dX9_cross_93 rfl ?_
        obtain ⟨u25, h26, hf⟩ := bd hf
        refine j_cVV C [.int c1, .int x11] gX9_cross_X9_begin rfl hdX9_begin ⟨⟨rfl, rfl⟩, Nat.le_of_ble_eq_true rfl, Nat.le_of_ble_eq_true rfl⟩ rfl h_0 rfl (k_X9_begin h26) dX9_cross_95 rfl (Nat.le_of_ble_eq_true rfl) ?_
        refine j_goto C 176 dX9_cross_98 (by decide) ?_
        cases hf
        refine j_sub [1, 2, 3, 4, 0] rfl ?_
        exact jj16
set_option maxRecDepth 100000 in
set_option maxHeartbeats 4000000 in
theorem k_X9_cross {l : Launch} {D : va_G} {ad : Nat → Nat} {aI aZ aS aF : ClassId} {p1 : Int32} {K : Mem} {u : Mem} (hf : f_X9_cross p1 K = some u) : cV (EM l D ad aI aZ aS aF) yX9_cross wsX9_cross rmX9_cross [.ref (ad 0), .int p1] K u := by
  rw [f_X9_cross] at hf
  refine j_entV (cc := cX9_cross) (maxL := 5) (EM_ok l D ad aI aZ aS aF) (by decide) rfl (Nat.le_of_ble_eq_true rfl) (fun G C ret => ?_)
  refine j_sub [0, 1] (lv2 := [(0, .ref (ad 0)), (1, .int p1)]) rfl ?_
  refine j_aload_n C 0 dX9_cross_0 rfl rfl ?_
  refine j_iload_n C 1 dX9_cross_1 rfl rfl ?_
  refine j_iconst C (v := 1) dX9_cross_2 (by decide) ?_
  refine j_aload_n C 0 dX9_cross_3 rfl rfl ?_
  refine j_get C 7 iX9_cross_X9 h_0 rfl (by decide) mX9_cross_f27 rfl rfl dX9_cross_4 ?_
  refine j_iload_n C 1 dX9_cross_7 rfl rfl ?_
  refine j_iald C 0 h_6 rfl dX9_cross_8 hf (fun hf => ?_)
  refine j_isub C dX9_cross_9 ?_
  obtain ⟨u1, h2, hf⟩ := bd hf
  refine j_cVI C [.int p1, .int ((1 - (K 6 (ix p1))))] gX9_cross_X9_calledOn rfl hdX9_calledOn ⟨⟨rfl, rfl⟩, Nat.le_of_ble_eq_true rfl, Nat.le_of_ble_eq_true rfl⟩ rfl h_0 rfl (k_X9_calledOn h2) dX9_cross_10 rfl (Nat.le_of_ble_eq_true rfl) ?_
  refine j_istore_n C (fun y => [(2, .int y), (0, .ref (ad 0)), (1, .int p1)]) dX9_cross_13 rfl (by decide) (fun _ => rfl) hf (fun x3 hf => ?_)
  refine j_iload_n C 0 dX9_cross_14 rfl rfl ?_
  refine j_if_ne C 33 dX9_cross_15 (by decide) hf (fun hf => ?_) (fun hf => ?_)
  · refine j_aload_n C 1 dX9_cross_18 rfl rfl ?_
    refine j_iload_n C 2 dX9_cross_19 rfl rfl ?_
    refine j_aload_n C 1 dX9_cross_20 rfl rfl ?_
    refine j_get C 7 iX9_cross_X9 h_0 rfl (by decide) mX9_cross_f27 rfl rfl dX9_cross_21 ?_
    refine j_iload_n C 2 dX9_cross_24 rfl rfl ?_
    refine j_iald C 0 h_6 rfl dX9_cross_25 hf (fun hf => ?_)
    obtain ⟨u4, h5, hf⟩ := bd hf
    refine j_cVI C [.int p1, .int ((K 6 (ix p1)))] gX9_cross_X9_calledOn rfl hdX9_calledOn ⟨⟨rfl, rfl⟩, Nat.le_of_ble_eq_true rfl, Nat.le_of_ble_eq_true rfl⟩ rfl h_0 rfl (k_X9_calledOn h5) dX9_cross_26 rfl (Nat.le_of_ble_eq_true rfl) ?_
    refine j_if_ne C 33 dX9_cross_29 (by decide) hf (fun hf => ?_) (fun hf => ?_)
    · cases hf
      exact ret _ _ dX9_cross_32
    · refine j_aload_n C 1 dX9_cross_33 rfl rfl ?_
      refine j_get C 7 iX9_cross_X9 h_0 rfl (by decide) mX9_cross_f27 rfl rfl dX9_cross_34 ?_
      refine j_iload_n C 2 dX9_cross_37 rfl rfl ?_
      refine j_iload_n C 0 dX9_cross_38 rfl rfl ?_
      obtain ⟨v6, h7, hf⟩ := bd hf
      have jj8 : jW (EM l D ad aI aZ aS aF) G K 59 [(0, .ref (ad 0)), (1, .int p1), (2, .int x3)] [.int v6, .int p1, .ref (ad 6)] := by
        refine j_iast C 0 h_6 (t_6 _ _) rfl dX9_cross_59 hf (fun K9 hf => ?_)
        refine j_iconst C (v := 0) dX9_cross_60 (by decide) ?_
        refine j_istore_n C (fun y => [(3, .int y), (0, .ref (ad 0)), (1, .int p1), (2, .int x3)]) dX9_cross_61 rfl (by decide) (fun _ => rfl) hf (fun x10 hf => ?_)
        obtain ⟨v28, h29, hf⟩ := bd hf
        refine j_sub [1, 2, 3, 0] (lv2 := [(0, .ref (ad 0)), (1, .int p1), (2, .int x3), (3, .int x10)]) rfl ?_
        refine lp_X9_cross_L62 C 70 _ _ _ h29 ?_
        cases hf
        exact ret _ _ dX9_cross_182
      clear hf
      have hf := h7
      clear h7
      refine j_if_eq C 53 dX9_cross_39 (by decide) hf (fun hf => ?_) (fun hf => ?_)
      · refine j_aload_n C 1 dX9_cross_53 rfl rfl ?_
        refine j_get C 7 iX9_cross_X9 h_0 rfl (by decide) mX9_cross_f27 rfl rfl dX9_cross_54 ?_
        refine j_iload_n C 2 dX9_cross_57 rfl rfl ?_
        refine j_iald C 0 h_6 rfl dX9_cross_58 hf (fun hf => ?_)
        cases hf
        refine j_sub [1, 2, 0] rfl ?_
        exact jj8
      · refine j_iconst C (v := 1) dX9_cross_42 (by decide) ?_
        refine j_aload_n C 1 dX9_cross_43 rfl rfl ?_
        refine j_get C 7 iX9_cross_X9 h_0 rfl (by decide) mX9_cross_f27 rfl rfl dX9_cross_44 ?_
        refine j_iload_n C 2 dX9_cross_47 rfl rfl ?_
        refine j_iald C 0 h_6 rfl dX9_cross_48 hf (fun hf => ?_)
        refine j_isub C dX9_cross_49 ?_
        refine j_goto C 59 dX9_cross_50 (by decide) ?_
        cases hf
        refine j_sub [1, 2, 0] rfl ?_
        exact jj8
  · refine j_aload_n C 1 dX9_cross_33 rfl rfl ?_
    refine j_get C 7 iX9_cross_X9 h_0 rfl (by decide) mX9_cross_f27 rfl rfl dX9_cross_34 ?_
    refine j_iload_n C 2 dX9_cross_37 rfl rfl ?_
    refine j_iload_n C 0 dX9_cross_38 rfl rfl ?_
    obtain ⟨v30, h31, hf⟩ := bd hf
    have jj32 : jW (EM l D ad aI aZ aS aF) G K 59 [(0, .ref (ad 0)), (1, .int p1), (2, .int x3)] [.int v30, .int p1, .ref (ad 6)] := by
      refine j_iast C 0 h_6 (t_6 _ _) rfl dX9_cross_59 hf (fun K33 hf => ?_)
      refine j_iconst C (v := 0) dX9_cross_60 (by decide) ?_
      refine j_istore_n C (fun y => [(3, .int y), (0, .ref (ad 0)), (1, .int p1), (2, .int x3)]) dX9_cross_61 rfl (by decide) (fun _ => rfl) hf (fun x34 hf => ?_)
      obtain ⟨v35, h36, hf⟩ := bd hf
      refine j_sub [1, 2, 3, 0] (lv2 := [(0, .ref (ad 0)), (1, .int p1), (2, .int x3), (3, .int x34)]) rfl ?_
      refine lp_X9_cross_L62 C 70 _ _ _ h36 ?_
      cases hf
      exact ret _ _ dX9_cross_182
    clear hf
    have hf := h31
    clear h31
    refine j_if_eq C 53 dX9_cross_39 (by decide) hf (fun hf => ?_) (fun hf => ?_)
    · refine j_aload_n C 1 dX9_cross_53 rfl rfl ?_
      refine j_get C 7 iX9_cross_X9 h_0 rfl (by decide) mX9_cross_f27 rfl rfl dX9_cross_54 ?_
      refine j_iload_n C 2 dX9_cross_57 rfl rfl ?_
      refine j_iald C 0 h_6 rfl dX9_cross_58 hf (fun hf => ?_)
      cases hf
      refine j_sub [1, 2, 0] rfl ?_
      exact jj32
    · refine j_iconst C (v := 1) dX9_cross_42 (by decide) ?_
      refine j_aload_n C 1 dX9_cross_43 rfl rfl ?_
      refine j_get C 7 iX9_cross_X9 h_0 rfl (by decide) mX9_cross_f27 rfl rfl dX9_cross_44 ?_
      refine j_iload_n C 2 dX9_cross_47 rfl rfl ?_
      refine j_iald C 0 h_6 rfl dX9_cross_48 hf (fun hf => ?_)
      refine j_isub C dX9_cross_49 ?_
      refine j_goto C 59 dX9_cross_50 (by decide) ?_
      cases hf
      refine j_sub [1, 2, 0] rfl ?_
      exact jj32
/-- BarrierLightsModel.actPlain(I)V -/
def f_X9_actPlain_L4 (c1 : Int32) : Nat → Int32 → Mem → Option (Int32 × Mem)
  | 0, _, _ => none
  | n + 1, y2, K => if ((2 * c1) + 2) ≤ y2 then (some (y2, K)) else (if inb y2 4 = true then ((if (K 19 (ix y2)) = 1 then (if inb y2 4 = true then (if inb ((8 * c1) + (K 20 (ix y2))) 16 = true then (if (K 10 (ix ((8 * c1) + (K 20 (ix y2))))) = 0 then (some K) else (if inb y2 4 = true then (if (K 25 (ix y2)) = 0 then ((f_X9_wanted c1 y2 K).bind fun u5 => if u5 = 0 then ((f_X9_beginWalk c1 y2 K).bind fun u7 => some u7) else (some K)) else (some K)) else none)) else none) else none) else (some K) : Option (Mem)).bind fun v2 => lt (y2 + 1) fun x9 => f_X9_actPlain_L4 c1 n x9 v2) else none)
def f_X9_actPlain_L76 (c1 : Int32) : Nat → Int32 → Mem → Option (Int32 × Mem)
  | 0, _, _ => none
  | n + 1, y2, K => if ((2 * c1) + 2) ≤ y2 then (some (y2, K)) else ((f_X9_plainDone c1 y2 K).bind fun u13 => (if u13 = 0 then (some K) else ((f_X9_forward c1 y2 K).bind fun u18 => if u18 = (-1) then (some K) else ((f_X9_forward c1 y2 K).bind fun u20 => (f_X9_yellow y2 u20 K).bind fun u22 => some u22)) : Option (Mem)).bind fun v15 => lt (y2 + 1) fun x24 => f_X9_actPlain_L76 c1 n x24 v15)
def f_X9_actPlain (p1 : Int32) (K : Mem) : Option (Mem) := lt (2 * p1) fun x1 => (f_X9_actPlain_L4 p1 70 x1 K).bind fun v10 => lt (2 * p1) fun x12 => (f_X9_actPlain_L76 p1 70 x12 v10.2).bind fun v25 => (f_X9_isEarly p1 v25.2).bind fun u27 => (if u27 = 0 then ((f_X9_empty p1 (-1) v25.2).bind fun u32 => some u32) else (if inb p1 2 = true then (if (v25.2 6 (ix p1)) = 0 then (some v25.2) else ((f_X9_empty p1 (-1) v25.2).bind fun u34 => some u34)) else none) : Option (Mem)).bind fun v29 => (f_X9_bothWait p1 v29).bind fun u36 => if u36 = 0 then (some v29) else ((f_X9_cross p1 v29).bind fun u38 => some u38)
abbrev rmX9_actPlain : Room := { frames := 8, cells := 0, slots := 0, locals := 182 }
theorem iX9_actPlain_X9 : ∀ w ∈ u_ws RX9 TX9 37, w ∈ wsX9_actPlain := fun _ h => List.mem_cons_of_mem _ (List.mem_append_right _ h)
theorem mX9_actPlain_f67 : Cond.fieldLink RX9 67 "BarrierLightsModel" "state" "[I" ∈ wsX9_actPlain := by decide +kernel
theorem mX9_actPlain_f39 : Cond.fieldLink RX9 39 "BarrierLightsModel" "walkCalls" "[Z" ∈ wsX9_actPlain := by decide +kernel
theorem mX9_actPlain_f70 : Cond.fieldLink RX9 70 "BarrierLightsModel" "phase" "[I" ∈ wsX9_actPlain := by decide +kernel
theorem mX9_actPlain_f85 : Cond.fieldLink RX9 85 "BarrierLightsModel" "walker" "[I" ∈ wsX9_actPlain := by decide +kernel
theorem hdX9_empty : yX9_empty.cls = RX9 ∧ yX9_empty.cls ≠ "java/lang/invoke/MethodHandle" ∧ yX9_empty.cls ≠ "java/lang/invoke/VarHandle" ∧ (parseMethodDescriptor yX9_empty.desc).map (fun d => d.parameters.length) = some 2 := by decide +kernel
theorem mX9_actPlain_f27 : Cond.fieldLink RX9 27 "BarrierLightsModel" "side" "[I" ∈ wsX9_actPlain := by decide +kernel
theorem hdX9_bothWait : yX9_bothWait.cls = RX9 ∧ yX9_bothWait.cls ≠ "java/lang/invoke/MethodHandle" ∧ yX9_bothWait.cls ≠ "java/lang/invoke/VarHandle" ∧ (parseMethodDescriptor yX9_bothWait.desc).map (fun d => d.parameters.length) = some 1 := by decide +kernel
theorem hdX9_cross : yX9_cross.cls = RX9 ∧ yX9_cross.cls ≠ "java/lang/invoke/MethodHandle" ∧ yX9_cross.cls ≠ "java/lang/invoke/VarHandle" ∧ (parseMethodDescriptor yX9_cross.desc).map (fun d => d.parameters.length) = some 1 := by decide +kernel
set_option maxRecDepth 100000 in
set_option maxHeartbeats 4000000 in
theorem lp_X9_actPlain_L4 {l : Launch} {D : va_G} {ad : Nat → Nat} {aI aZ aS aF : ClassId} {G : jG} {c1 : Int32} (C : jC (EM l D ad aI aZ aS aF) G cX9_actPlain yX9_actPlain.cls wsX9_actPlain rmX9_actPlain 3) : ∀ (n : Nat) (y2 : Int32) (K : Mem) (v : Int32 × Mem), f_X9_actPlain_L4 c1 n y2 K = some v → jW (EM l D ad aI aZ aS aF) G v.2 72 [(0, .ref (ad 0)), (1, .int c1), (2, .int v.1)] [] → jW (EM l D ad aI aZ aS aF) G K 4 [(0, .ref (ad 0)), (1, .int c1), (2, .int y2)] [] := by
  intro n
  induction n with
  | zero =>
    intro y2 K v hf jj
    rw [f_X9_actPlain_L4] at hf
    cases hf
  | succ n ih =>
    intro y2 K v hf jj
    rw [f_X9_actPlain_L4] at hf
    refine j_iload_n C 2 dX9_actPlain_4 rfl rfl ?_
    refine j_iconst C (v := 2) dX9_actPlain_5 (by decide) ?_
    refine j_iload_n C 1 dX9_actPlain_6 rfl rfl ?_
    refine j_imul C dX9_actPlain_7 ?_
    refine j_iconst C (v := 2) dX9_actPlain_8 (by decide) ?_
    refine j_iadd C dX9_actPlain_9 ?_
    refine j_icmp_ge C 72 dX9_actPlain_10 (by decide) hf (fun hf => ?_) (fun hf => ?_)
    · cases hf
      exact jj
    · refine j_aload_n C 0 dX9_actPlain_13 rfl rfl ?_
      refine j_get C 20 iX9_actPlain_X9 h_0 rfl (by decide) mX9_actPlain_f67 rfl rfl dX9_actPlain_14 ?_
      refine j_iload_n C 2 dX9_actPlain_17 rfl rfl ?_
      refine j_iald C 0 h_19 rfl dX9_actPlain_18 hf (fun hf => ?_)
      refine j_iconst C (v := 1) dX9_actPlain_19 (by decide) ?_
      obtain ⟨v2, h3, hf⟩ := bd hf
      have jj4 : jW (EM l D ad aI aZ aS aF) G v2 66 [(0, .ref (ad 0)), (1, .int c1), (2, .int y2)] [] := by
        refine j_iinc C (v := (y2 + 1)) 2 (fun y => [(2, .int y), (0, .ref (ad 0)), (1, .int c1)]) dX9_actPlain_66 rfl rfl (by decide) (fun _ => rfl) hf (fun x9 hf => ?_)
        refine j_goto C 4 dX9_actPlain_69 (by decide) ?_
        refine j_sub [1, 2, 0] rfl ?_
        exact ih _ _ _ hf jj
      clear hf
      have hf := h3
      clear h3
      refine j_icmp_ne C 66 dX9_actPlain_20 (by decide) hf (fun hf => ?_) (fun hf => ?_)
      · refine j_aload_n C 0 dX9_actPlain_23 rfl rfl ?_
        refine j_get C 11 iX9_actPlain_X9 h_0 rfl (by decide) mX9_actPlain_f39 rfl rfl dX9_actPlain_24 ?_
        refine j_bipush C (v := 8) dX9_actPlain_27 (by decide) ?_
        refine j_iload_n C 1 dX9_actPlain_29 rfl rfl ?_
        refine j_imul C dX9_actPlain_30 ?_
        refine j_aload_n C 0 dX9_actPlain_31 rfl rfl ?_
        refine j_get C 21 iX9_actPlain_X9 h_0 rfl (by decide) mX9_actPlain_f70 rfl rfl dX9_actPlain_32 ?_
        refine j_iload_n C 2 dX9_actPlain_35 rfl rfl ?_
        refine j_iald C 0 h_20 rfl dX9_actPlain_36 hf (fun hf => ?_)
        refine j_iadd C dX9_actPlain_37 ?_
        refine j_zald C 1 h_10 rfl dX9_actPlain_38 hf (fun hf => ?_)
        refine j_if_eq C 66 dX9_actPlain_39 (by decide) hf (fun hf => ?_) (fun hf => ?_)
        · cases hf
          exact jj4
        · refine j_aload_n C 0 dX9_actPlain_42 rfl rfl ?_
          refine j_get C 26 iX9_actPlain_X9 h_0 rfl (by decide) mX9_actPlain_f85 rfl rfl dX9_actPlain_43 ?_
          refine j_iload_n C 2 dX9_actPlain_46 rfl rfl ?_
          refine j_iald C 0 h_25 rfl dX9_actPlain_47 hf (fun hf => ?_)
          refine j_if_ne C 66 dX9_actPlain_48 (by decide) hf (fun hf => ?_) (fun hf => ?_)
          · refine j_aload_n C 0 dX9_actPlain_51 rfl rfl ?_
            refine j_iload_n C 1 dX9_actPlain_52 rfl rfl ?_
            refine j_iload_n C 2 dX9_actPlain_53 rfl rfl ?_
            obtain ⟨u5, h6, hf⟩ := bd hf
            refine j_cVI C [.int c1, .int y2] gX9_actPlain_X9_wanted rfl hdX9_wanted ⟨⟨rfl, rfl⟩, Nat.le_of_ble_eq_true rfl, Nat.le_of_ble_eq_true rfl⟩ rfl h_0 rfl (k_X9_wanted h6) dX9_actPlain_54 rfl (Nat.le_of_ble_eq_true rfl) ?_
            refine j_if_ne C 66 dX9_actPlain_57 (by decide) hf (fun hf => ?_) (fun hf => ?_)
            · refine j_aload_n C 0 dX9_actPlain_60 rfl rfl ?_
              refine j_iload_n C 1 dX9_actPlain_61 rfl rfl ?_
              refine j_iload_n C 2 dX9_actPlain_62 rfl rfl ?_
              obtain ⟨u7, h8, hf⟩ := bd hf
              refine j_cVV C [.int c1, .int y2] gX9_actPlain_X9_beginWalk rfl hdX9_beginWalk ⟨⟨rfl, rfl⟩, Nat.le_of_ble_eq_true rfl, Nat.le_of_ble_eq_true rfl⟩ rfl h_0 rfl (k_X9_beginWalk h8) dX9_actPlain_63 rfl (Nat.le_of_ble_eq_true rfl) ?_
              cases hf
              exact jj4
            · cases hf
              exact jj4
          · cases hf
            exact jj4
      · cases hf
        exact jj4
set_option maxRecDepth 100000 in
set_option maxHeartbeats 4000000 in
theorem lp_X9_actPlain_L76 {l : Launch} {D : va_G} {ad : Nat → Nat} {aI aZ aS aF : ClassId} {G : jG} {c1 : Int32} (C : jC (EM l D ad aI aZ aS aF) G cX9_actPlain yX9_actPlain.cls wsX9_actPlain rmX9_actPlain 3) : ∀ (n : Nat) (y2 : Int32) (K : Mem) (v : Int32 × Mem), f_X9_actPlain_L76 c1 n y2 K = some v → jW (EM l D ad aI aZ aS aF) G v.2 121 [(0, .ref (ad 0)), (1, .int c1), (2, .int v.1)] [] → jW (EM l D ad aI aZ aS aF) G K 76 [(0, .ref (ad 0)), (1, .int c1), (2, .int y2)] [] := by
  intro n
  induction n with
  | zero =>
    intro y2 K v hf jj
    rw [f_X9_actPlain_L76] at hf
    cases hf
  | succ n ih =>
    intro y2 K v hf jj
    rw [f_X9_actPlain_L76] at hf
    refine j_iload_n C 2 dX9_actPlain_76 rfl rfl ?_
    refine j_iconst C (v := 2) dX9_actPlain_77 (by decide) ?_
    refine j_iload_n C 1 dX9_actPlain_78 rfl rfl ?_
    refine j_imul C dX9_actPlain_79 ?_
    refine j_iconst C (v := 2) dX9_actPlain_80 (by decide) ?_
    refine j_iadd C dX9_actPlain_81 ?_
    refine j_icmp_ge C 121 dX9_actPlain_82 (by decide) hf (fun hf => ?_) (fun hf => ?_)
    · cases hf
      exact jj
    · refine j_aload_n C 0 dX9_actPlain_85 rfl rfl ?_
      refine j_iload_n C 1 dX9_actPlain_86 rfl rfl ?_
      refine j_iload_n C 2 dX9_actPlain_87 rfl rfl ?_
      obtain ⟨u13, h14, hf⟩ := bd hf
      refine j_cVI C [.int c1, .int y2] gX9_actPlain_X9_plainDone rfl hdX9_plainDone ⟨⟨rfl, rfl⟩, Nat.le_of_ble_eq_true rfl, Nat.le_of_ble_eq_true rfl⟩ rfl h_0 rfl (k_X9_plainDone h14) dX9_actPlain_88 rfl (Nat.le_of_ble_eq_true rfl) ?_
      obtain ⟨v15, h16, hf⟩ := bd hf
      have jj17 : jW (EM l D ad aI aZ aS aF) G v15 115 [(0, .ref (ad 0)), (1, .int c1), (2, .int y2)] [] := by
        refine j_iinc C (v := (y2 + 1)) 2 (fun y => [(2, .int y), (0, .ref (ad 0)), (1, .int c1)]) dX9_actPlain_115 rfl rfl (by decide) (fun _ => rfl) hf (fun x24 hf => ?_)
        refine j_goto C 76 dX9_actPlain_118 (by decide) ?_
        refine j_sub [1, 2, 0] rfl ?_
        exact ih _ _ _ hf jj
      clear hf
      have hf := h16
      clear h16
      refine j_if_eq C 115 dX9_actPlain_91 (by decide) hf (fun hf => ?_) (fun hf => ?_)
      · cases hf
        exact jj17
      · refine j_aload_n C 0 dX9_actPlain_94 rfl rfl ?_
        refine j_iload_n C 1 dX9_actPlain_95 rfl rfl ?_
        refine j_iload_n C 2 dX9_actPlain_96 rfl rfl ?_
        obtain ⟨u18, h19, hf⟩ := bd hf
        refine j_cVI C [.int c1, .int y2] gX9_actPlain_X9_forward rfl hdX9_forward ⟨⟨rfl, rfl⟩, Nat.le_of_ble_eq_true rfl, Nat.le_of_ble_eq_true rfl⟩ rfl h_0 rfl (k_X9_forward h19) dX9_actPlain_97 rfl (Nat.le_of_ble_eq_true rfl) ?_
        refine j_iconst C (v := (-1)) dX9_actPlain_100 (by decide) ?_
        refine j_icmp_eq C 115 dX9_actPlain_101 (by decide) hf (fun hf => ?_) (fun hf => ?_)
        · cases hf
          exact jj17
        · refine j_aload_n C 0 dX9_actPlain_104 rfl rfl ?_
          refine j_iload_n C 2 dX9_actPlain_105 rfl rfl ?_
          refine j_aload_n C 0 dX9_actPlain_106 rfl rfl ?_
          refine j_iload_n C 1 dX9_actPlain_107 rfl rfl ?_
          refine j_iload_n C 2 dX9_actPlain_108 rfl rfl ?_
          obtain ⟨u20, h21, hf⟩ := bd hf
          refine j_cVI C [.int c1, .int y2] gX9_actPlain_X9_forward rfl hdX9_forward ⟨⟨rfl, rfl⟩, Nat.le_of_ble_eq_true rfl, Nat.le_of_ble_eq_true rfl⟩ rfl h_0 rfl (k_X9_forward h21) dX9_actPlain_109 rfl (Nat.le_of_ble_eq_true rfl) ?_
          obtain ⟨u22, h23, hf⟩ := bd hf
          refine j_cVV C [.int y2, .int u20] gX9_actPlain_X9_yellow rfl hdX9_yellow ⟨⟨rfl, rfl⟩, Nat.le_of_ble_eq_true rfl, Nat.le_of_ble_eq_true rfl⟩ rfl h_0 rfl (k_X9_yellow h23) dX9_actPlain_112 rfl (Nat.le_of_ble_eq_true rfl) ?_
          cases hf
          exact jj17
set_option maxRecDepth 100000 in
set_option maxHeartbeats 4000000 in
theorem k_X9_actPlain {l : Launch} {D : va_G} {ad : Nat → Nat} {aI aZ aS aF : ClassId} {p1 : Int32} {K : Mem} {u : Mem} (hf : f_X9_actPlain p1 K = some u) : cV (EM l D ad aI aZ aS aF) yX9_actPlain wsX9_actPlain rmX9_actPlain [.ref (ad 0), .int p1] K u := by
  rw [f_X9_actPlain] at hf
  refine j_entV (cc := cX9_actPlain) (maxL := 3) (EM_ok l D ad aI aZ aS aF) (by decide) rfl (Nat.le_of_ble_eq_true rfl) (fun G C ret => ?_)
  refine j_sub [0, 1] (lv2 := [(0, .ref (ad 0)), (1, .int p1)]) rfl ?_
  refine j_iconst C (v := 2) dX9_actPlain_0 (by decide) ?_
  refine j_iload_n C 1 dX9_actPlain_1 rfl rfl ?_
  refine j_imul C dX9_actPlain_2 ?_
  refine j_istore_n C (fun y => [(2, .int y), (0, .ref (ad 0)), (1, .int p1)]) dX9_actPlain_3 rfl (by decide) (fun _ => rfl) hf (fun x1 hf => ?_)
  obtain ⟨v10, h11, hf⟩ := bd hf
  refine j_sub [1, 2, 0] (lv2 := [(0, .ref (ad 0)), (1, .int p1), (2, .int x1)]) rfl ?_
  refine lp_X9_actPlain_L4 C 70 _ _ _ h11 ?_
  refine j_iconst C (v := 2) dX9_actPlain_72 (by decide) ?_
  refine j_iload_n C 1 dX9_actPlain_73 rfl rfl ?_
  refine j_imul C dX9_actPlain_74 ?_
  refine j_istore_n C (fun y => [(2, .int y), (0, .ref (ad 0)), (1, .int p1)]) dX9_actPlain_75 rfl (by decide) (fun _ => rfl) hf (fun x12 hf => ?_)
  obtain ⟨v25, h26, hf⟩ := bd hf
  refine j_sub [1, 2, 0] (lv2 := [(0, .ref (ad 0)), (1, .int p1), (2, .int x12)]) rfl ?_
  refine lp_X9_actPlain_L76 C 70 _ _ _ h26 ?_
  refine j_aload_n C 0 dX9_actPlain_121 rfl rfl ?_
  refine j_iload_n C 1 dX9_actPlain_122 rfl rfl ?_
  obtain ⟨u27, h28, hf⟩ := bd hf
  refine j_cVI C [.int p1] gX9_actPlain_X9_isEarly rfl hdX9_isEarly ⟨⟨rfl, rfl⟩, Nat.le_of_ble_eq_true rfl, Nat.le_of_ble_eq_true rfl⟩ rfl h_0 rfl (k_X9_isEarly h28) dX9_actPlain_123 rfl (Nat.le_of_ble_eq_true rfl) ?_
  obtain ⟨v29, h30, hf⟩ := bd hf
  have jj31 : jW (EM l D ad aI aZ aS aF) G v29 144 [(0, .ref (ad 0)), (1, .int p1), (2, .int v25.1)] [] := by
    refine j_aload_n C 0 dX9_actPlain_144 rfl rfl ?_
    refine j_iload_n C 1 dX9_actPlain_145 rfl rfl ?_
    obtain ⟨u36, h37, hf⟩ := bd hf
    refine j_cVI C [.int p1] gX9_actPlain_X9_bothWait rfl hdX9_bothWait ⟨⟨rfl, rfl⟩, Nat.le_of_ble_eq_true rfl, Nat.le_of_ble_eq_true rfl⟩ rfl h_0 rfl (k_X9_bothWait h37) dX9_actPlain_146 rfl (Nat.le_of_ble_eq_true rfl) ?_
    refine j_if_eq C 157 dX9_actPlain_149 (by decide) hf (fun hf => ?_) (fun hf => ?_)
    · cases hf
      exact ret _ _ dX9_actPlain_157
    · refine j_aload_n C 0 dX9_actPlain_152 rfl rfl ?_
      refine j_iload_n C 1 dX9_actPlain_153 rfl rfl ?_
      obtain ⟨u38, h39, hf⟩ := bd hf
      refine j_cVV C [.int p1] gX9_actPlain_X9_cross rfl hdX9_cross ⟨⟨rfl, rfl⟩, Nat.le_of_ble_eq_true rfl, Nat.le_of_ble_eq_true rfl⟩ rfl h_0 rfl (k_X9_cross h39) dX9_actPlain_154 rfl (Nat.le_of_ble_eq_true rfl) ?_
      cases hf
      exact ret _ _ dX9_actPlain_157
  clear hf
  have hf := h30
  clear h30
  refine j_if_eq C 138 dX9_actPlain_126 (by decide) hf (fun hf => ?_) (fun hf => ?_)
  · refine j_aload_n C 0 dX9_actPlain_138 rfl rfl ?_
    refine j_iload_n C 1 dX9_actPlain_139 rfl rfl ?_
    refine j_iconst C (v := (-1)) dX9_actPlain_140 (by decide) ?_
    obtain ⟨u32, h33, hf⟩ := bd hf
    refine j_cVV C [.int p1, .int ((-1))] gX9_actPlain_X9_empty rfl hdX9_empty ⟨⟨rfl, rfl⟩, Nat.le_of_ble_eq_true rfl, Nat.le_of_ble_eq_true rfl⟩ rfl h_0 rfl (k_X9_empty h33) dX9_actPlain_141 rfl (Nat.le_of_ble_eq_true rfl) ?_
    cases hf
    exact jj31
  · refine j_aload_n C 0 dX9_actPlain_129 rfl rfl ?_
    refine j_get C 7 iX9_actPlain_X9 h_0 rfl (by decide) mX9_actPlain_f27 rfl rfl dX9_actPlain_130 ?_
    refine j_iload_n C 1 dX9_actPlain_133 rfl rfl ?_
    refine j_iald C 0 h_6 rfl dX9_actPlain_134 hf (fun hf => ?_)
    refine j_if_eq C 144 dX9_actPlain_135 (by decide) hf (fun hf => ?_) (fun hf => ?_)
    · cases hf
      exact jj31
    · refine j_aload_n C 0 dX9_actPlain_138 rfl rfl ?_
      refine j_iload_n C 1 dX9_actPlain_139 rfl rfl ?_
      refine j_iconst C (v := (-1)) dX9_actPlain_140 (by decide) ?_
      obtain ⟨u34, h35, hf⟩ := bd hf
      refine j_cVV C [.int p1, .int ((-1))] gX9_actPlain_X9_empty rfl hdX9_empty ⟨⟨rfl, rfl⟩, Nat.le_of_ble_eq_true rfl, Nat.le_of_ble_eq_true rfl⟩ rfl h_0 rfl (k_X9_empty h35) dX9_actPlain_141 rfl (Nat.le_of_ble_eq_true rfl) ?_
      cases hf
      exact jj31
/-- BarrierLightsModel.actGreater(II)V -/
def f_X9_actGreater_L4 (c1 : Int32) (c2 : Int32) : Nat → Int32 → Mem → Option (Int32 × Mem)
  | 0, _, _ => none
  | n + 1, y3, K => if ((2 * c1) + 2) ≤ y3 then (some (y3, K)) else (if inb y3 4 = true then ((if (K 25 (ix y3)) = 1 then (if inb y3 4 = true then (st K 25 (ix y3) 2 fun K5 => if inb y3 4 = true then (st K5 26 (ix y3) 0 fun K6 => some K6) else none) else none) else (some K) : Option (Mem)).bind fun v2 => lt (y3 + 1) fun x7 => f_X9_actGreater_L4 c1 c2 n x7 v2) else none)
def f_X9_actGreater_L70 (c1 : Int32) (c2 : Int32) (c3 : Int32) : Nat → Int32 → Mem → Option (Int32 × Mem)
  | 0, _, _ => none
  | n + 1, y4, K => if ((2 * c1) + 2) ≤ y4 then (some (y4, K)) else ((if c3 = 0 then (some K) else ((f_X9_greaterDone c1 y4 c2 K).bind fun u20 => if u20 = 0 then (some K) else ((f_X9_goal c1 y4 c2 K).bind fun u22 => if u22 = (-1) then (some K) else ((f_X9_goal c1 y4 c2 K).bind fun u24 => (f_X9_yellow y4 u24 K).bind fun u26 => some u26))) : Option (Mem)).bind fun v17 => lt (y4 + 1) fun x28 => f_X9_actGreater_L70 c1 c2 c3 n x28 v17)
def f_X9_actGreater_L160 (c1 : Int32) (c2 : Int32) (c3 : Int32) : Nat → Int32 → Mem → Option (Int32 × Mem)
  | 0, _, _ => none
  | n + 1, y4, K => if ((2 * c1) + 2) ≤ y4 then (some (y4, K)) else (if inb y4 4 = true then ((if (K 19 (ix y4)) = 0 then (if inb c1 2 = true then ((f_X9_sideOf c2 K).bind fun u48 => if (K 6 (ix c1)) = u48 then ((f_X9_goal c1 y4 c2 K).bind fun u50 => if u50 = (-1) then (some K) else ((f_X9_goal c1 y4 c2 K).bind fun u52 => (f_X9_begin c1 u52 K).bind fun u54 => some u54)) else (some K)) else none) else (some K) : Option (Mem)).bind fun v45 => lt (y4 + 1) fun x56 => f_X9_actGreater_L160 c1 c2 c3 n x56 v45) else none)
def f_X9_actGreater (p1 : Int32) (p2 : Int32) (K : Mem) : Option (Mem) := lt (2 * p1) fun x1 => (f_X9_actGreater_L4 p1 p2 70 x1 K).bind fun v8 => (f_X9_sideOf p2 v8.2).bind fun u10 => if inb p1 2 = true then ((if u10 = (v8.2 6 (ix p1)) then (some 1) else (some 0) : Option (Int32)).bind fun v12 => lt v12 fun x15 => lt (2 * p1) fun x16 => (f_X9_actGreater_L70 p1 p2 x15 70 x16 v8.2).bind fun v29 => (if x15 = 0 then ((f_X9_empty p1 p2 v29.2).bind fun u34 => some u34) else (some v29.2) : Option (Mem)).bind fun v31 => (f_X9_bothWait p1 v31).bind fun u36 => (if u36 = 0 then (some v31) else ((f_X9_sideOf p2 v31).bind fun u41 => if inb p1 2 = true then (st v31 6 (ix p1) u41 fun K43 => some K43) else none) : Option (Mem)).bind fun v38 => lt (2 * p1) fun x44 => (f_X9_actGreater_L160 p1 p2 x15 70 x44 v38).bind fun v57 => some v57.2) else none
abbrev rmX9_actGreater : Room := { frames := 8, cells := 0, slots := 0, locals := 182 }
theorem iX9_actGreater_X9 : ∀ w ∈ u_ws RX9 TX9 37, w ∈ wsX9_actGreater := fun _ h => List.mem_cons_of_mem _ (List.mem_append_right _ h)
theorem mX9_actGreater_f85 : Cond.fieldLink RX9 85 "BarrierLightsModel" "walker" "[I" ∈ wsX9_actGreater := by decide +kernel
theorem mX9_actGreater_f88 : Cond.fieldLink RX9 88 "BarrierLightsModel" "walked" "[I" ∈ wsX9_actGreater := by decide +kernel
theorem mX9_actGreater_f27 : Cond.fieldLink RX9 27 "BarrierLightsModel" "side" "[I" ∈ wsX9_actGreater := by decide +kernel
theorem mX9_actGreater_f67 : Cond.fieldLink RX9 67 "BarrierLightsModel" "state" "[I" ∈ wsX9_actGreater := by decide +kernel
set_option maxRecDepth 100000 in
set_option maxHeartbeats 4000000 in
theorem lp_X9_actGreater_L4 {l : Launch} {D : va_G} {ad : Nat → Nat} {aI aZ aS aF : ClassId} {G : jG} {c1 : Int32} {c2 : Int32} (C : jC (EM l D ad aI aZ aS aF) G cX9_actGreater yX9_actGreater.cls wsX9_actGreater rmX9_actGreater 5) : ∀ (n : Nat) (y3 : Int32) (K : Mem) (v : Int32 × Mem), f_X9_actGreater_L4 c1 c2 n y3 K = some v → jW (EM l D ad aI aZ aS aF) G v.2 46 [(0, .ref (ad 0)), (1, .int c1), (2, .int c2), (3, .int v.1)] [] → jW (EM l D ad aI aZ aS aF) G K 4 [(0, .ref (ad 0)), (1, .int c1), (2, .int c2), (3, .int y3)] [] := by
  intro n
  induction n with
  | zero =>
    intro y3 K v hf jj
    rw [f_X9_actGreater_L4] at hf
    cases hf
  | succ n ih =>
    intro y3 K v hf jj
    rw [f_X9_actGreater_L4] at hf
    refine j_iload_n C 3 dX9_actGreater_4 rfl rfl ?_
    refine j_iconst C (v := 2) dX9_actGreater_5 (by decide) ?_
    refine j_iload_n C 1 dX9_actGreater_6 rfl rfl ?_
    refine j_imul C dX9_actGreater_7 ?_
    refine j_iconst C (v := 2) dX9_actGreater_8 (by decide) ?_
    refine j_iadd C dX9_actGreater_9 ?_
    refine j_icmp_ge C 46 dX9_actGreater_10 (by decide) hf (fun hf => ?_) (fun hf => ?_)
    · cases hf
      exact jj
    · refine j_aload_n C 0 dX9_actGreater_13 rfl rfl ?_
      refine j_get C 26 iX9_actGreater_X9 h_0 rfl (by decide) mX9_actGreater_f85 rfl rfl dX9_actGreater_14 ?_
      refine j_iload_n C 3 dX9_actGreater_17 rfl rfl ?_
      refine j_iald C 0 h_25 rfl dX9_actGreater_18 hf (fun hf => ?_)
      refine j_iconst C (v := 1) dX9_actGreater_19 (by decide) ?_
      obtain ⟨v2, h3, hf⟩ := bd hf
      have jj4 : jW (EM l D ad aI aZ aS aF) G v2 40 [(0, .ref (ad 0)), (1, .int c1), (2, .int c2), (3, .int y3)] [] := by
        refine j_iinc C (v := (y3 + 1)) 3 (fun y => [(3, .int y), (0, .ref (ad 0)), (1, .int c1), (2, .int c2)]) dX9_actGreater_40 rfl rfl (by decide) (fun _ => rfl) hf (fun x7 hf => ?_)
        refine j_goto C 4 dX9_actGreater_43 (by decide) ?_
        refine j_sub [1, 2, 3, 0] rfl ?_
        exact ih _ _ _ hf jj
      clear hf
      have hf := h3
      clear h3
      refine j_icmp_eq C 26 dX9_actGreater_20 (by decide) hf (fun hf => ?_) (fun hf => ?_)
      · refine j_aload_n C 0 dX9_actGreater_26 rfl rfl ?_
        refine j_get C 26 iX9_actGreater_X9 h_0 rfl (by decide) mX9_actGreater_f85 rfl rfl dX9_actGreater_27 ?_
        refine j_iload_n C 3 dX9_actGreater_30 rfl rfl ?_
        refine j_iconst C (v := 2) dX9_actGreater_31 (by decide) ?_
        refine j_iast C 0 h_25 (t_25 _ _) rfl dX9_actGreater_32 hf (fun K5 hf => ?_)
        refine j_aload_n C 0 dX9_actGreater_33 rfl rfl ?_
        refine j_get C 27 iX9_actGreater_X9 h_0 rfl (by decide) mX9_actGreater_f88 rfl rfl dX9_actGreater_34 ?_
        refine j_iload_n C 3 dX9_actGreater_37 rfl rfl ?_
        refine j_iconst C (v := 0) dX9_actGreater_38 (by decide) ?_
        refine j_iast C 0 h_26 (t_26 _ _) rfl dX9_actGreater_39 hf (fun K6 hf => ?_)
        cases hf
        exact jj4
      · refine j_goto C 40 dX9_actGreater_23 (by decide) ?_
        cases hf
        exact jj4
set_option maxRecDepth 100000 in
set_option maxHeartbeats 4000000 in
theorem lp_X9_actGreater_L70 {l : Launch} {D : va_G} {ad : Nat → Nat} {aI aZ aS aF : ClassId} {G : jG} {c1 : Int32} {c2 : Int32} {c3 : Int32} (C : jC (EM l D ad aI aZ aS aF) G cX9_actGreater yX9_actGreater.cls wsX9_actGreater rmX9_actGreater 5) : ∀ (n : Nat) (y4 : Int32) (K : Mem) (v : Int32 × Mem), f_X9_actGreater_L70 c1 c2 c3 n y4 K = some v → jW (EM l D ad aI aZ aS aF) G v.2 127 [(0, .ref (ad 0)), (1, .int c1), (2, .int c2), (3, .int c3), (4, .int v.1)] [] → jW (EM l D ad aI aZ aS aF) G K 70 [(0, .ref (ad 0)), (1, .int c1), (2, .int c2), (3, .int c3), (4, .int y4)] [] := by
  intro n
  induction n with
  | zero =>
    intro y4 K v hf jj
    rw [f_X9_actGreater_L70] at hf
    cases hf
  | succ n ih =>
    intro y4 K v hf jj
    rw [f_X9_actGreater_L70] at hf
    refine j_iload C 4 dX9_actGreater_70 rfl ?_
    refine j_iconst C (v := 2) dX9_actGreater_72 (by decide) ?_
    refine j_iload_n C 1 dX9_actGreater_73 rfl rfl ?_
    refine j_imul C dX9_actGreater_74 ?_
    refine j_iconst C (v := 2) dX9_actGreater_75 (by decide) ?_
    refine j_iadd C dX9_actGreater_76 ?_
    refine j_icmp_ge C 127 dX9_actGreater_77 (by decide) hf (fun hf => ?_) (fun hf => ?_)
    · cases hf
      exact jj
    · refine j_iload_n C 3 dX9_actGreater_80 rfl rfl ?_
      obtain ⟨v17, h18, hf⟩ := bd hf
      have jj19 : jW (EM l D ad aI aZ aS aF) G v17 121 [(0, .ref (ad 0)), (1, .int c1), (2, .int c2), (3, .int c3), (4, .int y4)] [] := by
        refine j_iinc C (v := (y4 + 1)) 4 (fun y => [(4, .int y), (0, .ref (ad 0)), (1, .int c1), (2, .int c2), (3, .int c3)]) dX9_actGreater_121 rfl rfl (by decide) (fun _ => rfl) hf (fun x28 hf => ?_)
        refine j_goto C 70 dX9_actGreater_124 (by decide) ?_
        refine j_sub [1, 2, 3, 4, 0] rfl ?_
        exact ih _ _ _ hf jj
      clear hf
      have hf := h18
      clear h18
      refine j_if_eq C 121 dX9_actGreater_81 (by decide) hf (fun hf => ?_) (fun hf => ?_)
      · cases hf
        exact jj19
      · refine j_aload_n C 0 dX9_actGreater_84 rfl rfl ?_
        refine j_iload_n C 1 dX9_actGreater_85 rfl rfl ?_
        refine j_iload C 4 dX9_actGreater_86 rfl ?_
        refine j_iload_n C 2 dX9_actGreater_88 rfl rfl ?_
        obtain ⟨u20, h21, hf⟩ := bd hf
        refine j_cVI C [.int c1, .int y4, .int c2] gX9_actGreater_X9_greaterDone rfl hdX9_greaterDone ⟨⟨rfl, rfl⟩, Nat.le_of_ble_eq_true rfl, Nat.le_of_ble_eq_true rfl⟩ rfl h_0 rfl (k_X9_greaterDone h21) dX9_actGreater_89 rfl (Nat.le_of_ble_eq_true rfl) ?_
        refine j_if_eq C 121 dX9_actGreater_92 (by decide) hf (fun hf => ?_) (fun hf => ?_)
        · cases hf
          exact jj19
        · refine j_aload_n C 0 dX9_actGreater_95 rfl rfl ?_
          refine j_iload_n C 1 dX9_actGreater_96 rfl rfl ?_
          refine j_iload C 4 dX9_actGreater_97 rfl ?_
          refine j_iload_n C 2 dX9_actGreater_99 rfl rfl ?_
          obtain ⟨u22, h23, hf⟩ := bd hf
          refine j_cVI C [.int c1, .int y4, .int c2] gX9_actGreater_X9_goal rfl hdX9_goal ⟨⟨rfl, rfl⟩, Nat.le_of_ble_eq_true rfl, Nat.le_of_ble_eq_true rfl⟩ rfl h_0 rfl (k_X9_goal h23) dX9_actGreater_100 rfl (Nat.le_of_ble_eq_true rfl) ?_
          refine j_iconst C (v := (-1)) dX9_actGreater_103 (by decide) ?_
          refine j_icmp_eq C 121 dX9_actGreater_104 (by decide) hf (fun hf => ?_) (fun hf => ?_)
          · cases hf
            exact jj19
          · refine j_aload_n C 0 dX9_actGreater_107 rfl rfl ?_
            refine j_iload C 4 dX9_actGreater_108 rfl ?_
            refine j_aload_n C 0 dX9_actGreater_110 rfl rfl ?_
            refine j_iload_n C 1 dX9_actGreater_111 rfl rfl ?_
            refine j_iload C 4 dX9_actGreater_112 rfl ?_
            refine j_iload_n C 2 dX9_actGreater_114 rfl rfl ?_
            obtain ⟨u24, h25, hf⟩ := bd hf
            refine j_cVI C [.int c1, .int y4, .int c2] gX9_actGreater_X9_goal rfl hdX9_goal ⟨⟨rfl, rfl⟩, Nat.le_of_ble_eq_true rfl, Nat.le_of_ble_eq_true rfl⟩ rfl h_0 rfl (k_X9_goal h25) dX9_actGreater_115 rfl (Nat.le_of_ble_eq_true rfl) ?_
            obtain ⟨u26, h27, hf⟩ := bd hf
            refine j_cVV C [.int y4, .int u24] gX9_actGreater_X9_yellow rfl hdX9_yellow ⟨⟨rfl, rfl⟩, Nat.le_of_ble_eq_true rfl, Nat.le_of_ble_eq_true rfl⟩ rfl h_0 rfl (k_X9_yellow h27) dX9_actGreater_118 rfl (Nat.le_of_ble_eq_true rfl) ?_
            cases hf
            exact jj19
set_option maxRecDepth 100000 in
set_option maxHeartbeats 4000000 in
theorem lp_X9_actGreater_L160 {l : Launch} {D : va_G} {ad : Nat → Nat} {aI aZ aS aF : ClassId} {G : jG} {c1 : Int32} {c2 : Int32} {c3 : Int32} (C : jC (EM l D ad aI aZ aS aF) G cX9_actGreater yX9_actGreater.cls wsX9_actGreater rmX9_actGreater 5) : ∀ (n : Nat) (y4 : Int32) (K : Mem) (v : Int32 × Mem), f_X9_actGreater_L160 c1 c2 c3 n y4 K = some v → jW (EM l D ad aI aZ aS aF) G v.2 224 [(0, .ref (ad 0)), (1, .int c1), (2, .int c2), (3, .int c3), (4, .int v.1)] [] → jW (EM l D ad aI aZ aS aF) G K 160 [(0, .ref (ad 0)), (1, .int c1), (2, .int c2), (3, .int c3), (4, .int y4)] [] := by
  intro n
  induction n with
  | zero =>
    intro y4 K v hf jj
    rw [f_X9_actGreater_L160] at hf
    cases hf
  | succ n ih =>
    intro y4 K v hf jj
    rw [f_X9_actGreater_L160] at hf
    refine j_iload C 4 dX9_actGreater_160 rfl ?_
    refine j_iconst C (v := 2) dX9_actGreater_162 (by decide) ?_
    refine j_iload_n C 1 dX9_actGreater_163 rfl rfl ?_
    refine j_imul C dX9_actGreater_164 ?_
    refine j_iconst C (v := 2) dX9_actGreater_165 (by decide) ?_
    refine j_iadd C dX9_actGreater_166 ?_
    refine j_icmp_ge C 224 dX9_actGreater_167 (by decide) hf (fun hf => ?_) (fun hf => ?_)
    · cases hf
      exact jj
    · refine j_aload_n C 0 dX9_actGreater_170 rfl rfl ?_
      refine j_get C 20 iX9_actGreater_X9 h_0 rfl (by decide) mX9_actGreater_f67 rfl rfl dX9_actGreater_171 ?_
      refine j_iload C 4 dX9_actGreater_174 rfl ?_
      refine j_iald C 0 h_19 rfl dX9_actGreater_176 hf (fun hf => ?_)
      obtain ⟨v45, h46, hf⟩ := bd hf
      have jj47 : jW (EM l D ad aI aZ aS aF) G v45 218 [(0, .ref (ad 0)), (1, .int c1), (2, .int c2), (3, .int c3), (4, .int y4)] [] := by
        refine j_iinc C (v := (y4 + 1)) 4 (fun y => [(4, .int y), (0, .ref (ad 0)), (1, .int c1), (2, .int c2), (3, .int c3)]) dX9_actGreater_218 rfl rfl (by decide) (fun _ => rfl) hf (fun x56 hf => ?_)
        refine j_goto C 160 dX9_actGreater_221 (by decide) ?_
        refine j_sub [1, 2, 3, 4, 0] rfl ?_
        exact ih _ _ _ hf jj
      clear hf
      have hf := h46
      clear h46
      refine j_if_ne C 218 dX9_actGreater_177 (by decide) hf (fun hf => ?_) (fun hf => ?_)
      · refine j_aload_n C 0 dX9_actGreater_180 rfl rfl ?_
        refine j_get C 7 iX9_actGreater_X9 h_0 rfl (by decide) mX9_actGreater_f27 rfl rfl dX9_actGreater_181 ?_
        refine j_iload_n C 1 dX9_actGreater_184 rfl rfl ?_
        refine j_iald C 0 h_6 rfl dX9_actGreater_185 hf (fun hf => ?_)
        refine j_iload_n C 2 dX9_actGreater_186 rfl rfl ?_
        obtain ⟨u48, h49, hf⟩ := bd hf
        refine j_cSI C [.int c2] gX9_actGreater_X9_sideOf rfl hdX9_sideOf.2 ⟨⟨rfl, rfl⟩, Nat.le_of_ble_eq_true rfl, Nat.le_of_ble_eq_true rfl⟩ rfl (k_X9_sideOf h49) dX9_actGreater_187 rfl (Nat.le_of_ble_eq_true rfl) ?_
        refine j_icmp_ne C 218 dX9_actGreater_190 (by decide) hf (fun hf => ?_) (fun hf => ?_)
        · refine j_aload_n C 0 dX9_actGreater_193 rfl rfl ?_
          refine j_iload_n C 1 dX9_actGreater_194 rfl rfl ?_
          refine j_iload C 4 dX9_actGreater_195 rfl ?_
          refine j_iload_n C 2 dX9_actGreater_197 rfl rfl ?_
          obtain ⟨u50, h51, hf⟩ := bd hf
          refine j_cVI C [.int c1, .int y4, .int c2] gX9_actGreater_X9_goal rfl hdX9_goal ⟨⟨rfl, rfl⟩, Nat.le_of_ble_eq_true rfl, Nat.le_of_ble_eq_true rfl⟩ rfl h_0 rfl (k_X9_goal h51) dX9_actGreater_198 rfl (Nat.le_of_ble_eq_true rfl) ?_
          refine j_iconst C (v := (-1)) dX9_actGreater_201 (by decide) ?_
          refine j_icmp_eq C 218 dX9_actGreater_202 (by decide) hf (fun hf => ?_) (fun hf => ?_)
          · cases hf
            exact jj47
          · refine j_aload_n C 0 dX9_actGreater_205 rfl rfl ?_
            refine j_iload_n C 1 dX9_actGreater_206 rfl rfl ?_
            refine j_aload_n C 0 dX9_actGreater_207 rfl rfl ?_
            refine j_iload_n C 1 dX9_actGreater_208 rfl rfl ?_
            refine j_iload C 4 dX9_actGreater_209 rfl ?_
            refine j_iload_n C 2 dX9_actGreater_211 rfl rfl ?_
            obtain ⟨u52, h53, hf⟩ := bd hf
            refine j_cVI C [.int c1, .int y4, .int c2] gX9_actGreater_X9_goal rfl hdX9_goal ⟨⟨rfl, rfl⟩, Nat.le_of_ble_eq_true rfl, Nat.le_of_ble_eq_true rfl⟩ rfl h_0 rfl (k_X9_goal h53) dX9_actGreater_212 rfl (Nat.le_of_ble_eq_true rfl) ?_
            obtain ⟨u54, h55, hf⟩ := bd hf
            refine j_cVV C [.int c1, .int u52] gX9_actGreater_X9_begin rfl hdX9_begin ⟨⟨rfl, rfl⟩, Nat.le_of_ble_eq_true rfl, Nat.le_of_ble_eq_true rfl⟩ rfl h_0 rfl (k_X9_begin h55) dX9_actGreater_215 rfl (Nat.le_of_ble_eq_true rfl) ?_
            cases hf
            exact jj47
        · cases hf
          exact jj47
      · cases hf
        exact jj47
set_option maxRecDepth 100000 in
set_option maxHeartbeats 4000000 in
theorem k_X9_actGreater {l : Launch} {D : va_G} {ad : Nat → Nat} {aI aZ aS aF : ClassId} {p1 : Int32} {p2 : Int32} {K : Mem} {u : Mem} (hf : f_X9_actGreater p1 p2 K = some u) : cV (EM l D ad aI aZ aS aF) yX9_actGreater wsX9_actGreater rmX9_actGreater [.ref (ad 0), .int p1, .int p2] K u := by
  rw [f_X9_actGreater] at hf
  refine j_entV (cc := cX9_actGreater) (maxL := 5) (EM_ok l D ad aI aZ aS aF) (by decide) rfl (Nat.le_of_ble_eq_true rfl) (fun G C ret => ?_)
  refine j_sub [0, 1, 2] (lv2 := [(0, .ref (ad 0)), (1, .int p1), (2, .int p2)]) rfl ?_
  refine j_iconst C (v := 2) dX9_actGreater_0 (by decide) ?_
  refine j_iload_n C 1 dX9_actGreater_1 rfl rfl ?_
  refine j_imul C dX9_actGreater_2 ?_
  refine j_istore_n C (fun y => [(3, .int y), (0, .ref (ad 0)), (1, .int p1), (2, .int p2)]) dX9_actGreater_3 rfl (by decide) (fun _ => rfl) hf (fun x1 hf => ?_)
  obtain ⟨v8, h9, hf⟩ := bd hf
  refine j_sub [1, 2, 3, 0] (lv2 := [(0, .ref (ad 0)), (1, .int p1), (2, .int p2), (3, .int x1)]) rfl ?_
  refine lp_X9_actGreater_L4 C 70 _ _ _ h9 ?_
  refine j_iload_n C 2 dX9_actGreater_46 rfl rfl ?_
  obtain ⟨u10, h11, hf⟩ := bd hf
  refine j_cSI C [.int p2] gX9_actGreater_X9_sideOf rfl hdX9_sideOf.2 ⟨⟨rfl, rfl⟩, Nat.le_of_ble_eq_true rfl, Nat.le_of_ble_eq_true rfl⟩ rfl (k_X9_sideOf h11) dX9_actGreater_47 rfl (Nat.le_of_ble_eq_true rfl) ?_
  refine j_aload_n C 0 dX9_actGreater_50 rfl rfl ?_
  refine j_get C 7 iX9_actGreater_X9 h_0 rfl (by decide) mX9_actGreater_f27 rfl rfl dX9_actGreater_51 ?_
  refine j_iload_n C 1 dX9_actGreater_54 rfl rfl ?_
  refine j_iald C 0 h_6 rfl dX9_actGreater_55 hf (fun hf => ?_)
  obtain ⟨v12, h13, hf⟩ := bd hf
  have jj14 : jW (EM l D ad aI aZ aS aF) G v8.2 64 [(0, .ref (ad 0)), (1, .int p1), (2, .int p2), (3, .int v8.1)] [.int v12] := by
    refine j_istore_n C (fun y => [(3, .int y), (0, .ref (ad 0)), (1, .int p1), (2, .int p2)]) dX9_actGreater_64 rfl (by decide) (fun _ => rfl) hf (fun x15 hf => ?_)
    refine j_iconst C (v := 2) dX9_actGreater_65 (by decide) ?_
    refine j_iload_n C 2 dX9_actGreater_66 rfl rfl ?_
    refine j_imul C dX9_actGreater_67 ?_
    refine j_istore C (fun y => [(4, .int y), (3, .int x15), (0, .ref (ad 0)), (1, .int p1), (2, .int p2)]) dX9_actGreater_68 (by decide) (fun _ => rfl) hf (fun x16 hf => ?_)
    obtain ⟨v29, h30, hf⟩ := bd hf
    refine j_sub [2, 3, 4, 1, 0] (lv2 := [(0, .ref (ad 0)), (1, .int p1), (2, .int p2), (3, .int x15), (4, .int x16)]) rfl ?_
    refine lp_X9_actGreater_L70 C 70 _ _ _ h30 ?_
    refine j_iload_n C 3 dX9_actGreater_127 rfl rfl ?_
    obtain ⟨v31, h32, hf⟩ := bd hf
    have jj33 : jW (EM l D ad aI aZ aS aF) G v31 137 [(0, .ref (ad 0)), (1, .int p1), (2, .int p2), (3, .int x15), (4, .int v29.1)] [] := by
      refine j_aload_n C 0 dX9_actGreater_137 rfl rfl ?_
      refine j_iload_n C 1 dX9_actGreater_138 rfl rfl ?_
      obtain ⟨u36, h37, hf⟩ := bd hf
      refine j_cVI C [.int p1] gX9_actGreater_X9_bothWait rfl hdX9_bothWait ⟨⟨rfl, rfl⟩, Nat.le_of_ble_eq_true rfl, Nat.le_of_ble_eq_true rfl⟩ rfl h_0 rfl (k_X9_bothWait h37) dX9_actGreater_139 rfl (Nat.le_of_ble_eq_true rfl) ?_
      obtain ⟨v38, h39, hf⟩ := bd hf
      have jj40 : jW (EM l D ad aI aZ aS aF) G v38 155 [(0, .ref (ad 0)), (1, .int p1), (2, .int p2), (3, .int x15), (4, .int v29.1)] [] := by
        refine j_iconst C (v := 2) dX9_actGreater_155 (by decide) ?_
        refine j_iload_n C 1 dX9_actGreater_156 rfl rfl ?_
        refine j_imul C dX9_actGreater_157 ?_
        refine j_istore C (fun y => [(4, .int y), (0, .ref (ad 0)), (1, .int p1), (2, .int p2), (3, .int x15)]) dX9_actGreater_158 (by decide) (fun _ => rfl) hf (fun x44 hf => ?_)
        obtain ⟨v57, h58, hf⟩ := bd hf
        refine j_sub [1, 2, 3, 4, 0] (lv2 := [(0, .ref (ad 0)), (1, .int p1), (2, .int p2), (3, .int x15), (4, .int x44)]) rfl ?_
        refine lp_X9_actGreater_L160 C 70 _ _ _ h58 ?_
        cases hf
        exact ret _ _ dX9_actGreater_224
      clear hf
      have hf := h39
      clear h39
      refine j_if_eq C 155 dX9_actGreater_142 (by decide) hf (fun hf => ?_) (fun hf => ?_)
      · cases hf
        exact jj40
      · refine j_aload_n C 0 dX9_actGreater_145 rfl rfl ?_
        refine j_get C 7 iX9_actGreater_X9 h_0 rfl (by decide) mX9_actGreater_f27 rfl rfl dX9_actGreater_146 ?_
        refine j_iload_n C 1 dX9_actGreater_149 rfl rfl ?_
        refine j_iload_n C 2 dX9_actGreater_150 rfl rfl ?_
        obtain ⟨u41, h42, hf⟩ := bd hf
        refine j_cSI C [.int p2] gX9_actGreater_X9_sideOf rfl hdX9_sideOf.2 ⟨⟨rfl, rfl⟩, Nat.le_of_ble_eq_true rfl, Nat.le_of_ble_eq_true rfl⟩ rfl (k_X9_sideOf h42) dX9_actGreater_151 rfl (Nat.le_of_ble_eq_true rfl) ?_
        refine j_iast C 0 h_6 (t_6 _ _) rfl dX9_actGreater_154 hf (fun K43 hf => ?_)
        cases hf
        exact jj40
    clear hf
    have hf := h32
    clear h32
    refine j_if_ne C 137 dX9_actGreater_128 (by decide) hf (fun hf => ?_) (fun hf => ?_)
    · refine j_aload_n C 0 dX9_actGreater_131 rfl rfl ?_
      refine j_iload_n C 1 dX9_actGreater_132 rfl rfl ?_
      refine j_iload_n C 2 dX9_actGreater_133 rfl rfl ?_
      obtain ⟨u34, h35, hf⟩ := bd hf
      refine j_cVV C [.int p1, .int p2] gX9_actGreater_X9_empty rfl hdX9_empty ⟨⟨rfl, rfl⟩, Nat.le_of_ble_eq_true rfl, Nat.le_of_ble_eq_true rfl⟩ rfl h_0 rfl (k_X9_empty h35) dX9_actGreater_134 rfl (Nat.le_of_ble_eq_true rfl) ?_
      cases hf
      exact jj33
    · cases hf
      exact jj33
  clear hf
  have hf := h13
  clear h13
  refine j_icmp_ne C 63 dX9_actGreater_56 (by decide) hf (fun hf => ?_) (fun hf => ?_)
  · refine j_iconst C (v := 1) dX9_actGreater_59 (by decide) ?_
    refine j_goto C 64 dX9_actGreater_60 (by decide) ?_
    cases hf
    exact jj14
  · refine j_iconst C (v := 0) dX9_actGreater_63 (by decide) ?_
    cases hf
    exact jj14
/-- BarrierLightsModel.lampsOf(II)I -/
def f_X9_lampsOf (p1 : Int32) (p2 : Int32) (K : Mem) : Option (Int32) := (f_X9_ringOf p1 p2 K).bind fun u1 => lt u1 fun x3 => if inb ((8 * p1) + p2) 16 = true then (if (K 8 (ix ((8 * p1) + p2))) = 0 then (some 0) else (if inb x3 4 = true then ((if (K 19 (ix x3)) = 0 then (some 1) else (if inb x3 4 = true then (if (K 20 (ix x3)) = p2 then (if inb x3 4 = true then (if (K 19 (ix x3)) = 3 then (some 1) else (if inb x3 4 = true then (if (K 19 (ix x3)) = 1 then (some 4) else (some 2)) else none)) else none) else (some 1)) else none) : Option (Int32)).bind fun v4 => lt v4 fun x7 => if inb ((8 * p1) + p2) 16 = true then (lt (K 14 (ix ((8 * p1) + p2))) fun x8 => if x8 = 1 then (if x7 = 1 then (some 0) else (if x8 = 3 then (if x7 = 2 then (some 0) else (if x8 = 2 then (if x7 = 4 then (some x7) else (some (x7 + 4))) else (some x7))) else (if x8 = 2 then (if x7 = 4 then (some x7) else (some (x7 + 4))) else (some x7)))) else (if x8 = 3 then (if x7 = 2 then (some 0) else (if x8 = 2 then (if x7 = 4 then (some x7) else (some (x7 + 4))) else (some x7))) else (if x8 = 2 then (if x7 = 4 then (some x7) else (some (x7 + 4))) else (some x7)))) else none) else none)) else none
abbrev rmX9_lampsOf : Room := { frames := 1, cells := 0, slots := 0, locals := 21 }
theorem iX9_lampsOf_X9 : ∀ w ∈ u_ws RX9 TX9 37, w ∈ wsX9_lampsOf := fun _ h => List.mem_cons_of_mem _ (List.mem_append_right _ h)
theorem mX9_lampsOf_f33 : Cond.fieldLink RX9 33 "BarrierLightsModel" "used" "[Z" ∈ wsX9_lampsOf := by decide +kernel
theorem mX9_lampsOf_f67 : Cond.fieldLink RX9 67 "BarrierLightsModel" "state" "[I" ∈ wsX9_lampsOf := by decide +kernel
theorem mX9_lampsOf_f70 : Cond.fieldLink RX9 70 "BarrierLightsModel" "phase" "[I" ∈ wsX9_lampsOf := by decide +kernel
theorem mX9_lampsOf_f52 : Cond.fieldLink RX9 52 "BarrierLightsModel" "faults" "[I" ∈ wsX9_lampsOf := by decide +kernel
set_option maxRecDepth 100000 in
set_option maxHeartbeats 4000000 in
theorem k_X9_lampsOf {l : Launch} {D : va_G} {ad : Nat → Nat} {aI aZ aS aF : ClassId} {p1 : Int32} {p2 : Int32} {K : Mem} {u : Int32} (hf : f_X9_lampsOf p1 p2 K = some u) : cI (EM l D ad aI aZ aS aF) yX9_lampsOf wsX9_lampsOf rmX9_lampsOf [.ref (ad 0), .int p1, .int p2] K u K := by
  rw [f_X9_lampsOf] at hf
  refine j_entI (cc := cX9_lampsOf) (maxL := 6) (EM_ok l D ad aI aZ aS aF) (Or.inl rfl) (by decide) rfl (Nat.le_of_ble_eq_true rfl) (fun G C ret => ?_)
  refine j_sub [0, 1, 2] (lv2 := [(0, .ref (ad 0)), (1, .int p1), (2, .int p2)]) rfl ?_
  refine j_iload_n C 1 dX9_lampsOf_0 rfl rfl ?_
  refine j_iload_n C 2 dX9_lampsOf_1 rfl rfl ?_
  obtain ⟨u1, h2, hf⟩ := bd hf
  refine j_cSI C [.int p1, .int p2] gX9_lampsOf_X9_ringOf rfl hdX9_ringOf.2 ⟨⟨rfl, rfl⟩, Nat.le_of_ble_eq_true rfl, Nat.le_of_ble_eq_true rfl⟩ rfl (k_X9_ringOf h2) dX9_lampsOf_2 rfl (Nat.le_of_ble_eq_true rfl) ?_
  refine j_istore_n C (fun y => [(3, .int y), (0, .ref (ad 0)), (1, .int p1), (2, .int p2)]) dX9_lampsOf_5 rfl (by decide) (fun _ => rfl) hf (fun x3 hf => ?_)
  refine j_aload_n C 1 dX9_lampsOf_6 rfl rfl ?_
  refine j_get C 9 iX9_lampsOf_X9 h_0 rfl (by decide) mX9_lampsOf_f33 rfl rfl dX9_lampsOf_7 ?_
  refine j_bipush C (v := 8) dX9_lampsOf_10 (by decide) ?_
  refine j_iload_n C 2 dX9_lampsOf_12 rfl rfl ?_
  refine j_imul C dX9_lampsOf_13 ?_
  refine j_iload_n C 3 dX9_lampsOf_14 rfl rfl ?_
  refine j_iadd C dX9_lampsOf_15 ?_
  refine j_zald C 1 h_8 rfl dX9_lampsOf_16 hf (fun hf => ?_)
  refine j_if_ne C 22 dX9_lampsOf_17 (by decide) hf (fun hf => ?_) (fun hf => ?_)
  · refine j_iconst C (v := 0) dX9_lampsOf_20 (by decide) ?_
    cases hf
    exact ret _ _ dX9_lampsOf_21 (fun h => by cases h)
  · refine j_aload_n C 1 dX9_lampsOf_22 rfl rfl ?_
    refine j_get C 20 iX9_lampsOf_X9 h_0 rfl (by decide) mX9_lampsOf_f67 rfl rfl dX9_lampsOf_23 ?_
    refine j_iload_n C 0 dX9_lampsOf_26 rfl rfl ?_
    refine j_iald C 0 h_19 rfl dX9_lampsOf_27 hf (fun hf => ?_)
    obtain ⟨v4, h5, hf⟩ := bd hf
    have jj6 : jW (EM l D ad aI aZ aS aF) G K 70 [(0, .ref (ad 0)), (1, .int p1), (2, .int p2), (3, .int x3)] [.int v4] := by
      refine j_istore C (fun y => [(4, .int y), (0, .ref (ad 0)), (1, .int p1), (2, .int p2), (3, .int x3)]) dX9_lampsOf_70 (by decide) (fun _ => rfl) hf (fun x7 hf => ?_)
      refine j_aload_n C 1 dX9_lampsOf_72 rfl rfl ?_
      refine j_get C 15 iX9_lampsOf_X9 h_0 rfl (by decide) mX9_lampsOf_f52 rfl rfl dX9_lampsOf_73 ?_
      refine j_bipush C (v := 8) dX9_lampsOf_76 (by decide) ?_
      refine j_iload_n C 2 dX9_lampsOf_78 rfl rfl ?_
      refine j_imul C dX9_lampsOf_79 ?_
      refine j_iload_n C 3 dX9_lampsOf_80 rfl rfl ?_
      refine j_iadd C dX9_lampsOf_81 ?_
      refine j_iald C 0 h_14 rfl dX9_lampsOf_82 hf (fun hf => ?_)
      refine j_istore C (fun y => [(5, .int y), (4, .int x7), (0, .ref (ad 0)), (1, .int p1), (2, .int p2), (3, .int x3)]) dX9_lampsOf_83 (by decide) (fun _ => rfl) hf (fun x8 hf => ?_)
      refine j_iload C 0 dX9_lampsOf_85 rfl ?_
      refine j_iconst C (v := 1) dX9_lampsOf_87 (by decide) ?_
      refine j_icmp_ne C 97 dX9_lampsOf_88 (by decide) hf (fun hf => ?_) (fun hf => ?_)
      · refine j_iload C 1 dX9_lampsOf_91 rfl ?_
        refine j_iconst C (v := 1) dX9_lampsOf_93 (by decide) ?_
        refine j_icmp_eq C 109 dX9_lampsOf_94 (by decide) hf (fun hf => ?_) (fun hf => ?_)
        · refine j_iconst C (v := 0) dX9_lampsOf_109 (by decide) ?_
          cases hf
          exact ret _ _ dX9_lampsOf_110 (fun h => by cases h)
        · refine j_iload C 0 dX9_lampsOf_97 rfl ?_
          refine j_iconst C (v := 3) dX9_lampsOf_99 (by decide) ?_
          refine j_icmp_ne C 111 dX9_lampsOf_100 (by decide) hf (fun hf => ?_) (fun hf => ?_)
          · refine j_iload C 1 dX9_lampsOf_103 rfl ?_
            refine j_iconst C (v := 2) dX9_lampsOf_105 (by decide) ?_
            refine j_icmp_ne C 111 dX9_lampsOf_106 (by decide) hf (fun hf => ?_) (fun hf => ?_)
            · refine j_iconst C (v := 0) dX9_lampsOf_109 (by decide) ?_
              cases hf
              exact ret _ _ dX9_lampsOf_110 (fun h => by cases h)
            · refine j_iload C 0 dX9_lampsOf_111 rfl ?_
              refine j_iconst C (v := 2) dX9_lampsOf_113 (by decide) ?_
              refine j_icmp_ne C 130 dX9_lampsOf_114 (by decide) hf (fun hf => ?_) (fun hf => ?_)
              · refine j_iload C 1 dX9_lampsOf_117 rfl ?_
                refine j_iconst C (v := 4) dX9_lampsOf_119 (by decide) ?_
                refine j_icmp_eq C 130 dX9_lampsOf_120 (by decide) hf (fun hf => ?_) (fun hf => ?_)
                · refine j_iload C 1 dX9_lampsOf_130 rfl ?_
                  cases hf
                  exact ret _ _ dX9_lampsOf_132 (fun h => by cases h)
                · refine j_iload C 1 dX9_lampsOf_123 rfl ?_
                  refine j_iconst C (v := 4) dX9_lampsOf_125 (by decide) ?_
                  refine j_iadd C dX9_lampsOf_126 ?_
                  refine j_goto C 132 dX9_lampsOf_127 (by decide) ?_
                  cases hf
                  exact ret _ _ dX9_lampsOf_132 (fun h => by cases h)
              · refine j_iload C 1 dX9_lampsOf_130 rfl ?_
                cases hf
                exact ret _ _ dX9_lampsOf_132 (fun h => by cases h)
          · refine j_iload C 0 dX9_lampsOf_111 rfl ?_
            refine j_iconst C (v := 2) dX9_lampsOf_113 (by decide) ?_
            refine j_icmp_ne C 130 dX9_lampsOf_114 (by decide) hf (fun hf => ?_) (fun hf => ?_)
            · refine j_iload C 1 dX9_lampsOf_117 rfl ?_
              refine j_iconst C (v := 4) dX9_lampsOf_119 (by decide) ?_
              refine j_icmp_eq C 130 dX9_lampsOf_120 (by decide) hf (fun hf => ?_) (fun hf => ?_)
              · refine j_iload C 1 dX9_lampsOf_130 rfl ?_
                cases hf
                exact ret _ _ dX9_lampsOf_132 (fun h => by cases h)
              · refine j_iload C 1 dX9_lampsOf_123 rfl ?_
                refine j_iconst C (v := 4) dX9_lampsOf_125 (by decide) ?_
                refine j_iadd C dX9_lampsOf_126 ?_
                refine j_goto C 132 dX9_lampsOf_127 (by decide) ?_
                cases hf
                exact ret _ _ dX9_lampsOf_132 (fun h => by cases h)
            · refine j_iload C 1 dX9_lampsOf_130 rfl ?_
              cases hf
              exact ret _ _ dX9_lampsOf_132 (fun h => by cases h)
      · refine j_iload C 0 dX9_lampsOf_97 rfl ?_
        refine j_iconst C (v := 3) dX9_lampsOf_99 (by decide) ?_
        refine j_icmp_ne C 111 dX9_lampsOf_100 (by decide) hf (fun hf => ?_) (fun hf => ?_)
        · refine j_iload C 1 dX9_lampsOf_103 rfl ?_
          refine j_iconst C (v := 2) dX9_lampsOf_105 (by decide) ?_
          refine j_icmp_ne C 111 dX9_lampsOf_106 (by decide) hf (fun hf => ?_) (fun hf => ?_)
          · refine j_iconst C (v := 0) dX9_lampsOf_109 (by decide) ?_
            cases hf
            exact ret _ _ dX9_lampsOf_110 (fun h => by cases h)
          · refine j_iload C 0 dX9_lampsOf_111 rfl ?_
            refine j_iconst C (v := 2) dX9_lampsOf_113 (by decide) ?_
            refine j_icmp_ne C 130 dX9_lampsOf_114 (by decide) hf (fun hf => ?_) (fun hf => ?_)
            · refine j_iload C 1 dX9_lampsOf_117 rfl ?_
              refine j_iconst C (v := 4) dX9_lampsOf_119 (by decide) ?_
              refine j_icmp_eq C 130 dX9_lampsOf_120 (by decide) hf (fun hf => ?_) (fun hf => ?_)
              · refine j_iload C 1 dX9_lampsOf_130 rfl ?_
                cases hf
                exact ret _ _ dX9_lampsOf_132 (fun h => by cases h)
              · refine j_iload C 1 dX9_lampsOf_123 rfl ?_
                refine j_iconst C (v := 4) dX9_lampsOf_125 (by decide) ?_
                refine j_iadd C dX9_lampsOf_126 ?_
                refine j_goto C 132 dX9_lampsOf_127 (by decide) ?_
                cases hf
                exact ret _ _ dX9_lampsOf_132 (fun h => by cases h)
            · refine j_iload C 1 dX9_lampsOf_130 rfl ?_
              cases hf
              exact ret _ _ dX9_lampsOf_132 (fun h => by cases h)
        · refine j_iload C 0 dX9_lampsOf_111 rfl ?_
          refine j_iconst C (v := 2) dX9_lampsOf_113 (by decide) ?_
          refine j_icmp_ne C 130 dX9_lampsOf_114 (by decide) hf (fun hf => ?_) (fun hf => ?_)
          · refine j_iload C 1 dX9_lampsOf_117 rfl ?_
            refine j_iconst C (v := 4) dX9_lampsOf_119 (by decide) ?_
            refine j_icmp_eq C 130 dX9_lampsOf_120 (by decide) hf (fun hf => ?_) (fun hf => ?_)
            · refine j_iload C 1 dX9_lampsOf_130 rfl ?_
              cases hf
              exact ret _ _ dX9_lampsOf_132 (fun h => by cases h)
            · refine j_iload C 1 dX9_lampsOf_123 rfl ?_
              refine j_iconst C (v := 4) dX9_lampsOf_125 (by decide) ?_
              refine j_iadd C dX9_lampsOf_126 ?_
              refine j_goto C 132 dX9_lampsOf_127 (by decide) ?_
              cases hf
              exact ret _ _ dX9_lampsOf_132 (fun h => by cases h)
          · refine j_iload C 1 dX9_lampsOf_130 rfl ?_
            cases hf
            exact ret _ _ dX9_lampsOf_132 (fun h => by cases h)
    clear hf
    have hf := h5
    clear h5
    refine j_if_eq C 51 dX9_lampsOf_28 (by decide) hf (fun hf => ?_) (fun hf => ?_)
    · refine j_iconst C (v := 1) dX9_lampsOf_51 (by decide) ?_
      refine j_goto C 70 dX9_lampsOf_52 (by decide) ?_
      cases hf
      refine j_sub [1, 2, 3, 0] rfl ?_
      exact jj6
    · refine j_aload_n C 1 dX9_lampsOf_31 rfl rfl ?_
      refine j_get C 21 iX9_lampsOf_X9 h_0 rfl (by decide) mX9_lampsOf_f70 rfl rfl dX9_lampsOf_32 ?_
      refine j_iload_n C 0 dX9_lampsOf_35 rfl rfl ?_
      refine j_iald C 0 h_20 rfl dX9_lampsOf_36 hf (fun hf => ?_)
      refine j_iload_n C 3 dX9_lampsOf_37 rfl rfl ?_
      refine j_icmp_ne C 51 dX9_lampsOf_38 (by decide) hf (fun hf => ?_) (fun hf => ?_)
      · refine j_aload_n C 1 dX9_lampsOf_41 rfl rfl ?_
        refine j_get C 20 iX9_lampsOf_X9 h_0 rfl (by decide) mX9_lampsOf_f67 rfl rfl dX9_lampsOf_42 ?_
        refine j_iload_n C 0 dX9_lampsOf_45 rfl rfl ?_
        refine j_iald C 0 h_19 rfl dX9_lampsOf_46 hf (fun hf => ?_)
        refine j_iconst C (v := 3) dX9_lampsOf_47 (by decide) ?_
        refine j_icmp_ne C 55 dX9_lampsOf_48 (by decide) hf (fun hf => ?_) (fun hf => ?_)
        · refine j_iconst C (v := 1) dX9_lampsOf_51 (by decide) ?_
          refine j_goto C 70 dX9_lampsOf_52 (by decide) ?_
          cases hf
          refine j_sub [1, 2, 3, 0] rfl ?_
          exact jj6
        · refine j_aload_n C 1 dX9_lampsOf_55 rfl rfl ?_
          refine j_get C 20 iX9_lampsOf_X9 h_0 rfl (by decide) mX9_lampsOf_f67 rfl rfl dX9_lampsOf_56 ?_
          refine j_iload_n C 0 dX9_lampsOf_59 rfl rfl ?_
          refine j_iald C 0 h_19 rfl dX9_lampsOf_60 hf (fun hf => ?_)
          refine j_iconst C (v := 1) dX9_lampsOf_61 (by decide) ?_
          refine j_icmp_ne C 69 dX9_lampsOf_62 (by decide) hf (fun hf => ?_) (fun hf => ?_)
          · refine j_iconst C (v := 4) dX9_lampsOf_65 (by decide) ?_
            refine j_goto C 70 dX9_lampsOf_66 (by decide) ?_
            cases hf
            refine j_sub [1, 2, 3, 0] rfl ?_
            exact jj6
          · refine j_iconst C (v := 2) dX9_lampsOf_69 (by decide) ?_
            cases hf
            refine j_sub [1, 2, 3, 0] rfl ?_
            exact jj6
      · refine j_iconst C (v := 1) dX9_lampsOf_51 (by decide) ?_
        refine j_goto C 70 dX9_lampsOf_52 (by decide) ?_
        cases hf
        refine j_sub [1, 2, 3, 0] rfl ?_
        exact jj6
/-- BarrierLightsModel.conflict(I)Z -/
def f_X9_conflict_L13 (c1 : Int32) (c3 : Int32) : Nat → Int32 → Int32 → Mem → Option (Int32 × Int32)
  | 0, _, _, _ => none
  | n + 1, y2, y4, K => if c3 ≤ y4 then (some (y2, y4)) else ((if y2 = 0 then (if inb ((8 * c1) + c3) 16 = true then (if (K 15 (ix ((8 * c1) + c3))) ≤ 1 then (some 0) else (if inb ((8 * c1) + y4) 16 = true then (if (K 15 (ix ((8 * c1) + y4))) ≤ 1 then (some 0) else ((if 4 ≤ c3 then (some 0) else (some 1) : Option (Int32)).bind fun v7 => (if 4 ≤ y4 then (some 0) else (some 1) : Option (Int32)).bind fun v10 => if v7 = v10 then (some 1) else ((f_X9_sideOf c3 K).bind fun u13 => (f_X9_sideOf y4 K).bind fun u15 => if u13 = u15 then (some 0) else (some 1)))) else none)) else none) else (some 1) : Option (Int32)).bind fun v4 => lt v4 fun x17 => lt (y4 + 1) fun x18 => f_X9_conflict_L13 c1 c3 n x17 x18 K)
def f_X9_conflict_L4 (c1 : Int32) : Nat → Int32 → Int32 → Mem → Option (Int32 × Int32)
  | 0, _, _, _ => none
  | n + 1, y2, y3, K => if 8 ≤ y3 then (some (y2, y3)) else (lt 0 fun x3 => (f_X9_conflict_L13 c1 y3 70 y2 x3 K).bind fun v19 => lt (y3 + 1) fun x21 => f_X9_conflict_L4 c1 n v19.1 x21 K)
def f_X9_conflict (p1 : Int32) (K : Mem) : Option (Int32) := lt 0 fun x1 => lt 0 fun x2 => (f_X9_conflict_L4 p1 70 x1 x2 K).bind fun v22 => if bb v22.1 = true then some v22.1 else none
abbrev rmX9_conflict : Room := { frames := 1, cells := 0, slots := 0, locals := 20 }
theorem iX9_conflict_X9 : ∀ w ∈ u_ws RX9 TX9 37, w ∈ wsX9_conflict := fun _ h => List.mem_cons_of_mem _ (List.mem_append_right _ h)
theorem mX9_conflict_f55 : Cond.fieldLink RX9 55 "BarrierLightsModel" "shown" "[I" ∈ wsX9_conflict := by decide +kernel
set_option maxRecDepth 100000 in
set_option maxHeartbeats 4000000 in
theorem lp_X9_conflict_L13 {l : Launch} {D : va_G} {ad : Nat → Nat} {aI aZ aS aF : ClassId} {G : jG} {c1 : Int32} {c3 : Int32} (C : jC (EM l D ad aI aZ aS aF) G cX9_conflict yX9_conflict.cls wsX9_conflict rmX9_conflict 5) : ∀ (n : Nat) (y2 y4 : Int32) (K : Mem) (v : Int32 × Int32), f_X9_conflict_L13 c1 c3 n y2 y4 K = some v → jW (EM l D ad aI aZ aS aF) G K 102 [(0, .ref (ad 0)), (1, .int c1), (2, .int v.1), (3, .int c3), (4, .int v.2)] [] → jW (EM l D ad aI aZ aS aF) G K 13 [(0, .ref (ad 0)), (1, .int c1), (2, .int y2), (3, .int c3), (4, .int y4)] [] := by
  intro n
  induction n with
  | zero =>
    intro y2 y4 K v hf jj
    rw [f_X9_conflict_L13] at hf
    cases hf
  | succ n ih =>
    intro y2 y4 K v hf jj
    rw [f_X9_conflict_L13] at hf
    refine j_iload C 4 dX9_conflict_13 rfl ?_
    refine j_iload_n C 3 dX9_conflict_15 rfl rfl ?_
    refine j_icmp_ge C 102 dX9_conflict_16 (by decide) hf (fun hf => ?_) (fun hf => ?_)
    · cases hf
      exact jj
    · refine j_iload_n C 2 dX9_conflict_19 rfl rfl ?_
      obtain ⟨v4, h5, hf⟩ := bd hf
      have jj6 : jW (EM l D ad aI aZ aS aF) G K 95 [(0, .ref (ad 0)), (1, .int c1), (2, .int y2), (3, .int c3), (4, .int y4)] [.int v4] := by
        refine j_istore_n C (fun y => [(2, .int y), (0, .ref (ad 0)), (1, .int c1), (3, .int c3), (4, .int y4)]) dX9_conflict_95 rfl (by decide) (fun _ => rfl) hf (fun x17 hf => ?_)
        refine j_iinc C (v := (y4 + 1)) 4 (fun y => [(4, .int y), (2, .int x17), (0, .ref (ad 0)), (1, .int c1), (3, .int c3)]) dX9_conflict_96 rfl rfl (by decide) (fun _ => rfl) hf (fun x18 hf => ?_)
        refine j_goto C 13 dX9_conflict_99 (by decide) ?_
        refine j_sub [2, 3, 1, 4, 0] rfl ?_
        exact ih _ _ _ _ hf jj
      clear hf
      have hf := h5
      clear h5
      refine j_if_ne C 90 dX9_conflict_20 (by decide) hf (fun hf => ?_) (fun hf => ?_)
      · refine j_aload_n C 0 dX9_conflict_23 rfl rfl ?_
        refine j_get C 16 iX9_conflict_X9 h_0 rfl (by decide) mX9_conflict_f55 rfl rfl dX9_conflict_24 ?_
        refine j_bipush C (v := 8) dX9_conflict_27 (by decide) ?_
        refine j_iload_n C 1 dX9_conflict_29 rfl rfl ?_
        refine j_imul C dX9_conflict_30 ?_
        refine j_iload_n C 3 dX9_conflict_31 rfl rfl ?_
        refine j_iadd C dX9_conflict_32 ?_
        refine j_iald C 0 h_15 rfl dX9_conflict_33 hf (fun hf => ?_)
        refine j_iconst C (v := 1) dX9_conflict_34 (by decide) ?_
        refine j_icmp_le C 94 dX9_conflict_35 (by decide) hf (fun hf => ?_) (fun hf => ?_)
        · refine j_iconst C (v := 0) dX9_conflict_94 (by decide) ?_
          cases hf
          exact jj6
        · refine j_aload_n C 0 dX9_conflict_38 rfl rfl ?_
          refine j_get C 16 iX9_conflict_X9 h_0 rfl (by decide) mX9_conflict_f55 rfl rfl dX9_conflict_39 ?_
          refine j_bipush C (v := 8) dX9_conflict_42 (by decide) ?_
          refine j_iload_n C 1 dX9_conflict_44 rfl rfl ?_
          refine j_imul C dX9_conflict_45 ?_
          refine j_iload C 4 dX9_conflict_46 rfl ?_
          refine j_iadd C dX9_conflict_48 ?_
          refine j_iald C 0 h_15 rfl dX9_conflict_49 hf (fun hf => ?_)
          refine j_iconst C (v := 1) dX9_conflict_50 (by decide) ?_
          refine j_icmp_le C 94 dX9_conflict_51 (by decide) hf (fun hf => ?_) (fun hf => ?_)
          · refine j_iconst C (v := 0) dX9_conflict_94 (by decide) ?_
            cases hf
            exact jj6
          · refine j_iload_n C 3 dX9_conflict_54 rfl rfl ?_
            refine j_iconst C (v := 4) dX9_conflict_55 (by decide) ?_
            obtain ⟨v7, h8, hf⟩ := bd hf
            have jj9 : jW (EM l D ad aI aZ aS aF) G K 64 [(0, .ref (ad 0)), (1, .int c1), (2, .int y2), (3, .int c3), (4, .int y4)] [.int v7] := by
              refine j_iload C 4 dX9_conflict_64 rfl ?_
              refine j_iconst C (v := 4) dX9_conflict_66 (by decide) ?_
              obtain ⟨v10, h11, hf⟩ := bd hf
              have jj12 : jW (EM l D ad aI aZ aS aF) G K 75 [(0, .ref (ad 0)), (1, .int c1), (2, .int y2), (3, .int c3), (4, .int y4)] [.int v10, .int v7] := by
                refine j_icmp_eq C 90 dX9_conflict_75 (by decide) hf (fun hf => ?_) (fun hf => ?_)
                · refine j_iconst C (v := 1) dX9_conflict_90 (by decide) ?_
                  refine j_goto C 95 dX9_conflict_91 (by decide) ?_
                  cases hf
                  exact jj6
                · refine j_iload_n C 3 dX9_conflict_78 rfl rfl ?_
                  obtain ⟨u13, h14, hf⟩ := bd hf
                  refine j_cSI C [.int c3] gX9_conflict_X9_sideOf rfl hdX9_sideOf.2 ⟨⟨rfl, rfl⟩, Nat.le_of_ble_eq_true rfl, Nat.le_of_ble_eq_true rfl⟩ rfl (k_X9_sideOf h14) dX9_conflict_79 rfl (Nat.le_of_ble_eq_true rfl) ?_
                  refine j_iload C 4 dX9_conflict_82 rfl ?_
                  obtain ⟨u15, h16, hf⟩ := bd hf
                  refine j_cSI C [.int y4] gX9_conflict_X9_sideOf rfl hdX9_sideOf.2 ⟨⟨rfl, rfl⟩, Nat.le_of_ble_eq_true rfl, Nat.le_of_ble_eq_true rfl⟩ rfl (k_X9_sideOf h16) dX9_conflict_84 rfl (Nat.le_of_ble_eq_true rfl) ?_
                  refine j_icmp_eq C 94 dX9_conflict_87 (by decide) hf (fun hf => ?_) (fun hf => ?_)
                  · refine j_iconst C (v := 0) dX9_conflict_94 (by decide) ?_
                    cases hf
                    exact jj6
                  · refine j_iconst C (v := 1) dX9_conflict_90 (by decide) ?_
                    refine j_goto C 95 dX9_conflict_91 (by decide) ?_
                    cases hf
                    exact jj6
              clear hf
              have hf := h11
              clear h11
              refine j_icmp_ge C 74 dX9_conflict_67 (by decide) hf (fun hf => ?_) (fun hf => ?_)
              · refine j_iconst C (v := 0) dX9_conflict_74 (by decide) ?_
                cases hf
                exact jj12
              · refine j_iconst C (v := 1) dX9_conflict_70 (by decide) ?_
                refine j_goto C 75 dX9_conflict_71 (by decide) ?_
                cases hf
                exact jj12
            clear hf
            have hf := h8
            clear h8
            refine j_icmp_ge C 63 dX9_conflict_56 (by decide) hf (fun hf => ?_) (fun hf => ?_)
            · refine j_iconst C (v := 0) dX9_conflict_63 (by decide) ?_
              cases hf
              exact jj9
            · refine j_iconst C (v := 1) dX9_conflict_59 (by decide) ?_
              refine j_goto C 64 dX9_conflict_60 (by decide) ?_
              cases hf
              exact jj9
      · refine j_iconst C (v := 1) dX9_conflict_90 (by decide) ?_
        refine j_goto C 95 dX9_conflict_91 (by decide) ?_
        cases hf
        exact jj6
set_option maxRecDepth 100000 in
set_option maxHeartbeats 4000000 in
theorem lp_X9_conflict_L4 {l : Launch} {D : va_G} {ad : Nat → Nat} {aI aZ aS aF : ClassId} {G : jG} {c1 : Int32} (C : jC (EM l D ad aI aZ aS aF) G cX9_conflict yX9_conflict.cls wsX9_conflict rmX9_conflict 5) : ∀ (n : Nat) (y2 y3 : Int32) (K : Mem) (v : Int32 × Int32), f_X9_conflict_L4 c1 n y2 y3 K = some v → jW (EM l D ad aI aZ aS aF) G K 108 [(0, .ref (ad 0)), (1, .int c1), (2, .int v.1), (3, .int v.2)] [] → jW (EM l D ad aI aZ aS aF) G K 4 [(0, .ref (ad 0)), (1, .int c1), (2, .int y2), (3, .int y3)] [] := by
  intro n
  induction n with
  | zero =>
    intro y2 y3 K v hf jj
    rw [f_X9_conflict_L4] at hf
    cases hf
  | succ n ih =>
    intro y2 y3 K v hf jj
    rw [f_X9_conflict_L4] at hf
    refine j_iload_n C 3 dX9_conflict_4 rfl rfl ?_
    refine j_bipush C (v := 8) dX9_conflict_5 (by decide) ?_
    refine j_icmp_ge C 108 dX9_conflict_7 (by decide) hf (fun hf => ?_) (fun hf => ?_)
    · cases hf
      exact jj
    · refine j_iconst C (v := 0) dX9_conflict_10 (by decide) ?_
      refine j_istore C (fun y => [(4, .int y), (0, .ref (ad 0)), (1, .int c1), (2, .int y2), (3, .int y3)]) dX9_conflict_11 (by decide) (fun _ => rfl) hf (fun x3 hf => ?_)
      obtain ⟨v19, h20, hf⟩ := bd hf
      refine j_sub [1, 2, 3, 4, 0] (lv2 := [(0, .ref (ad 0)), (1, .int c1), (2, .int y2), (3, .int y3), (4, .int x3)]) rfl ?_
      refine lp_X9_conflict_L13 C 70 _ _ _ _ h20 ?_
      refine j_iinc C (v := (y3 + 1)) 3 (fun y => [(3, .int y), (0, .ref (ad 0)), (1, .int c1), (2, .int v19.1), (4, .int v19.2)]) dX9_conflict_102 rfl rfl (by decide) (fun _ => rfl) hf (fun x21 hf => ?_)
      refine j_goto C 4 dX9_conflict_105 (by decide) ?_
      refine j_sub [1, 2, 3, 0] rfl ?_
      exact ih _ _ _ _ hf jj
set_option maxRecDepth 100000 in
set_option maxHeartbeats 4000000 in
theorem k_X9_conflict {l : Launch} {D : va_G} {ad : Nat → Nat} {aI aZ aS aF : ClassId} {p1 : Int32} {K : Mem} {u : Int32} (hf : f_X9_conflict p1 K = some u) : cI (EM l D ad aI aZ aS aF) yX9_conflict wsX9_conflict rmX9_conflict [.ref (ad 0), .int p1] K u K := by
  rw [f_X9_conflict] at hf
  refine j_entI (cc := cX9_conflict) (maxL := 5) (EM_ok l D ad aI aZ aS aF) (Or.inr rfl) (by decide) rfl (Nat.le_of_ble_eq_true rfl) (fun G C ret => ?_)
  refine j_sub [0, 1] (lv2 := [(0, .ref (ad 0)), (1, .int p1)]) rfl ?_
  refine j_iconst C (v := 0) dX9_conflict_0 (by decide) ?_
  refine j_istore_n C (fun y => [(2, .int y), (0, .ref (ad 0)), (1, .int p1)]) dX9_conflict_1 rfl (by decide) (fun _ => rfl) hf (fun x1 hf => ?_)
  refine j_iconst C (v := 0) dX9_conflict_2 (by decide) ?_
  refine j_istore_n C (fun y => [(3, .int y), (2, .int x1), (0, .ref (ad 0)), (1, .int p1)]) dX9_conflict_3 rfl (by decide) (fun _ => rfl) hf (fun x2 hf => ?_)
  obtain ⟨v22, h23, hf⟩ := bd hf
  refine j_sub [2, 3, 1, 0] (lv2 := [(0, .ref (ad 0)), (1, .int p1), (2, .int x1), (3, .int x2)]) rfl ?_
  refine lp_X9_conflict_L4 C 70 _ _ _ _ h23 ?_
  refine j_iload_n C 2 dX9_conflict_108 rfl rfl ?_
  refine j_chk hf (fun hb24 hf => ?_)
  cases hf
  exact ret _ _ dX9_conflict_109 (fun _ => hb24)
/-- BarrierLightsModel.dark(I)Z -/
def f_X9_dark_L7 (c1 : Int32) : Nat → Int32 → Int32 → Mem → Option (Int32 × Int32 × Mem)
  | 0, _, _, _ => none
  | n + 1, y2, y3, K => if ((8 * c1) + 8) ≤ y3 then (some (y2, y3, K)) else (if inb y3 16 = true then ((if (K 8 (ix y3)) = 0 then (some 0) else (if inb y3 16 = true then (if (K 15 (ix y3)) = 0 then (if inb y3 16 = true then (some ((K 16 (ix y3)) + 1)) else none) else (some 0)) else none) : Option (Int32)).bind fun v3 => if inb y3 16 = true then (st K 16 (ix y3) v3 fun K6 => (if y2 = 0 then (if inb y3 16 = true then (if (K6 16 (ix y3)) ≤ 1 then (some 0) else (some 1)) else none) else (some 1) : Option (Int32)).bind fun v7 => lt v7 fun x10 => lt (y3 + 1) fun x11 => f_X9_dark_L7 c1 n x10 x11 K6) else none) else none)
def f_X9_dark (p1 : Int32) (K : Mem) : Option (Int32 × Mem) := lt 0 fun x1 => lt (8 * p1) fun x2 => (f_X9_dark_L7 p1 70 x1 x2 K).bind fun v12 => if bb v12.1 = true then some (v12.1, v12.2.2) else none
abbrev rmX9_dark : Room := { frames := 0, cells := 0, slots := 0, locals := 0 }
theorem iX9_dark_X9 : ∀ w ∈ u_ws RX9 TX9 37, w ∈ wsX9_dark := fun _ h => List.mem_cons_of_mem _ (List.mem_append_right _ h)
theorem mX9_dark_f58 : Cond.fieldLink RX9 58 "BarrierLightsModel" "darks" "[I" ∈ wsX9_dark := by decide +kernel
theorem mX9_dark_f33 : Cond.fieldLink RX9 33 "BarrierLightsModel" "used" "[Z" ∈ wsX9_dark := by decide +kernel
theorem mX9_dark_f55 : Cond.fieldLink RX9 55 "BarrierLightsModel" "shown" "[I" ∈ wsX9_dark := by decide +kernel
set_option maxRecDepth 100000 in
set_option maxHeartbeats 4000000 in
theorem lp_X9_dark_L7 {l : Launch} {D : va_G} {ad : Nat → Nat} {aI aZ aS aF : ClassId} {G : jG} {c1 : Int32} (C : jC (EM l D ad aI aZ aS aF) G cX9_dark yX9_dark.cls wsX9_dark rmX9_dark 4) : ∀ (n : Nat) (y2 y3 : Int32) (K : Mem) (v : Int32 × Int32 × Mem), f_X9_dark_L7 c1 n y2 y3 K = some v → jW (EM l D ad aI aZ aS aF) G v.2.2 80 [(0, .ref (ad 0)), (1, .int c1), (2, .int v.1), (3, .int v.2.1)] [] → jW (EM l D ad aI aZ aS aF) G K 7 [(0, .ref (ad 0)), (1, .int c1), (2, .int y2), (3, .int y3)] [] := by
  intro n
  induction n with
  | zero =>
    intro y2 y3 K v hf jj
    rw [f_X9_dark_L7] at hf
    cases hf
  | succ n ih =>
    intro y2 y3 K v hf jj
    rw [f_X9_dark_L7] at hf
    refine j_iload_n C 3 dX9_dark_7 rfl rfl ?_
    refine j_bipush C (v := 8) dX9_dark_8 (by decide) ?_
    refine j_iload_n C 1 dX9_dark_10 rfl rfl ?_
    refine j_imul C dX9_dark_11 ?_
    refine j_bipush C (v := 8) dX9_dark_12 (by decide) ?_
    refine j_iadd C dX9_dark_14 ?_
    refine j_icmp_ge C 80 dX9_dark_15 (by decide) hf (fun hf => ?_) (fun hf => ?_)
    · cases hf
      exact jj
    · refine j_aload_n C 0 dX9_dark_18 rfl rfl ?_
      refine j_get C 17 iX9_dark_X9 h_0 rfl (by decide) mX9_dark_f58 rfl rfl dX9_dark_19 ?_
      refine j_iload_n C 3 dX9_dark_22 rfl rfl ?_
      refine j_aload_n C 0 dX9_dark_23 rfl rfl ?_
      refine j_get C 9 iX9_dark_X9 h_0 rfl (by decide) mX9_dark_f33 rfl rfl dX9_dark_24 ?_
      refine j_iload_n C 3 dX9_dark_27 rfl rfl ?_
      refine j_zald C 1 h_8 rfl dX9_dark_28 hf (fun hf => ?_)
      obtain ⟨v3, h4, hf⟩ := bd hf
      have jj5 : jW (EM l D ad aI aZ aS aF) G K 53 [(0, .ref (ad 0)), (1, .int c1), (2, .int y2), (3, .int y3)] [.int v3, .int y3, .ref (ad 16)] := by
        refine j_iast C 0 h_16 (t_16 _ _) rfl dX9_dark_53 hf (fun K6 hf => ?_)
        refine j_iload_n C 2 dX9_dark_54 rfl rfl ?_
        obtain ⟨v7, h8, hf⟩ := bd hf
        have jj9 : jW (EM l D ad aI aZ aS aF) G K6 73 [(0, .ref (ad 0)), (1, .int c1), (2, .int y2), (3, .int y3)] [.int v7] := by
          refine j_istore_n C (fun y => [(2, .int y), (0, .ref (ad 0)), (1, .int c1), (3, .int y3)]) dX9_dark_73 rfl (by decide) (fun _ => rfl) hf (fun x10 hf => ?_)
          refine j_iinc C (v := (y3 + 1)) 3 (fun y => [(3, .int y), (2, .int x10), (0, .ref (ad 0)), (1, .int c1)]) dX9_dark_74 rfl rfl (by decide) (fun _ => rfl) hf (fun x11 hf => ?_)
          refine j_goto C 7 dX9_dark_77 (by decide) ?_
          refine j_sub [2, 3, 1, 0] rfl ?_
          exact ih _ _ _ _ hf jj
        clear hf
        have hf := h8
        clear h8
        refine j_if_ne C 68 dX9_dark_55 (by decide) hf (fun hf => ?_) (fun hf => ?_)
        · refine j_aload_n C 0 dX9_dark_58 rfl rfl ?_
          refine j_get C 17 iX9_dark_X9 h_0 rfl (by decide) mX9_dark_f58 rfl rfl dX9_dark_59 ?_
          refine j_iload_n C 3 dX9_dark_62 rfl rfl ?_
          refine j_iald C 0 h_16 rfl dX9_dark_63 hf (fun hf => ?_)
          refine j_iconst C (v := 1) dX9_dark_64 (by decide) ?_
          refine j_icmp_le C 72 dX9_dark_65 (by decide) hf (fun hf => ?_) (fun hf => ?_)
          · refine j_iconst C (v := 0) dX9_dark_72 (by decide) ?_
            cases hf
            exact jj9
          · refine j_iconst C (v := 1) dX9_dark_68 (by decide) ?_
            refine j_goto C 73 dX9_dark_69 (by decide) ?_
            cases hf
            exact jj9
        · refine j_iconst C (v := 1) dX9_dark_68 (by decide) ?_
          refine j_goto C 73 dX9_dark_69 (by decide) ?_
          cases hf
          exact jj9
      clear hf
      have hf := h4
      clear h4
      refine j_if_eq C 52 dX9_dark_29 (by decide) hf (fun hf => ?_) (fun hf => ?_)
      · refine j_iconst C (v := 0) dX9_dark_52 (by decide) ?_
        cases hf
        exact jj5
      · refine j_aload_n C 0 dX9_dark_32 rfl rfl ?_
        refine j_get C 16 iX9_dark_X9 h_0 rfl (by decide) mX9_dark_f55 rfl rfl dX9_dark_33 ?_
        refine j_iload_n C 3 dX9_dark_36 rfl rfl ?_
        refine j_iald C 0 h_15 rfl dX9_dark_37 hf (fun hf => ?_)
        refine j_if_ne C 52 dX9_dark_38 (by decide) hf (fun hf => ?_) (fun hf => ?_)
        · refine j_aload_n C 0 dX9_dark_41 rfl rfl ?_
          refine j_get C 17 iX9_dark_X9 h_0 rfl (by decide) mX9_dark_f58 rfl rfl dX9_dark_42 ?_
          refine j_iload_n C 3 dX9_dark_45 rfl rfl ?_
          refine j_iald C 0 h_16 rfl dX9_dark_46 hf (fun hf => ?_)
          refine j_iconst C (v := 1) dX9_dark_47 (by decide) ?_
          refine j_iadd C dX9_dark_48 ?_
          refine j_goto C 53 dX9_dark_49 (by decide) ?_
          cases hf
          exact jj5
        · refine j_iconst C (v := 0) dX9_dark_52 (by decide) ?_
          cases hf
          exact jj5
set_option maxRecDepth 100000 in
set_option maxHeartbeats 4000000 in
theorem k_X9_dark {l : Launch} {D : va_G} {ad : Nat → Nat} {aI aZ aS aF : ClassId} {p1 : Int32} {K : Mem} {u : Int32 × Mem} (hf : f_X9_dark p1 K = some u) : cI (EM l D ad aI aZ aS aF) yX9_dark wsX9_dark rmX9_dark [.ref (ad 0), .int p1] K u.1 u.2 := by
  rw [f_X9_dark] at hf
  refine j_entI (cc := cX9_dark) (maxL := 4) (EM_ok l D ad aI aZ aS aF) (Or.inr rfl) (by decide) rfl (Nat.le_of_ble_eq_true rfl) (fun G C ret => ?_)
  refine j_sub [0, 1] (lv2 := [(0, .ref (ad 0)), (1, .int p1)]) rfl ?_
  refine j_iconst C (v := 0) dX9_dark_0 (by decide) ?_
  refine j_istore_n C (fun y => [(2, .int y), (0, .ref (ad 0)), (1, .int p1)]) dX9_dark_1 rfl (by decide) (fun _ => rfl) hf (fun x1 hf => ?_)
  refine j_bipush C (v := 8) dX9_dark_2 (by decide) ?_
  refine j_iload_n C 2 dX9_dark_4 rfl rfl ?_
  refine j_imul C dX9_dark_5 ?_
  refine j_istore_n C (fun y => [(3, .int y), (2, .int x1), (0, .ref (ad 0)), (1, .int p1)]) dX9_dark_6 rfl (by decide) (fun _ => rfl) hf (fun x2 hf => ?_)
  obtain ⟨v12, h13, hf⟩ := bd hf
  refine j_sub [2, 3, 1, 0] (lv2 := [(0, .ref (ad 0)), (1, .int p1), (2, .int x1), (3, .int x2)]) rfl ?_
  refine lp_X9_dark_L7 C 70 _ _ _ _ h13 ?_
  refine j_iload_n C 2 dX9_dark_80 rfl rfl ?_
  refine j_chk hf (fun hb14 hf => ?_)
  cases hf
  exact ret _ _ dX9_dark_81 (fun _ => hb14)
/-- BarrierLightsModel.tooShort(I)Z -/
def f_X9_tooShort_L7 (c1 : Int32) : Nat → Int32 → Int32 → Mem → Option (Int32 × Int32 × Mem)
  | 0, _, _, _ => none
  | n + 1, y2, y3, K => if ((8 * c1) + 8) ≤ y3 then (some (y2, y3, K)) else (if inb y3 16 = true then ((if (K 15 (ix y3)) ≤ 1 then (some 0) else (some 1) : Option (Int32)).bind fun v3 => lt v3 fun x6 => if inb y3 16 = true then ((if ((K 15 (ix y3)) &&& 4) = 0 then (if inb y3 16 = true then (if ((K 15 (ix y3)) &&& 2) = 0 then (some K) else (if inb y3 16 = true then (if inb y3 16 = true then (st K 18 (ix y3) ((K 18 (ix y3)) + 1) fun K10 => some K10) else none) else none)) else none) else (if inb y3 16 = true then (st K 18 (ix y3) 0 fun K11 => some K11) else none) : Option (Mem)).bind fun v7 => (if y2 = 0 then (if inb y3 16 = true then (if (v7 17 (ix y3)) = 0 then (some 0) else (if x6 = 0 then (if inb y3 16 = true then (if 3 ≤ (v7 18 (ix y3)) then (some 0) else (some 1)) else none) else (some 0))) else none) else (some 1) : Option (Int32)).bind fun v12 => lt v12 fun x15 => if inb y3 16 = true then (st v7 17 (ix y3) (vp_nar .boolean x6) fun K16 => lt (y3 + 1) fun x17 => f_X9_tooShort_L7 c1 n x15 x17 K16) else none) else none) else none)
def f_X9_tooShort (p1 : Int32) (K : Mem) : Option (Int32 × Mem) := lt 0 fun x1 => lt (8 * p1) fun x2 => (f_X9_tooShort_L7 p1 70 x1 x2 K).bind fun v18 => if bb v18.1 = true then some (v18.1, v18.2.2) else none
abbrev rmX9_tooShort : Room := { frames := 0, cells := 0, slots := 0, locals := 0 }
theorem iX9_tooShort_X9 : ∀ w ∈ u_ws RX9 TX9 37, w ∈ wsX9_tooShort := fun _ h => List.mem_cons_of_mem _ (List.mem_append_right _ h)
theorem mX9_tooShort_f55 : Cond.fieldLink RX9 55 "BarrierLightsModel" "shown" "[I" ∈ wsX9_tooShort := by decide +kernel
theorem mX9_tooShort_f64 : Cond.fieldLink RX9 64 "BarrierLightsModel" "yellows" "[I" ∈ wsX9_tooShort := by decide +kernel
theorem mX9_tooShort_f61 : Cond.fieldLink RX9 61 "BarrierLightsModel" "went" "[Z" ∈ wsX9_tooShort := by decide +kernel
set_option maxRecDepth 100000 in
set_option maxHeartbeats 4000000 in
theorem lp_X9_tooShort_L7 {l : Launch} {D : va_G} {ad : Nat → Nat} {aI aZ aS aF : ClassId} {G : jG} {c1 : Int32} (C : jC (EM l D ad aI aZ aS aF) G cX9_tooShort yX9_tooShort.cls wsX9_tooShort rmX9_tooShort 5) : ∀ (n : Nat) (y2 y3 : Int32) (K : Mem) (v : Int32 × Int32 × Mem), f_X9_tooShort_L7 c1 n y2 y3 K = some v → jW (EM l D ad aI aZ aS aF) G v.2.2 125 [(0, .ref (ad 0)), (1, .int c1), (2, .int v.1), (3, .int v.2.1)] [] → jW (EM l D ad aI aZ aS aF) G K 7 [(0, .ref (ad 0)), (1, .int c1), (2, .int y2), (3, .int y3)] [] := by
  intro n
  induction n with
  | zero =>
    intro y2 y3 K v hf jj
    rw [f_X9_tooShort_L7] at hf
    cases hf
  | succ n ih =>
    intro y2 y3 K v hf jj
    rw [f_X9_tooShort_L7] at hf
    refine j_iload_n C 3 dX9_tooShort_7 rfl rfl ?_
    refine j_bipush C (v := 8) dX9_tooShort_8 (by decide) ?_
    refine j_iload_n C 1 dX9_tooShort_10 rfl rfl ?_
    refine j_imul C dX9_tooShort_11 ?_
    refine j_bipush C (v := 8) dX9_tooShort_12 (by decide) ?_
    refine j_iadd C dX9_tooShort_14 ?_
    refine j_icmp_ge C 125 dX9_tooShort_15 (by decide) hf (fun hf => ?_) (fun hf => ?_)
    · cases hf
      exact jj
    · refine j_aload_n C 0 dX9_tooShort_18 rfl rfl ?_
      refine j_get C 16 iX9_tooShort_X9 h_0 rfl (by decide) mX9_tooShort_f55 rfl rfl dX9_tooShort_19 ?_
      refine j_iload_n C 3 dX9_tooShort_22 rfl rfl ?_
      refine j_iald C 0 h_15 rfl dX9_tooShort_23 hf (fun hf => ?_)
      refine j_iconst C (v := 1) dX9_tooShort_24 (by decide) ?_
      obtain ⟨v3, h4, hf⟩ := bd hf
      have jj5 : jW (EM l D ad aI aZ aS aF) G K 33 [(0, .ref (ad 0)), (1, .int c1), (2, .int y2), (3, .int y3)] [.int v3] := by
        refine j_istore C (fun y => [(4, .int y), (0, .ref (ad 0)), (1, .int c1), (2, .int y2), (3, .int y3)]) dX9_tooShort_33 (by decide) (fun _ => rfl) hf (fun x6 hf => ?_)
        refine j_aload_n C 1 dX9_tooShort_35 rfl rfl ?_
        refine j_get C 16 iX9_tooShort_X9 h_0 rfl (by decide) mX9_tooShort_f55 rfl rfl dX9_tooShort_36 ?_
        refine j_iload_n C 4 dX9_tooShort_39 rfl rfl ?_
        refine j_iald C 0 h_15 rfl dX9_tooShort_40 hf (fun hf => ?_)
        refine j_iconst C (v := 4) dX9_tooShort_41 (by decide) ?_
        refine j_iand C dX9_tooShort_42 ?_
        obtain ⟨v7, h8, hf⟩ := bd hf
        have jj9 : jW (EM l D ad aI aZ aS aF) G v7 77 [(0, .ref (ad 0)), (1, .int c1), (2, .int y2), (3, .int y3), (4, .int x6)] [] := by
          refine j_iload_n C 2 dX9_tooShort_77 rfl rfl ?_
          obtain ⟨v12, h13, hf⟩ := bd hf
          have jj14 : jW (EM l D ad aI aZ aS aF) G v7 110 [(0, .ref (ad 0)), (1, .int c1), (2, .int y2), (3, .int y3), (4, .int x6)] [.int v12] := by
            refine j_istore_n C (fun y => [(2, .int y), (0, .ref (ad 0)), (1, .int c1), (3, .int y3), (4, .int x6)]) dX9_tooShort_110 rfl (by decide) (fun _ => rfl) hf (fun x15 hf => ?_)
            refine j_aload_n C 1 dX9_tooShort_111 rfl rfl ?_
            refine j_get C 18 iX9_tooShort_X9 h_0 rfl (by decide) mX9_tooShort_f61 rfl rfl dX9_tooShort_112 ?_
            refine j_iload_n C 3 dX9_tooShort_115 rfl rfl ?_
            refine j_iload C 4 dX9_tooShort_116 rfl ?_
            refine j_zast C 1 h_17 (t_17 _ _) rfl dX9_tooShort_118 hf (fun K16 hf => ?_)
            refine j_iinc C (v := (y3 + 1)) 3 (fun y => [(3, .int y), (2, .int x15), (0, .ref (ad 0)), (1, .int c1), (4, .int x6)]) dX9_tooShort_119 rfl rfl (by decide) (fun _ => rfl) hf (fun x17 hf => ?_)
            refine j_goto C 7 dX9_tooShort_122 (by decide) ?_
            refine j_sub [2, 3, 1, 0] rfl ?_
            exact ih _ _ _ _ hf jj
          clear hf
          have hf := h13
          clear h13
          refine j_if_ne C 105 dX9_tooShort_78 (by decide) hf (fun hf => ?_) (fun hf => ?_)
          · refine j_aload_n C 0 dX9_tooShort_81 rfl rfl ?_
            refine j_get C 18 iX9_tooShort_X9 h_0 rfl (by decide) mX9_tooShort_f61 rfl rfl dX9_tooShort_82 ?_
            refine j_iload_n C 3 dX9_tooShort_85 rfl rfl ?_
            refine j_zald C 1 h_17 rfl dX9_tooShort_86 hf (fun hf => ?_)
            refine j_if_eq C 109 dX9_tooShort_87 (by decide) hf (fun hf => ?_) (fun hf => ?_)
            · refine j_iconst C (v := 0) dX9_tooShort_109 (by decide) ?_
              cases hf
              exact jj14
            · refine j_iload C 4 dX9_tooShort_90 rfl ?_
              refine j_if_ne C 109 dX9_tooShort_92 (by decide) hf (fun hf => ?_) (fun hf => ?_)
              · refine j_aload_n C 0 dX9_tooShort_95 rfl rfl ?_
                refine j_get C 19 iX9_tooShort_X9 h_0 rfl (by decide) mX9_tooShort_f64 rfl rfl dX9_tooShort_96 ?_
                refine j_iload_n C 3 dX9_tooShort_99 rfl rfl ?_
                refine j_iald C 0 h_18 rfl dX9_tooShort_100 hf (fun hf => ?_)
                refine j_iconst C (v := 3) dX9_tooShort_101 (by decide) ?_
                refine j_icmp_ge C 109 dX9_tooShort_102 (by decide) hf (fun hf => ?_) (fun hf => ?_)
                · refine j_iconst C (v := 0) dX9_tooShort_109 (by decide) ?_
                  cases hf
                  exact jj14
                · refine j_iconst C (v := 1) dX9_tooShort_105 (by decide) ?_
                  refine j_goto C 110 dX9_tooShort_106 (by decide) ?_
                  cases hf
                  exact jj14
              · refine j_iconst C (v := 0) dX9_tooShort_109 (by decide) ?_
                cases hf
                exact jj14
          · refine j_iconst C (v := 1) dX9_tooShort_105 (by decide) ?_
            refine j_goto C 110 dX9_tooShort_106 (by decide) ?_
            cases hf
            exact jj14
        clear hf
        have hf := h8
        clear h8
        refine j_if_eq C 56 dX9_tooShort_43 (by decide) hf (fun hf => ?_) (fun hf => ?_)
        · refine j_aload_n C 1 dX9_tooShort_56 rfl rfl ?_
          refine j_get C 16 iX9_tooShort_X9 h_0 rfl (by decide) mX9_tooShort_f55 rfl rfl dX9_tooShort_57 ?_
          refine j_iload_n C 4 dX9_tooShort_60 rfl rfl ?_
          refine j_iald C 0 h_15 rfl dX9_tooShort_61 hf (fun hf => ?_)
          refine j_iconst C (v := 2) dX9_tooShort_62 (by decide) ?_
          refine j_iand C dX9_tooShort_63 ?_
          refine j_if_eq C 77 dX9_tooShort_64 (by decide) hf (fun hf => ?_) (fun hf => ?_)
          · cases hf
            refine j_sub [1, 2, 3, 4, 0] rfl ?_
            exact jj9
          · refine j_aload_n C 1 dX9_tooShort_67 rfl rfl ?_
            refine j_get C 19 iX9_tooShort_X9 h_0 rfl (by decide) mX9_tooShort_f64 rfl rfl dX9_tooShort_68 ?_
            refine j_iload_n C 4 dX9_tooShort_71 rfl rfl ?_
            refine j_dup2 C dX9_tooShort_72 rfl rfl ?_
            refine j_iald C 0 h_18 rfl dX9_tooShort_73 hf (fun hf => ?_)
            refine j_iconst C (v := 1) dX9_tooShort_74 (by decide) ?_
            refine j_iadd C dX9_tooShort_75 ?_
            refine j_iast C 0 h_18 (t_18 _ _) rfl dX9_tooShort_76 hf (fun K10 hf => ?_)
            cases hf
            refine j_sub [1, 2, 3, 4, 0] rfl ?_
            exact jj9
        · refine j_aload_n C 1 dX9_tooShort_46 rfl rfl ?_
          refine j_get C 19 iX9_tooShort_X9 h_0 rfl (by decide) mX9_tooShort_f64 rfl rfl dX9_tooShort_47 ?_
          refine j_iload_n C 4 dX9_tooShort_50 rfl rfl ?_
          refine j_iconst C (v := 0) dX9_tooShort_51 (by decide) ?_
          refine j_iast C 0 h_18 (t_18 _ _) rfl dX9_tooShort_52 hf (fun K11 hf => ?_)
          refine j_goto C 77 dX9_tooShort_53 (by decide) ?_
          cases hf
          refine j_sub [1, 2, 3, 4, 0] rfl ?_
          exact jj9
      clear hf
      have hf := h4
      clear h4
      refine j_icmp_le C 32 dX9_tooShort_25 (by decide) hf (fun hf => ?_) (fun hf => ?_)
      · refine j_iconst C (v := 0) dX9_tooShort_32 (by decide) ?_
        cases hf
        exact jj5
      · refine j_iconst C (v := 1) dX9_tooShort_28 (by decide) ?_
        refine j_goto C 33 dX9_tooShort_29 (by decide) ?_
        cases hf
        exact jj5
set_option maxRecDepth 100000 in
set_option maxHeartbeats 4000000 in
theorem k_X9_tooShort {l : Launch} {D : va_G} {ad : Nat → Nat} {aI aZ aS aF : ClassId} {p1 : Int32} {K : Mem} {u : Int32 × Mem} (hf : f_X9_tooShort p1 K = some u) : cI (EM l D ad aI aZ aS aF) yX9_tooShort wsX9_tooShort rmX9_tooShort [.ref (ad 0), .int p1] K u.1 u.2 := by
  rw [f_X9_tooShort] at hf
  refine j_entI (cc := cX9_tooShort) (maxL := 5) (EM_ok l D ad aI aZ aS aF) (Or.inr rfl) (by decide) rfl (Nat.le_of_ble_eq_true rfl) (fun G C ret => ?_)
  refine j_sub [0, 1] (lv2 := [(0, .ref (ad 0)), (1, .int p1)]) rfl ?_
  refine j_iconst C (v := 0) dX9_tooShort_0 (by decide) ?_
  refine j_istore_n C (fun y => [(2, .int y), (0, .ref (ad 0)), (1, .int p1)]) dX9_tooShort_1 rfl (by decide) (fun _ => rfl) hf (fun x1 hf => ?_)
  refine j_bipush C (v := 8) dX9_tooShort_2 (by decide) ?_
  refine j_iload_n C 2 dX9_tooShort_4 rfl rfl ?_
  refine j_imul C dX9_tooShort_5 ?_
  refine j_istore_n C (fun y => [(3, .int y), (2, .int x1), (0, .ref (ad 0)), (1, .int p1)]) dX9_tooShort_6 rfl (by decide) (fun _ => rfl) hf (fun x2 hf => ?_)
  obtain ⟨v18, h19, hf⟩ := bd hf
  refine j_sub [2, 3, 1, 0] (lv2 := [(0, .ref (ad 0)), (1, .int p1), (2, .int x1), (3, .int x2)]) rfl ?_
  refine lp_X9_tooShort_L7 C 70 _ _ _ _ h19 ?_
  refine j_iload_n C 2 dX9_tooShort_125 rfl rfl ?_
  refine j_chk hf (fun hb20 hf => ?_)
  cases hf
  exact ret _ _ dX9_tooShort_126 (fun _ => hb20)
/-- BarrierLightsModel.watch(I)V -/
def f_X9_watch_L2 (c1 : Int32) : Nat → Int32 → Mem → Option (Int32 × Mem)
  | 0, _, _ => none
  | n + 1, y2, K => if 8 ≤ y2 then (some (y2, K)) else ((f_X9_lampsOf c1 y2 K).bind fun u2 => if inb ((8 * c1) + y2) 16 = true then (st K 15 (ix ((8 * c1) + y2)) u2 fun K4 => lt (y2 + 1) fun x5 => f_X9_watch_L2 c1 n x5 K4) else none)
def f_X9_watch_L110 (c1 : Int32) (c2 : Int32) (c3 : Int32) : Nat → Int32 → Mem → Option (Int32 × Mem)
  | 0, _, _ => none
  | n + 1, y4, K => if ((8 * c1) + 8) ≤ y4 then (some (y4, K)) else (if inb y4 16 = true then (st K 9 (ix y4) (vp_nar .boolean 0) fun K25 => if inb y4 16 = true then (st K25 10 (ix y4) (vp_nar .boolean 0) fun K26 => lt (y4 + 1) fun x27 => f_X9_watch_L110 c1 c2 c3 n x27 K26) else none) else none)
def f_X9_watch (p1 : Int32) (K : Mem) : Option (Mem) := lt 0 fun x1 => (f_X9_watch_L2 p1 70 x1 K).bind fun v6 => (f_X9_dark p1 v6.2).bind fun u8 => lt u8.1 fun x10 => (f_X9_tooShort p1 u8.2).bind fun u11 => lt u11.1 fun x13 => (f_X9_conflict p1 u11.2).bind fun u14 => (if u14 = 0 then (if x10 = 0 then (if x13 = 0 then (some 0) else (some 3)) else (some 2)) else (some 1) : Option (Int32)).bind fun v16 => if inb p1 2 = true then (st u11.2 5 (ix p1) v16 fun K19 => if inb p1 2 = true then (if (K19 5 (ix p1)) = 0 then (some K19) else ((f_X9_stopRing (2 * p1) K19).bind fun u20 => (f_X9_stopRing ((2 * p1) + 1) u20).bind fun u22 => lt (8 * p1) fun x24 => (f_X9_watch_L110 p1 x10 x13 70 x24 u22).bind fun v28 => some v28.2)) else none) else none
abbrev rmX9_watch : Room := { frames := 2, cells := 0, slots := 0, locals := 46 }
theorem iX9_watch_X9 : ∀ w ∈ u_ws RX9 TX9 37, w ∈ wsX9_watch := fun _ h => List.mem_cons_of_mem _ (List.mem_append_right _ h)
theorem mX9_watch_f55 : Cond.fieldLink RX9 55 "BarrierLightsModel" "shown" "[I" ∈ wsX9_watch := by decide +kernel
theorem hdX9_lampsOf : yX9_lampsOf.cls = RX9 ∧ yX9_lampsOf.cls ≠ "java/lang/invoke/MethodHandle" ∧ yX9_lampsOf.cls ≠ "java/lang/invoke/VarHandle" ∧ (parseMethodDescriptor yX9_lampsOf.desc).map (fun d => d.parameters.length) = some 2 := by decide +kernel
theorem hdX9_dark : yX9_dark.cls = RX9 ∧ yX9_dark.cls ≠ "java/lang/invoke/MethodHandle" ∧ yX9_dark.cls ≠ "java/lang/invoke/VarHandle" ∧ (parseMethodDescriptor yX9_dark.desc).map (fun d => d.parameters.length) = some 1 := by decide +kernel
theorem hdX9_tooShort : yX9_tooShort.cls = RX9 ∧ yX9_tooShort.cls ≠ "java/lang/invoke/MethodHandle" ∧ yX9_tooShort.cls ≠ "java/lang/invoke/VarHandle" ∧ (parseMethodDescriptor yX9_tooShort.desc).map (fun d => d.parameters.length) = some 1 := by decide +kernel
theorem mX9_watch_f24 : Cond.fieldLink RX9 24 "BarrierLightsModel" "why" "[I" ∈ wsX9_watch := by decide +kernel
theorem hdX9_conflict : yX9_conflict.cls = RX9 ∧ yX9_conflict.cls ≠ "java/lang/invoke/MethodHandle" ∧ yX9_conflict.cls ≠ "java/lang/invoke/VarHandle" ∧ (parseMethodDescriptor yX9_conflict.desc).map (fun d => d.parameters.length) = some 1 := by decide +kernel
theorem mX9_watch_f36 : Cond.fieldLink RX9 36 "BarrierLightsModel" "calls" "[Z" ∈ wsX9_watch := by decide +kernel
theorem mX9_watch_f39 : Cond.fieldLink RX9 39 "BarrierLightsModel" "walkCalls" "[Z" ∈ wsX9_watch := by decide +kernel
set_option maxRecDepth 100000 in
set_option maxHeartbeats 4000000 in
theorem lp_X9_watch_L2 {l : Launch} {D : va_G} {ad : Nat → Nat} {aI aZ aS aF : ClassId} {G : jG} {c1 : Int32} (C : jC (EM l D ad aI aZ aS aF) G cX9_watch yX9_watch.cls wsX9_watch rmX9_watch 5) : ∀ (n : Nat) (y2 : Int32) (K : Mem) (v : Int32 × Mem), f_X9_watch_L2 c1 n y2 K = some v → jW (EM l D ad aI aZ aS aF) G v.2 31 [(0, .ref (ad 0)), (1, .int c1), (2, .int v.1)] [] → jW (EM l D ad aI aZ aS aF) G K 2 [(0, .ref (ad 0)), (1, .int c1), (2, .int y2)] [] := by
  intro n
  induction n with
  | zero =>
    intro y2 K v hf jj
    rw [f_X9_watch_L2] at hf
    cases hf
  | succ n ih =>
    intro y2 K v hf jj
    rw [f_X9_watch_L2] at hf
    refine j_iload_n C 2 dX9_watch_2 rfl rfl ?_
    refine j_bipush C (v := 8) dX9_watch_3 (by decide) ?_
    refine j_icmp_ge C 31 dX9_watch_5 (by decide) hf (fun hf => ?_) (fun hf => ?_)
    · cases hf
      exact jj
    · refine j_aload_n C 0 dX9_watch_8 rfl rfl ?_
      refine j_get C 16 iX9_watch_X9 h_0 rfl (by decide) mX9_watch_f55 rfl rfl dX9_watch_9 ?_
      refine j_bipush C (v := 8) dX9_watch_12 (by decide) ?_
      refine j_iload_n C 1 dX9_watch_14 rfl rfl ?_
      refine j_imul C dX9_watch_15 ?_
      refine j_iload_n C 2 dX9_watch_16 rfl rfl ?_
      refine j_iadd C dX9_watch_17 ?_
      refine j_aload_n C 0 dX9_watch_18 rfl rfl ?_
      refine j_iload_n C 1 dX9_watch_19 rfl rfl ?_
      refine j_iload_n C 2 dX9_watch_20 rfl rfl ?_
      obtain ⟨u2, h3, hf⟩ := bd hf
      refine j_cVI C [.int c1, .int y2] gX9_watch_X9_lampsOf rfl hdX9_lampsOf ⟨⟨rfl, rfl⟩, Nat.le_of_ble_eq_true rfl, Nat.le_of_ble_eq_true rfl⟩ rfl h_0 rfl (k_X9_lampsOf h3) dX9_watch_21 rfl (Nat.le_of_ble_eq_true rfl) ?_
      refine j_iast C 0 h_15 (t_15 _ _) rfl dX9_watch_24 hf (fun K4 hf => ?_)
      refine j_iinc C (v := (y2 + 1)) 2 (fun y => [(2, .int y), (0, .ref (ad 0)), (1, .int c1)]) dX9_watch_25 rfl rfl (by decide) (fun _ => rfl) hf (fun x5 hf => ?_)
      refine j_goto C 2 dX9_watch_28 (by decide) ?_
      refine j_sub [1, 2, 0] rfl ?_
      exact ih _ _ _ hf jj
set_option maxRecDepth 100000 in
set_option maxHeartbeats 4000000 in
theorem lp_X9_watch_L110 {l : Launch} {D : va_G} {ad : Nat → Nat} {aI aZ aS aF : ClassId} {G : jG} {c1 : Int32} {c2 : Int32} {c3 : Int32} (C : jC (EM l D ad aI aZ aS aF) G cX9_watch yX9_watch.cls wsX9_watch rmX9_watch 5) : ∀ (n : Nat) (y4 : Int32) (K : Mem) (v : Int32 × Mem), f_X9_watch_L110 c1 c2 c3 n y4 K = some v → jW (EM l D ad aI aZ aS aF) G v.2 144 [(0, .ref (ad 0)), (1, .int c1), (2, .int c2), (3, .int c3), (4, .int v.1)] [] → jW (EM l D ad aI aZ aS aF) G K 110 [(0, .ref (ad 0)), (1, .int c1), (2, .int c2), (3, .int c3), (4, .int y4)] [] := by
  intro n
  induction n with
  | zero =>
    intro y4 K v hf jj
    rw [f_X9_watch_L110] at hf
    cases hf
  | succ n ih =>
    intro y4 K v hf jj
    rw [f_X9_watch_L110] at hf
    refine j_iload C 4 dX9_watch_110 rfl ?_
    refine j_bipush C (v := 8) dX9_watch_112 (by decide) ?_
    refine j_iload_n C 1 dX9_watch_114 rfl rfl ?_
    refine j_imul C dX9_watch_115 ?_
    refine j_bipush C (v := 8) dX9_watch_116 (by decide) ?_
    refine j_iadd C dX9_watch_118 ?_
    refine j_icmp_ge C 144 dX9_watch_119 (by decide) hf (fun hf => ?_) (fun hf => ?_)
    · cases hf
      exact jj
    · refine j_aload_n C 0 dX9_watch_122 rfl rfl ?_
      refine j_get C 10 iX9_watch_X9 h_0 rfl (by decide) mX9_watch_f36 rfl rfl dX9_watch_123 ?_
      refine j_iload C 4 dX9_watch_126 rfl ?_
      refine j_iconst C (v := 0) dX9_watch_128 (by decide) ?_
      refine j_zast C 1 h_9 (t_9 _ _) rfl dX9_watch_129 hf (fun K25 hf => ?_)
      refine j_aload_n C 0 dX9_watch_130 rfl rfl ?_
      refine j_get C 11 iX9_watch_X9 h_0 rfl (by decide) mX9_watch_f39 rfl rfl dX9_watch_131 ?_
      refine j_iload C 4 dX9_watch_134 rfl ?_
      refine j_iconst C (v := 0) dX9_watch_136 (by decide) ?_
      refine j_zast C 1 h_10 (t_10 _ _) rfl dX9_watch_137 hf (fun K26 hf => ?_)
      refine j_iinc C (v := (y4 + 1)) 4 (fun y => [(4, .int y), (0, .ref (ad 0)), (1, .int c1), (2, .int c2), (3, .int c3)]) dX9_watch_138 rfl rfl (by decide) (fun _ => rfl) hf (fun x27 hf => ?_)
      refine j_goto C 110 dX9_watch_141 (by decide) ?_
      refine j_sub [1, 2, 3, 4, 0] rfl ?_
      exact ih _ _ _ hf jj
set_option maxRecDepth 100000 in
set_option maxHeartbeats 4000000 in
theorem k_X9_watch {l : Launch} {D : va_G} {ad : Nat → Nat} {aI aZ aS aF : ClassId} {p1 : Int32} {K : Mem} {u : Mem} (hf : f_X9_watch p1 K = some u) : cV (EM l D ad aI aZ aS aF) yX9_watch wsX9_watch rmX9_watch [.ref (ad 0), .int p1] K u := by
  rw [f_X9_watch] at hf
  refine j_entV (cc := cX9_watch) (maxL := 5) (EM_ok l D ad aI aZ aS aF) (by decide) rfl (Nat.le_of_ble_eq_true rfl) (fun G C ret => ?_)
  refine j_sub [0, 1] (lv2 := [(0, .ref (ad 0)), (1, .int p1)]) rfl ?_
  refine j_iconst C (v := 0) dX9_watch_0 (by decide) ?_
  refine j_istore_n C (fun y => [(2, .int y), (0, .ref (ad 0)), (1, .int p1)]) dX9_watch_1 rfl (by decide) (fun _ => rfl) hf (fun x1 hf => ?_)
  obtain ⟨v6, h7, hf⟩ := bd hf
  refine j_sub [1, 2, 0] (lv2 := [(0, .ref (ad 0)), (1, .int p1), (2, .int x1)]) rfl ?_
  refine lp_X9_watch_L2 C 70 _ _ _ h7 ?_
  refine j_aload_n C 0 dX9_watch_31 rfl rfl ?_
  refine j_iload_n C 1 dX9_watch_32 rfl rfl ?_
  obtain ⟨u8, h9, hf⟩ := bd hf
  refine j_cVI C [.int p1] gX9_watch_X9_dark rfl hdX9_dark ⟨⟨rfl, rfl⟩, Nat.le_of_ble_eq_true rfl, Nat.le_of_ble_eq_true rfl⟩ rfl h_0 rfl (k_X9_dark h9) dX9_watch_33 rfl (Nat.le_of_ble_eq_true rfl) ?_
  refine j_istore_n C (fun y => [(2, .int y), (0, .ref (ad 0)), (1, .int p1)]) dX9_watch_36 rfl (by decide) (fun _ => rfl) hf (fun x10 hf => ?_)
  refine j_aload_n C 1 dX9_watch_37 rfl rfl ?_
  refine j_iload_n C 2 dX9_watch_38 rfl rfl ?_
  obtain ⟨u11, h12, hf⟩ := bd hf
  refine j_cVI C [.int p1] gX9_watch_X9_tooShort rfl hdX9_tooShort ⟨⟨rfl, rfl⟩, Nat.le_of_ble_eq_true rfl, Nat.le_of_ble_eq_true rfl⟩ rfl h_0 rfl (k_X9_tooShort h12) dX9_watch_39 rfl (Nat.le_of_ble_eq_true rfl) ?_
  refine j_istore_n C (fun y => [(3, .int y), (2, .int x10), (0, .ref (ad 0)), (1, .int p1)]) dX9_watch_42 rfl (by decide) (fun _ => rfl) hf (fun x13 hf => ?_)
  refine j_aload_n C 2 dX9_watch_43 rfl rfl ?_
  refine j_get C 6 iX9_watch_X9 h_0 rfl (by decide) mX9_watch_f24 rfl rfl dX9_watch_44 ?_
  refine j_iload_n C 3 dX9_watch_47 rfl rfl ?_
  refine j_aload_n C 2 dX9_watch_48 rfl rfl ?_
  refine j_iload_n C 3 dX9_watch_49 rfl rfl ?_
  obtain ⟨u14, h15, hf⟩ := bd hf
  refine j_cVI C [.int p1] gX9_watch_X9_conflict rfl hdX9_conflict ⟨⟨rfl, rfl⟩, Nat.le_of_ble_eq_true rfl, Nat.le_of_ble_eq_true rfl⟩ rfl h_0 rfl (k_X9_conflict h15) dX9_watch_50 rfl (Nat.le_of_ble_eq_true rfl) ?_
  obtain ⟨v16, h17, hf⟩ := bd hf
  have jj18 : jW (EM l D ad aI aZ aS aF) G u11.2 77 [(0, .ref (ad 0)), (1, .int p1), (2, .int x10), (3, .int x13)] [.int v16, .int p1, .ref (ad 5)] := by
    refine j_iast C 0 h_5 (t_5 _ _) rfl dX9_watch_77 hf (fun K19 hf => ?_)
    refine j_aload_n C 0 dX9_watch_78 rfl rfl ?_
    refine j_get C 6 iX9_watch_X9 h_0 rfl (by decide) mX9_watch_f24 rfl rfl dX9_watch_79 ?_
    refine j_iload_n C 1 dX9_watch_82 rfl rfl ?_
    refine j_iald C 0 h_5 rfl dX9_watch_83 hf (fun hf => ?_)
    refine j_if_ne C 88 dX9_watch_84 (by decide) hf (fun hf => ?_) (fun hf => ?_)
    · cases hf
      exact ret _ _ dX9_watch_87
    · refine j_aload_n C 0 dX9_watch_88 rfl rfl ?_
      refine j_iconst C (v := 2) dX9_watch_89 (by decide) ?_
      refine j_iload_n C 1 dX9_watch_90 rfl rfl ?_
      refine j_imul C dX9_watch_91 ?_
      obtain ⟨u20, h21, hf⟩ := bd hf
      refine j_cVV C [.int ((2 * p1))] gX9_watch_X9_stopRing rfl hdX9_stopRing ⟨⟨rfl, rfl⟩, Nat.le_of_ble_eq_true rfl, Nat.le_of_ble_eq_true rfl⟩ rfl h_0 rfl (k_X9_stopRing h21) dX9_watch_92 rfl (Nat.le_of_ble_eq_true rfl) ?_
      refine j_aload_n C 0 dX9_watch_95 rfl rfl ?_
      refine j_iconst C (v := 2) dX9_watch_96 (by decide) ?_
      refine j_iload_n C 1 dX9_watch_97 rfl rfl ?_
      refine j_imul C dX9_watch_98 ?_
      refine j_iconst C (v := 1) dX9_watch_99 (by decide) ?_
      refine j_iadd C dX9_watch_100 ?_
      obtain ⟨u22, h23, hf⟩ := bd hf
      refine j_cVV C [.int (((2 * p1) + 1))] gX9_watch_X9_stopRing rfl hdX9_stopRing ⟨⟨rfl, rfl⟩, Nat.le_of_ble_eq_true rfl, Nat.le_of_ble_eq_true rfl⟩ rfl h_0 rfl (k_X9_stopRing h23) dX9_watch_101 rfl (Nat.le_of_ble_eq_true rfl) ?_
      refine j_bipush C (v := 8) dX9_watch_104 (by decide) ?_
      refine j_iload_n C 1 dX9_watch_106 rfl rfl ?_
      refine j_imul C dX9_watch_107 ?_
      refine j_istore C (fun y => [(4, .int y), (0, .ref (ad 0)), (1, .int p1), (2, .int x10), (3, .int x13)]) dX9_watch_108 (by decide) (fun _ => rfl) hf (fun x24 hf => ?_)
      obtain ⟨v28, h29, hf⟩ := bd hf
      refine j_sub [1, 2, 3, 4, 0] (lv2 := [(0, .ref (ad 0)), (1, .int p1), (2, .int x10), (3, .int x13), (4, .int x24)]) rfl ?_
      refine lp_X9_watch_L110 C 70 _ _ _ h29 ?_
      cases hf
      exact ret _ _ dX9_watch_144
  clear hf
  have hf := h17
  clear h17
  refine j_if_eq C 60 dX9_watch_53 (by decide) hf (fun hf => ?_) (fun hf => ?_)
  · refine j_iload_n C 1 dX9_watch_60 rfl rfl ?_
    refine j_if_eq C 68 dX9_watch_61 (by decide) hf (fun hf => ?_) (fun hf => ?_)
    · refine j_iload_n C 0 dX9_watch_68 rfl rfl ?_
      refine j_if_eq C 76 dX9_watch_69 (by decide) hf (fun hf => ?_) (fun hf => ?_)
      · refine j_iconst C (v := 0) dX9_watch_76 (by decide) ?_
        cases hf
        refine j_sub [2, 3, 1, 0] rfl ?_
        exact jj18
      · refine j_iconst C (v := 3) dX9_watch_72 (by decide) ?_
        refine j_goto C 77 dX9_watch_73 (by decide) ?_
        cases hf
        refine j_sub [2, 3, 1, 0] rfl ?_
        exact jj18
    · refine j_iconst C (v := 2) dX9_watch_64 (by decide) ?_
      refine j_goto C 77 dX9_watch_65 (by decide) ?_
      cases hf
      refine j_sub [2, 3, 1, 0] rfl ?_
      exact jj18
  · refine j_iconst C (v := 1) dX9_watch_56 (by decide) ?_
    refine j_goto C 77 dX9_watch_57 (by decide) ?_
    cases hf
    refine j_sub [2, 3, 1, 0] rfl ?_
    exact jj18
