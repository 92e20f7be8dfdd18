/-! THE LAW'S CASES. The world of the law: the row out, the class's cells, the reference's. -/
abbrev TL (aI aZ aF aS aL : ClassId) : List (ClassId × FieldType) := [(aI, .int), (aZ, .boolean), (aF, .float), (aS, .short), (aL, .long)]
def wW (ad ad2 : Nat → Nat) (o : Nat) (aI aZ aF aS aL : ClassId) (K M : Mem) (f : Nat → Int64) : va_W := wL ad o aI aZ aF aL K f ++ wM ad2 aI aZ aS aF M
abbrev lvL (b : Nat) (ad ad2 : Nat → Nat) (o j : Nat) : List (Nat × Value) := [(0, .ref b), (1, .ref (ad 0)), (2, .ref (ad2 0)), (3, .ref o), (4, .int (nI (5 * j)))]
abbrev a1C : List Nat := [1, 2, 3, 4, 5, 6, 7, 8, 9, 10, 11, 12, 13, 14, 15, 16, 17, 18, 19, 20, 21, 22, 23, 24, 25, 26, 27, 28, 29, 30, 31, 32, 33, 34, 35, 36, 37, 38, 39, 40, 41, 42, 43]
abbrev a1R : List Nat := [0, 44, 45, 46, 47, 48, 49, 50, 51, 52, 53, 54, 55, 56, 57, 58, 59, 60, 61, 62, 63, 64, 65, 66, 67, 68, 69, 70, 71, 72, 73, 74, 75, 76, 77, 78, 79]
abbrev a2C : List Nat := [1, 2, 3, 4, 5, 6, 7, 8, 9, 10, 11, 12, 13, 14, 15, 16, 17, 18, 19, 20, 21, 22, 23, 24, 25, 26, 27, 28, 29, 30, 31, 32, 33, 34, 35, 36]
abbrev a2R : List Nat := [0, 37, 38, 39, 40, 41, 42, 43, 44, 45, 46, 47, 48, 49, 50, 51, 52, 53, 54, 55, 56, 57, 58, 59, 60, 61, 62, 63, 64, 65, 66, 67, 68, 69, 70, 71, 72, 73, 74, 75, 76, 77, 78, 79]
abbrev a3C : List Nat := [0, 1, 2, 3, 4, 5, 6, 7, 8, 9, 10, 11, 12, 13, 14, 15, 16, 17, 18, 19, 20, 21, 22, 23, 24, 25, 26, 27, 28, 29, 30, 31, 32, 33, 34, 35, 36, 37, 38, 39, 40, 41, 42, 43]
abbrev a3R : List Nat := [44, 45, 46, 47, 48, 49, 50, 51, 52, 53, 54, 55, 56, 57, 58, 59, 60, 61, 62, 63, 64, 65, 66, 67, 68, 69, 70, 71, 72, 73, 74, 75, 76, 77, 78, 79]
abbrev a4C : List Nat := [0, 1, 2, 3, 4, 5, 6, 7, 8, 9, 10, 11, 12, 13, 14, 15, 16, 17, 18, 19, 20, 21, 22, 23, 24, 25, 26, 27, 28, 29, 30, 31, 32, 33, 34, 35]
abbrev a4R : List Nat := [36, 37, 38, 39, 40, 41, 42, 43, 44, 45, 46, 47, 48, 49, 50, 51, 52, 53, 54, 55, 56, 57, 58, 59, 60, 61, 62, 63, 64, 65, 66, 67, 68, 69, 70, 71, 72, 73, 74, 75, 76, 77, 78, 79]
abbrev a5C : List Nat := [44, 45, 46, 47, 48, 49, 50, 51, 52, 53, 54, 55, 56, 57, 58, 59, 60, 61, 62, 63, 64, 65, 66, 67, 68, 69, 70, 71, 72, 73, 74, 75, 76, 77, 78, 79]
abbrev a5R : List Nat := [0, 1, 2, 3, 4, 5, 6, 7, 8, 9, 10, 11, 12, 13, 14, 15, 16, 17, 18, 19, 20, 21, 22, 23, 24, 25, 26, 27, 28, 29, 30, 31, 32, 33, 34, 35, 36, 37, 38, 39, 40, 41, 42, 43]
theorem a1D : ∀ i ∈ a1R, i ∉ a1C := by decide +kernel
theorem a2D : ∀ i ∈ a2R, i ∉ a2C := by decide +kernel
theorem a3D : ∀ i ∈ a3R, i ∉ a3C := by decide +kernel
theorem a4D : ∀ i ∈ a4R, i ∉ a4C := by decide +kernel
theorem a5D : ∀ i ∈ a5R, i ∉ a5C := by decide +kernel
set_option maxRecDepth 20000 in
theorem w1c {ad ad2 : Nat → Nat} {o : Nat} {aI aZ aF aS aL : ClassId} {K M : Mem} {f : Nat → Int64} : a1C.map (fun i => (wW ad ad2 o aI aZ aF aS aL K M f)[i]?) = (wC ad aI aZ aF K).map some := rfl
set_option maxRecDepth 20000 in
theorem w1r {ad ad2 : Nat → Nat} {o : Nat} {aI aZ aF aS aL : ClassId} {K M : Mem} {f : Nat → Int64} : a1R.map (fun i => (wW ad ad2 o aI aZ aF aS aL K M f)[i]?) = ([(o, eL aL f)] ++ wM ad2 aI aZ aS aF M : va_W).map some := rfl
set_option maxRecDepth 20000 in
theorem w2c {ad ad2 : Nat → Nat} {o : Nat} {aI aZ aF aS aL : ClassId} {K M : Mem} {f : Nat → Int64} : a2C.map (fun i => (([(o, eL aL f)] ++ wM ad2 aI aZ aS aF M) ++ wC ad aI aZ aF K)[i]?) = (wM ad2 aI aZ aS aF M).map some := rfl
set_option maxRecDepth 20000 in
theorem w2r {ad ad2 : Nat → Nat} {o : Nat} {aI aZ aF aS aL : ClassId} {K M : Mem} {f : Nat → Int64} : a2R.map (fun i => (([(o, eL aL f)] ++ wM ad2 aI aZ aS aF M) ++ wC ad aI aZ aF K)[i]?) = (wL ad o aI aZ aF aL K f).map some := rfl
set_option maxRecDepth 20000 in
theorem w3c {ad ad2 : Nat → Nat} {o : Nat} {aI aZ aF aS aL : ClassId} {K M : Mem} {f : Nat → Int64} : a3C.map (fun i => (wW ad ad2 o aI aZ aF aS aL K M f)[i]?) = (wL ad o aI aZ aF aL K f).map some := rfl
set_option maxRecDepth 20000 in
theorem w3r {ad ad2 : Nat → Nat} {o : Nat} {aI aZ aF aS aL : ClassId} {K M : Mem} {f : Nat → Int64} : a3R.map (fun i => (wW ad ad2 o aI aZ aF aS aL K M f)[i]?) = (wM ad2 aI aZ aS aF M).map some := rfl
set_option maxRecDepth 20000 in
theorem w4c {ad ad2 : Nat → Nat} {o : Nat} {aI aZ aF aS aL : ClassId} {K M : Mem} {f : Nat → Int64} : a4C.map (fun i => (wM ad2 aI aZ aS aF M ++ wL ad o aI aZ aF aL K f)[i]?) = (wM ad2 aI aZ aS aF M).map some := rfl
set_option maxRecDepth 20000 in
theorem w4r {ad ad2 : Nat → Nat} {o : Nat} {aI aZ aF aS aL : ClassId} {K M : Mem} {f : Nat → Int64} : a4R.map (fun i => (wM ad2 aI aZ aS aF M ++ wL ad o aI aZ aF aL K f)[i]?) = (wL ad o aI aZ aF aL K f).map some := rfl
set_option maxRecDepth 20000 in
theorem w5c {ad ad2 : Nat → Nat} {o : Nat} {aI aZ aF aS aL : ClassId} {K M : Mem} {f : Nat → Int64} : a5C.map (fun i => (wW ad ad2 o aI aZ aF aS aL K M f)[i]?) = (wM ad2 aI aZ aS aF M).map some := rfl
set_option maxRecDepth 20000 in
theorem w5r {ad ad2 : Nat → Nat} {o : Nat} {aI aZ aF aS aL : ClassId} {K M : Mem} {f : Nat → Int64} : a5R.map (fun i => (wW ad ad2 o aI aZ aF aS aL K M f)[i]?) = (wL ad o aI aZ aF aL K f).map some := rfl
theorem hlX8_put : yX8_put.cls = RX8 ∧ yX8_put.cls ≠ "java/lang/invoke/MethodHandle" ∧ yX8_put.cls ≠ "java/lang/invoke/VarHandle" ∧ (parseMethodDescriptor yX8_put.desc).map (fun d => d.parameters.length) = some 4 := by decide +kernel
theorem hlX8_place : yX8_place.cls = RX8 ∧ yX8_place.cls ≠ "java/lang/invoke/MethodHandle" ∧ yX8_place.cls ≠ "java/lang/invoke/VarHandle" ∧ (parseMethodDescriptor yX8_place.desc).map (fun d => d.parameters.length) = some 1 := by decide +kernel
theorem hlX8_detect : yX8_detect.cls = RX8 ∧ yX8_detect.cls ≠ "java/lang/invoke/MethodHandle" ∧ yX8_detect.cls ≠ "java/lang/invoke/VarHandle" ∧ (parseMethodDescriptor yX8_detect.desc).map (fun d => d.parameters.length) = some 3 := by decide +kernel
theorem hlX8_press : yX8_press.cls = RX8 ∧ yX8_press.cls ≠ "java/lang/invoke/MethodHandle" ∧ yX8_press.cls ≠ "java/lang/invoke/VarHandle" ∧ (parseMethodDescriptor yX8_press.desc).map (fun d => d.parameters.length) = some 2 := by decide +kernel
theorem hlX8_target : yX8_target.cls = RX8 ∧ yX8_target.cls ≠ "java/lang/invoke/MethodHandle" ∧ yX8_target.cls ≠ "java/lang/invoke/VarHandle" ∧ (parseMethodDescriptor yX8_target.desc).map (fun d => d.parameters.length) = some 3 := by decide +kernel
theorem hlX8_preempt : yX8_preempt.cls = RX8 ∧ yX8_preempt.cls ≠ "java/lang/invoke/MethodHandle" ∧ yX8_preempt.cls ≠ "java/lang/invoke/VarHandle" ∧ (parseMethodDescriptor yX8_preempt.desc).map (fun d => d.parameters.length) = some 3 := by decide +kernel
theorem hlX8_plan : yX8_plan.cls = RX8 ∧ yX8_plan.cls ≠ "java/lang/invoke/MethodHandle" ∧ yX8_plan.cls ≠ "java/lang/invoke/VarHandle" ∧ (parseMethodDescriptor yX8_plan.desc).map (fun d => d.parameters.length) = some 4 := by decide +kernel
theorem hlX8_message : yX8_message.cls = RX8 ∧ yX8_message.cls ≠ "java/lang/invoke/MethodHandle" ∧ yX8_message.cls ≠ "java/lang/invoke/VarHandle" ∧ (parseMethodDescriptor yX8_message.desc).map (fun d => d.parameters.length) = some 3 := by decide +kernel
theorem hlX8_fault : yX8_fault.cls = RX8 ∧ yX8_fault.cls ≠ "java/lang/invoke/MethodHandle" ∧ yX8_fault.cls ≠ "java/lang/invoke/VarHandle" ∧ (parseMethodDescriptor yX8_fault.desc).map (fun d => d.parameters.length) = some 3 := by decide +kernel
theorem hlX8_reset : yX8_reset.cls = RX8 ∧ yX8_reset.cls ≠ "java/lang/invoke/MethodHandle" ∧ yX8_reset.cls ≠ "java/lang/invoke/VarHandle" ∧ (parseMethodDescriptor yX8_reset.desc).map (fun d => d.parameters.length) = some 1 := by decide +kernel
theorem hlX8_lamp : yX8_lamp.cls = RX8 ∧ yX8_lamp.cls ≠ "java/lang/invoke/MethodHandle" ∧ yX8_lamp.cls ≠ "java/lang/invoke/VarHandle" ∧ (parseMethodDescriptor yX8_lamp.desc).map (fun d => d.parameters.length) = some 2 := by decide +kernel
theorem hlX8_signs : yX8_signs.cls = RX8 ∧ yX8_signs.cls ≠ "java/lang/invoke/MethodHandle" ∧ yX8_signs.cls ≠ "java/lang/invoke/VarHandle" ∧ (parseMethodDescriptor yX8_signs.desc).map (fun d => d.parameters.length) = some 2 := by decide +kernel
theorem hlX8_crossing : yX8_crossing.cls = RX8 ∧ yX8_crossing.cls ≠ "java/lang/invoke/MethodHandle" ∧ yX8_crossing.cls ≠ "java/lang/invoke/VarHandle" ∧ (parseMethodDescriptor yX8_crossing.desc).map (fun d => d.parameters.length) = some 2 := by decide +kernel
theorem hlX8_occupancy : yX8_occupancy.cls = RX8 ∧ yX8_occupancy.cls ≠ "java/lang/invoke/MethodHandle" ∧ yX8_occupancy.cls ≠ "java/lang/invoke/VarHandle" ∧ (parseMethodDescriptor yX8_occupancy.desc).map (fun d => d.parameters.length) = some 2 := by decide +kernel
theorem hlX9_put : yX9_put.cls = RX9 ∧ yX9_put.cls ≠ "java/lang/invoke/MethodHandle" ∧ yX9_put.cls ≠ "java/lang/invoke/VarHandle" ∧ (parseMethodDescriptor yX9_put.desc).map (fun d => d.parameters.length) = some 4 := by decide +kernel
theorem hlX9_place : yX9_place.cls = RX9 ∧ yX9_place.cls ≠ "java/lang/invoke/MethodHandle" ∧ yX9_place.cls ≠ "java/lang/invoke/VarHandle" ∧ (parseMethodDescriptor yX9_place.desc).map (fun d => d.parameters.length) = some 1 := by decide +kernel
theorem hlX9_detect : yX9_detect.cls = RX9 ∧ yX9_detect.cls ≠ "java/lang/invoke/MethodHandle" ∧ yX9_detect.cls ≠ "java/lang/invoke/VarHandle" ∧ (parseMethodDescriptor yX9_detect.desc).map (fun d => d.parameters.length) = some 3 := by decide +kernel
theorem hlX9_press : yX9_press.cls = RX9 ∧ yX9_press.cls ≠ "java/lang/invoke/MethodHandle" ∧ yX9_press.cls ≠ "java/lang/invoke/VarHandle" ∧ (parseMethodDescriptor yX9_press.desc).map (fun d => d.parameters.length) = some 2 := by decide +kernel
theorem hlX9_target : yX9_target.cls = RX9 ∧ yX9_target.cls ≠ "java/lang/invoke/MethodHandle" ∧ yX9_target.cls ≠ "java/lang/invoke/VarHandle" ∧ (parseMethodDescriptor yX9_target.desc).map (fun d => d.parameters.length) = some 3 := by decide +kernel
theorem hlX9_preempt : yX9_preempt.cls = RX9 ∧ yX9_preempt.cls ≠ "java/lang/invoke/MethodHandle" ∧ yX9_preempt.cls ≠ "java/lang/invoke/VarHandle" ∧ (parseMethodDescriptor yX9_preempt.desc).map (fun d => d.parameters.length) = some 3 := by decide +kernel
theorem hlX9_plan : yX9_plan.cls = RX9 ∧ yX9_plan.cls ≠ "java/lang/invoke/MethodHandle" ∧ yX9_plan.cls ≠ "java/lang/invoke/VarHandle" ∧ (parseMethodDescriptor yX9_plan.desc).map (fun d => d.parameters.length) = some 4 := by decide +kernel
theorem hlX9_message : yX9_message.cls = RX9 ∧ yX9_message.cls ≠ "java/lang/invoke/MethodHandle" ∧ yX9_message.cls ≠ "java/lang/invoke/VarHandle" ∧ (parseMethodDescriptor yX9_message.desc).map (fun d => d.parameters.length) = some 3 := by decide +kernel
theorem hlX9_fault : yX9_fault.cls = RX9 ∧ yX9_fault.cls ≠ "java/lang/invoke/MethodHandle" ∧ yX9_fault.cls ≠ "java/lang/invoke/VarHandle" ∧ (parseMethodDescriptor yX9_fault.desc).map (fun d => d.parameters.length) = some 3 := by decide +kernel
theorem hlX9_reset : yX9_reset.cls = RX9 ∧ yX9_reset.cls ≠ "java/lang/invoke/MethodHandle" ∧ yX9_reset.cls ≠ "java/lang/invoke/VarHandle" ∧ (parseMethodDescriptor yX9_reset.desc).map (fun d => d.parameters.length) = some 1 := by decide +kernel
theorem hlX9_lamp : yX9_lamp.cls = RX9 ∧ yX9_lamp.cls ≠ "java/lang/invoke/MethodHandle" ∧ yX9_lamp.cls ≠ "java/lang/invoke/VarHandle" ∧ (parseMethodDescriptor yX9_lamp.desc).map (fun d => d.parameters.length) = some 2 := by decide +kernel
theorem hlX9_signs : yX9_signs.cls = RX9 ∧ yX9_signs.cls ≠ "java/lang/invoke/MethodHandle" ∧ yX9_signs.cls ≠ "java/lang/invoke/VarHandle" ∧ (parseMethodDescriptor yX9_signs.desc).map (fun d => d.parameters.length) = some 2 := by decide +kernel
theorem hlX9_crossing : yX9_crossing.cls = RX9 ∧ yX9_crossing.cls ≠ "java/lang/invoke/MethodHandle" ∧ yX9_crossing.cls ≠ "java/lang/invoke/VarHandle" ∧ (parseMethodDescriptor yX9_crossing.desc).map (fun d => d.parameters.length) = some 2 := by decide +kernel
theorem hlX9_occupancy : yX9_occupancy.cls = RX9 ∧ yX9_occupancy.cls ≠ "java/lang/invoke/MethodHandle" ∧ yX9_occupancy.cls ≠ "java/lang/invoke/VarHandle" ∧ (parseMethodDescriptor yX9_occupancy.desc).map (fun d => d.parameters.length) = some 2 := by decide +kernel
theorem hlX9_enact : yX9_enact.cls = RX9 ∧ yX9_enact.cls ≠ "java/lang/invoke/MethodHandle" ∧ yX9_enact.cls ≠ "java/lang/invoke/VarHandle" ∧ (parseMethodDescriptor yX9_enact.desc).map (fun d => d.parameters.length) = some 1 := by decide +kernel
theorem hlX9_tick : yX9_tick.cls = RX9 ∧ yX9_tick.cls ≠ "java/lang/invoke/MethodHandle" ∧ yX9_tick.cls ≠ "java/lang/invoke/VarHandle" ∧ (parseMethodDescriptor yX9_tick.desc).map (fun d => d.parameters.length) = some 1 := by decide +kernel
theorem hlX9_thrown : yX9_thrown.cls = RX9 ∧ yX9_thrown.cls ≠ "java/lang/invoke/MethodHandle" ∧ yX9_thrown.cls ≠ "java/lang/invoke/VarHandle" ∧ (parseMethodDescriptor yX9_thrown.desc).map (fun d => d.parameters.length) = some 0 := by decide +kernel
theorem vin {j L k : Nat} (h : 5 * j + 5 ≤ L) (hL : L ≤ 320) (hk : k < 5) : vp_in (nI (5 * j) + nI k) L := by
  rw [n_ak]
  exact vp_in_nI (by omega) (by omega)
def zb (v : Int32) : Int32 := if v = 0 then 0 else 1
theorem zb_01 (v : Int32) : z01 (zb v) := by
  unfold zb
  by_cases h : v = 0
  · rw [if_pos h]
    exact Or.inl rfl
  · rw [if_neg h]
    exact Or.inr rfl
section Ka
variable {l : Launch} {D : va_G} {A : Nat → Prop} {tys : List (ClassId × FieldType)} {G : jG} {cc : ByteArray} {own : String} {Ts : List Cond} {rm : Room} {n0 : Nat} {ws : va_W} {cu su : Nat} {pc : Nat} {lv : List (Nat × Value)} {stk : List Value}
theorem k_arg (C : kC (l, D, A, tys) G cc own Ts rm n0) {b L : Nat} {xs : Nat → Int32} (hX : va_X b L xs (gS G) (gS G).heap) (hbl : b < (gS G).heap.size) (hbA : ¬ A b) {x kv : Int32} {k : Int} (h0 : lv[0]? = some (0, .ref b)) (h4 : lv[4]? = some (4, .int x)) (hkv : Int32.ofInt k = kv) (hin : vp_in (x + kv) L) (d0 : decode cc pc = .ok (.aload_n 0, 1)) (d1 : decode cc (pc + 1) = .ok (.iload 4, 2)) (d3 : decode cc (pc + 3) = .ok (.iconst k, 1)) (d4 : decode cc (pc + 4) = .ok (.iadd, 1)) (d5 : decode cc (pc + 5) = .ok (.iaload, 1)) (kk : kW (l, D, A, tys) G ws cu su (pc + 6) lv (.int (xs (ix (x + kv))) :: stk)) : kW (l, D, A, tys) G ws cu su pc lv stk := by
  refine k_aload_n C 0 d0 rfl h0 ?_
  refine k_iload C 4 d1 h4 ?_
  refine k_iconst C d3 hkv ?_
  refine k_iadd C d4 ?_
  exact k_sld C hX hbl hbA hin d5 kk
theorem k_bool (C : kC (l, D, A, tys) G cc own Ts rm n0) {v : Int32} (d0 : decode cc pc = .ok (.ifCond .eq 7, 3)) (d3 : decode cc (pc + 3) = .ok (.iconst 1, 1)) (d4 : decode cc (pc + 4) = .ok (.goto 4, 3)) (d7 : decode cc (pc + 7) = .ok (.iconst 0, 1)) (kk : kW (l, D, A, tys) G ws cu su (pc + 8) lv (.int (zb v) :: stk)) : kW (l, D, A, tys) G ws cu su pc lv (.int v :: stk) := by
  refine k_if_eq C (pc + 7) d0 (by omega) (fun h => ?_) (fun h => ?_)
  · refine k_iconst C (v := 0) d7 (by decide) ?_
    unfold zb at kk
    rw [if_pos h] at kk
    exact kk
  · refine k_iconst C (v := 1) d3 (by decide) ?_
    refine k_goto C (pc + 8) d4 (by omega) ?_
    unfold zb at kk
    rw [if_neg h] at kk
    exact kk
end Ka
section Lc
variable {l : Launch} {D : va_G} {A : Nat → Prop} {G : jG} {ad ad2 : Nat → Nat} {o b L j : Nat} {aI aZ aF aS aL : ClassId} {xs : Nat → Int32} {K M : Mem} {f : Nat → Int64} {cu su T : Nat}
set_option maxRecDepth 100000 in
set_option maxHeartbeats 4000000 in
theorem lc_put (C : kC (l, D, A, TL aI aZ aF aS aL) G cL_law RL wsL_law room_1 9) (hN : NWC (gS G)) (hX : va_X b L xs (gS G) (gS G).heap) (hbl : b < (gS G).heap.size) (hbA : ¬ A b) (hcu : cu ≤ room_1.cells) (hsu : su ≤ room_1.slots) (hi : 5 * j + 5 ≤ L) (hL : L ≤ 320) (h : RR T K M) (loop : ∀ K M, RR T K M → kW (l, D, A, TL aI aZ aF aS aL) G (wW ad ad2 o aI aZ aF aS aL K M f) cu su 892 (lvL b ad ad2 o j) []) : kW (l, D, A, TL aI aZ aF aS aL) G (wW ad ad2 o aI aZ aF aS aL K M f) cu su 116 (lvL b ad ad2 o j) [] := by
  obtain ⟨r, K', M', e1, e2, h'⟩ := s_put h (xs (ix (nI (5 * j) + 1))) (xs (ix (nI (5 * j) + 2))) (xs (ix (nI (5 * j) + 3))) (xs (ix (nI (5 * j) + 4)))
  refine k_aload_n C 1 dL_law_116 rfl rfl ?_
  refine k_arg C hX hbl hbA (kv := 1) rfl rfl rfl (vin (k := 1) hi hL (by omega)) dL_law_117 dL_law_118 dL_law_120 dL_law_121 dL_law_122 ?_
  refine k_arg C hX hbl hbA (kv := 2) rfl rfl rfl (vin (k := 2) hi hL (by omega)) dL_law_123 dL_law_124 dL_law_126 dL_law_127 dL_law_128 ?_
  refine k_arg C hX hbl hbA (kv := 3) rfl rfl rfl (vin (k := 3) hi hL (by omega)) dL_law_129 dL_law_130 dL_law_132 dL_law_133 dL_law_134 ?_
  refine k_arg C hX hbl hbA (kv := 4) rfl rfl rfl (vin (k := 4) hi hL (by omega)) dL_law_135 dL_law_136 dL_law_138 dL_law_139 dL_law_140 ?_
  refine k_cI C (EC_ok l D ad aI aZ aF) (fun K => aa_A (wC_ad ad aI aZ aF K)) [0, 1, 2] rfl hN [.int (xs (ix (nI (5 * j) + 1))), .int (xs (ix (nI (5 * j) + 2))), .int (xs (ix (nI (5 * j) + 3))), .int (xs (ix (nI (5 * j) + 4)))] ([(o, eL aL f)] ++ wM ad2 aI aZ aS aF M) a1C a1R gL_law_X8_put rfl hlX8_put ⟨⟨rfl, rfl⟩, Nat.le_of_ble_eq_true rfl, Nat.le_of_ble_eq_true rfl⟩ rfl g_0 rfl (k_X8_put e1) w1c w1r rfl rfl a1D hcu hsu dL_law_141 rfl (Nat.le_of_ble_eq_true rfl) ?_
  refine k_aload_n C 2 dL_law_144 rfl rfl ?_
  refine k_arg C hX hbl hbA (kv := 1) rfl rfl rfl (vin (k := 1) hi hL (by omega)) dL_law_145 dL_law_146 dL_law_148 dL_law_149 dL_law_150 ?_
  refine k_arg C hX hbl hbA (kv := 2) rfl rfl rfl (vin (k := 2) hi hL (by omega)) dL_law_151 dL_law_152 dL_law_154 dL_law_155 dL_law_156 ?_
  refine k_arg C hX hbl hbA (kv := 3) rfl rfl rfl (vin (k := 3) hi hL (by omega)) dL_law_157 dL_law_158 dL_law_160 dL_law_161 dL_law_162 ?_
  refine k_arg C hX hbl hbA (kv := 4) rfl rfl rfl (vin (k := 4) hi hL (by omega)) dL_law_163 dL_law_164 dL_law_166 dL_law_167 dL_law_168 ?_
  refine k_cI C (EM_ok l D ad2 aI aZ aS aF) (fun M => aa_A (wM_ad ad2 aI aZ aS aF M)) [0, 1, 3, 2] rfl trivial [.int (xs (ix (nI (5 * j) + 1))), .int (xs (ix (nI (5 * j) + 2))), .int (xs (ix (nI (5 * j) + 3))), .int (xs (ix (nI (5 * j) + 4)))] (wL ad o aI aZ aF aL K' f) a2C a2R gL_law_X9_put rfl hlX9_put ⟨⟨rfl, rfl⟩, Nat.le_of_ble_eq_true rfl, Nat.le_of_ble_eq_true rfl⟩ rfl h_0 rfl (k_X9_put e2) w2c w2r rfl rfl a2D hcu hsu dL_law_169 rfl (Nat.le_of_ble_eq_true rfl) ?_
  exact k_icmp_eq C 892 dL_law_172 (by decide) (fun _ => loop K' M' h') (fun h9 => absurd rfl h9)
set_option maxRecDepth 100000 in
set_option maxHeartbeats 4000000 in
theorem lc_place (C : kC (l, D, A, TL aI aZ aF aS aL) G cL_law RL wsL_law room_1 9) (hN : NWC (gS G)) (hX : va_X b L xs (gS G) (gS G).heap) (hbl : b < (gS G).heap.size) (hbA : ¬ A b) (hcu : cu ≤ room_1.cells) (hsu : su ≤ room_1.slots) (hi : 5 * j + 5 ≤ L) (hL : L ≤ 320) (h : RR T K M) (loop : ∀ K M, RR T K M → kW (l, D, A, TL aI aZ aF aS aL) G (wW ad ad2 o aI aZ aF aS aL K M f) cu su 892 (lvL b ad ad2 o j) []) : kW (l, D, A, TL aI aZ aF aS aL) G (wW ad ad2 o aI aZ aF aS aL K M f) cu su 233 (lvL b ad ad2 o j) [] := by
  obtain ⟨r, M', e1, e2, h'⟩ := s_place h (xs (ix (nI (5 * j) + 1)))
  refine k_aload_n C 1 dL_law_233 rfl rfl ?_
  refine k_arg C hX hbl hbA (kv := 1) rfl rfl rfl (vin (k := 1) hi hL (by omega)) dL_law_234 dL_law_235 dL_law_237 dL_law_238 dL_law_239 ?_
  refine k_cI C (EC_ok l D ad aI aZ aF) (fun K => aa_A (wC_ad ad aI aZ aF K)) [0, 1, 2] rfl hN [.int (xs (ix (nI (5 * j) + 1)))] ([(o, eL aL f)] ++ wM ad2 aI aZ aS aF M) a1C a1R gL_law_X8_place rfl hlX8_place ⟨⟨rfl, rfl⟩, Nat.le_of_ble_eq_true rfl, Nat.le_of_ble_eq_true rfl⟩ rfl g_0 rfl (k_X8_place e1) w1c w1r rfl rfl a1D hcu hsu dL_law_240 rfl (Nat.le_of_ble_eq_true rfl) ?_
  refine k_aload_n C 2 dL_law_243 rfl rfl ?_
  refine k_arg C hX hbl hbA (kv := 1) rfl rfl rfl (vin (k := 1) hi hL (by omega)) dL_law_244 dL_law_245 dL_law_247 dL_law_248 dL_law_249 ?_
  refine k_cI C (EM_ok l D ad2 aI aZ aS aF) (fun M => aa_A (wM_ad ad2 aI aZ aS aF M)) [0, 1, 3, 2] rfl trivial [.int (xs (ix (nI (5 * j) + 1)))] (wL ad o aI aZ aF aL K f) a2C a2R gL_law_X9_place rfl hlX9_place ⟨⟨rfl, rfl⟩, Nat.le_of_ble_eq_true rfl, Nat.le_of_ble_eq_true rfl⟩ rfl h_0 rfl (k_X9_place e2) w2c w2r rfl rfl a2D hcu hsu dL_law_250 rfl (Nat.le_of_ble_eq_true rfl) ?_
  exact k_icmp_eq C 892 dL_law_253 (by decide) (fun _ => loop K M' h') (fun h9 => absurd rfl h9)
set_option maxRecDepth 100000 in
set_option maxHeartbeats 4000000 in
theorem lc_detect (C : kC (l, D, A, TL aI aZ aF aS aL) G cL_law RL wsL_law room_1 9) (hN : NWC (gS G)) (hX : va_X b L xs (gS G) (gS G).heap) (hbl : b < (gS G).heap.size) (hbA : ¬ A b) (hcu : cu ≤ room_1.cells) (hsu : su ≤ room_1.slots) (hi : 5 * j + 5 ≤ L) (hL : L ≤ 320) (h : RR T K M) (loop : ∀ K M, RR T K M → kW (l, D, A, TL aI aZ aF aS aL) G (wW ad ad2 o aI aZ aF aS aL K M f) cu su 892 (lvL b ad ad2 o j) []) : kW (l, D, A, TL aI aZ aF aS aL) G (wW ad ad2 o aI aZ aF aS aL K M f) cu su 258 (lvL b ad ad2 o j) [] := by
  obtain ⟨r, K', M', e1, e2, h'⟩ := s_detect h (xs (ix (nI (5 * j) + 1))) (xs (ix (nI (5 * j) + 2))) (zb (xs (ix (nI (5 * j) + 3)))) (zb_01 _)
  refine k_aload_n C 1 dL_law_258 rfl rfl ?_
  refine k_arg C hX hbl hbA (kv := 1) rfl rfl rfl (vin (k := 1) hi hL (by omega)) dL_law_259 dL_law_260 dL_law_262 dL_law_263 dL_law_264 ?_
  refine k_arg C hX hbl hbA (kv := 2) rfl rfl rfl (vin (k := 2) hi hL (by omega)) dL_law_265 dL_law_266 dL_law_268 dL_law_269 dL_law_270 ?_
  refine k_arg C hX hbl hbA (kv := 3) rfl rfl rfl (vin (k := 3) hi hL (by omega)) dL_law_271 dL_law_272 dL_law_274 dL_law_275 dL_law_276 ?_
  refine k_bool C dL_law_277 dL_law_280 dL_law_281 dL_law_284 ?_
  refine k_cI C (EC_ok l D ad aI aZ aF) (fun K => aa_A (wC_ad ad aI aZ aF K)) [0, 1, 2] rfl hN [.int (xs (ix (nI (5 * j) + 1))), .int (xs (ix (nI (5 * j) + 2))), .int (zb (xs (ix (nI (5 * j) + 3))))] ([(o, eL aL f)] ++ wM ad2 aI aZ aS aF M) a1C a1R gL_law_X8_detect rfl hlX8_detect ⟨⟨rfl, rfl⟩, Nat.le_of_ble_eq_true rfl, Nat.le_of_ble_eq_true rfl⟩ rfl g_0 rfl (k_X8_detect e1) w1c w1r rfl rfl a1D hcu hsu dL_law_285 rfl (Nat.le_of_ble_eq_true rfl) ?_
  refine k_aload_n C 2 dL_law_288 rfl rfl ?_
  refine k_arg C hX hbl hbA (kv := 1) rfl rfl rfl (vin (k := 1) hi hL (by omega)) dL_law_289 dL_law_290 dL_law_292 dL_law_293 dL_law_294 ?_
  refine k_arg C hX hbl hbA (kv := 2) rfl rfl rfl (vin (k := 2) hi hL (by omega)) dL_law_295 dL_law_296 dL_law_298 dL_law_299 dL_law_300 ?_
  refine k_arg C hX hbl hbA (kv := 3) rfl rfl rfl (vin (k := 3) hi hL (by omega)) dL_law_301 dL_law_302 dL_law_304 dL_law_305 dL_law_306 ?_
  refine k_bool C dL_law_307 dL_law_310 dL_law_311 dL_law_314 ?_
  refine k_cI C (EM_ok l D ad2 aI aZ aS aF) (fun M => aa_A (wM_ad ad2 aI aZ aS aF M)) [0, 1, 3, 2] rfl trivial [.int (xs (ix (nI (5 * j) + 1))), .int (xs (ix (nI (5 * j) + 2))), .int (zb (xs (ix (nI (5 * j) + 3))))] (wL ad o aI aZ aF aL K' f) a2C a2R gL_law_X9_detect rfl hlX9_detect ⟨⟨rfl, rfl⟩, Nat.le_of_ble_eq_true rfl, Nat.le_of_ble_eq_true rfl⟩ rfl h_0 rfl (k_X9_detect e2) w2c w2r rfl rfl a2D hcu hsu dL_law_315 rfl (Nat.le_of_ble_eq_true rfl) ?_
  exact k_icmp_eq C 892 dL_law_318 (by decide) (fun _ => loop K' M' h') (fun h9 => absurd rfl h9)
set_option maxRecDepth 100000 in
set_option maxHeartbeats 4000000 in
theorem lc_press (C : kC (l, D, A, TL aI aZ aF aS aL) G cL_law RL wsL_law room_1 9) (hN : NWC (gS G)) (hX : va_X b L xs (gS G) (gS G).heap) (hbl : b < (gS G).heap.size) (hbA : ¬ A b) (hcu : cu ≤ room_1.cells) (hsu : su ≤ room_1.slots) (hi : 5 * j + 5 ≤ L) (hL : L ≤ 320) (h : RR T K M) (loop : ∀ K M, RR T K M → kW (l, D, A, TL aI aZ aF aS aL) G (wW ad ad2 o aI aZ aF aS aL K M f) cu su 892 (lvL b ad ad2 o j) []) : kW (l, D, A, TL aI aZ aF aS aL) G (wW ad ad2 o aI aZ aF aS aL K M f) cu su 323 (lvL b ad ad2 o j) [] := by
  obtain ⟨r, K', M', e1, e2, h'⟩ := s_press h (xs (ix (nI (5 * j) + 1))) (xs (ix (nI (5 * j) + 2)))
  refine k_aload_n C 1 dL_law_323 rfl rfl ?_
  refine k_arg C hX hbl hbA (kv := 1) rfl rfl rfl (vin (k := 1) hi hL (by omega)) dL_law_324 dL_law_325 dL_law_327 dL_law_328 dL_law_329 ?_
  refine k_arg C hX hbl hbA (kv := 2) rfl rfl rfl (vin (k := 2) hi hL (by omega)) dL_law_330 dL_law_331 dL_law_333 dL_law_334 dL_law_335 ?_
  refine k_cI C (EC_ok l D ad aI aZ aF) (fun K => aa_A (wC_ad ad aI aZ aF K)) [0, 1, 2] rfl hN [.int (xs (ix (nI (5 * j) + 1))), .int (xs (ix (nI (5 * j) + 2)))] ([(o, eL aL f)] ++ wM ad2 aI aZ aS aF M) a1C a1R gL_law_X8_press rfl hlX8_press ⟨⟨rfl, rfl⟩, Nat.le_of_ble_eq_true rfl, Nat.le_of_ble_eq_true rfl⟩ rfl g_0 rfl (k_X8_press e1) w1c w1r rfl rfl a1D hcu hsu dL_law_336 rfl (Nat.le_of_ble_eq_true rfl) ?_
  refine k_aload_n C 2 dL_law_339 rfl rfl ?_
  refine k_arg C hX hbl hbA (kv := 1) rfl rfl rfl (vin (k := 1) hi hL (by omega)) dL_law_340 dL_law_341 dL_law_343 dL_law_344 dL_law_345 ?_
  refine k_arg C hX hbl hbA (kv := 2) rfl rfl rfl (vin (k := 2) hi hL (by omega)) dL_law_346 dL_law_347 dL_law_349 dL_law_350 dL_law_351 ?_
  refine k_cI C (EM_ok l D ad2 aI aZ aS aF) (fun M => aa_A (wM_ad ad2 aI aZ aS aF M)) [0, 1, 3, 2] rfl trivial [.int (xs (ix (nI (5 * j) + 1))), .int (xs (ix (nI (5 * j) + 2)))] (wL ad o aI aZ aF aL K' f) a2C a2R gL_law_X9_press rfl hlX9_press ⟨⟨rfl, rfl⟩, Nat.le_of_ble_eq_true rfl, Nat.le_of_ble_eq_true rfl⟩ rfl h_0 rfl (k_X9_press e2) w2c w2r rfl rfl a2D hcu hsu dL_law_352 rfl (Nat.le_of_ble_eq_true rfl) ?_
  exact k_icmp_eq C 892 dL_law_355 (by decide) (fun _ => loop K' M' h') (fun h9 => absurd rfl h9)
set_option maxRecDepth 100000 in
set_option maxHeartbeats 4000000 in
theorem lc_target (C : kC (l, D, A, TL aI aZ aF aS aL) G cL_law RL wsL_law room_1 9) (hN : NWC (gS G)) (hX : va_X b L xs (gS G) (gS G).heap) (hbl : b < (gS G).heap.size) (hbA : ¬ A b) (hcu : cu ≤ room_1.cells) (hsu : su ≤ room_1.slots) (hi : 5 * j + 5 ≤ L) (hL : L ≤ 320) (h : RR T K M) (loop : ∀ K M, RR T K M → kW (l, D, A, TL aI aZ aF aS aL) G (wW ad ad2 o aI aZ aF aS aL K M f) cu su 892 (lvL b ad ad2 o j) []) : kW (l, D, A, TL aI aZ aF aS aL) G (wW ad ad2 o aI aZ aF aS aL K M f) cu su 360 (lvL b ad ad2 o j) [] := by
  obtain ⟨r, K', M', e1, e2, h'⟩ := s_target h (xs (ix (nI (5 * j) + 1))) (xs (ix (nI (5 * j) + 2))) (xs (ix (nI (5 * j) + 3)))
  refine k_aload_n C 1 dL_law_360 rfl rfl ?_
  refine k_arg C hX hbl hbA (kv := 1) rfl rfl rfl (vin (k := 1) hi hL (by omega)) dL_law_361 dL_law_362 dL_law_364 dL_law_365 dL_law_366 ?_
  refine k_arg C hX hbl hbA (kv := 2) rfl rfl rfl (vin (k := 2) hi hL (by omega)) dL_law_367 dL_law_368 dL_law_370 dL_law_371 dL_law_372 ?_
  refine k_arg C hX hbl hbA (kv := 3) rfl rfl rfl (vin (k := 3) hi hL (by omega)) dL_law_373 dL_law_374 dL_law_376 dL_law_377 dL_law_378 ?_
  refine k_cI C (EC_ok l D ad aI aZ aF) (fun K => aa_A (wC_ad ad aI aZ aF K)) [0, 1, 2] rfl hN [.int (xs (ix (nI (5 * j) + 1))), .int (xs (ix (nI (5 * j) + 2))), .int (xs (ix (nI (5 * j) + 3)))] ([(o, eL aL f)] ++ wM ad2 aI aZ aS aF M) a1C a1R gL_law_X8_target rfl hlX8_target ⟨⟨rfl, rfl⟩, Nat.le_of_ble_eq_true rfl, Nat.le_of_ble_eq_true rfl⟩ rfl g_0 rfl (k_X8_target e1) w1c w1r rfl rfl a1D hcu hsu dL_law_379 rfl (Nat.le_of_ble_eq_true rfl) ?_
  refine k_aload_n C 2 dL_law_382 rfl rfl ?_
  refine k_arg C hX hbl hbA (kv := 1) rfl rfl rfl (vin (k := 1) hi hL (by omega)) dL_law_383 dL_law_384 dL_law_386 dL_law_387 dL_law_388 ?_
  refine k_arg C hX hbl hbA (kv := 2) rfl rfl rfl (vin (k := 2) hi hL (by omega)) dL_law_389 dL_law_390 dL_law_392 dL_law_393 dL_law_394 ?_
  refine k_arg C hX hbl hbA (kv := 3) rfl rfl rfl (vin (k := 3) hi hL (by omega)) dL_law_395 dL_law_396 dL_law_398 dL_law_399 dL_law_400 ?_
  refine k_cI C (EM_ok l D ad2 aI aZ aS aF) (fun M => aa_A (wM_ad ad2 aI aZ aS aF M)) [0, 1, 3, 2] rfl trivial [.int (xs (ix (nI (5 * j) + 1))), .int (xs (ix (nI (5 * j) + 2))), .int (xs (ix (nI (5 * j) + 3)))] (wL ad o aI aZ aF aL K' f) a2C a2R gL_law_X9_target rfl hlX9_target ⟨⟨rfl, rfl⟩, Nat.le_of_ble_eq_true rfl, Nat.le_of_ble_eq_true rfl⟩ rfl h_0 rfl (k_X9_target e2) w2c w2r rfl rfl a2D hcu hsu dL_law_401 rfl (Nat.le_of_ble_eq_true rfl) ?_
  exact k_icmp_eq C 892 dL_law_404 (by decide) (fun _ => loop K' M' h') (fun h9 => absurd rfl h9)
set_option maxRecDepth 100000 in
set_option maxHeartbeats 4000000 in
theorem lc_preempt (C : kC (l, D, A, TL aI aZ aF aS aL) G cL_law RL wsL_law room_1 9) (hN : NWC (gS G)) (hX : va_X b L xs (gS G) (gS G).heap) (hbl : b < (gS G).heap.size) (hbA : ¬ A b) (hcu : cu ≤ room_1.cells) (hsu : su ≤ room_1.slots) (hi : 5 * j + 5 ≤ L) (hL : L ≤ 320) (h : RR T K M) (loop : ∀ K M, RR T K M → kW (l, D, A, TL aI aZ aF aS aL) G (wW ad ad2 o aI aZ aF aS aL K M f) cu su 892 (lvL b ad ad2 o j) []) : kW (l, D, A, TL aI aZ aF aS aL) G (wW ad ad2 o aI aZ aF aS aL K M f) cu su 409 (lvL b ad ad2 o j) [] := by
  obtain ⟨r, K', M', e1, e2, h'⟩ := s_preempt h (xs (ix (nI (5 * j) + 1))) (xs (ix (nI (5 * j) + 2))) (zb (xs (ix (nI (5 * j) + 3)))) (zb_01 _)
  refine k_aload_n C 1 dL_law_409 rfl rfl ?_
  refine k_arg C hX hbl hbA (kv := 1) rfl rfl rfl (vin (k := 1) hi hL (by omega)) dL_law_410 dL_law_411 dL_law_413 dL_law_414 dL_law_415 ?_
  refine k_arg C hX hbl hbA (kv := 2) rfl rfl rfl (vin (k := 2) hi hL (by omega)) dL_law_416 dL_law_417 dL_law_419 dL_law_420 dL_law_421 ?_
  refine k_arg C hX hbl hbA (kv := 3) rfl rfl rfl (vin (k := 3) hi hL (by omega)) dL_law_422 dL_law_423 dL_law_425 dL_law_426 dL_law_427 ?_
  refine k_bool C dL_law_428 dL_law_431 dL_law_432 dL_law_435 ?_
  refine k_cI C (EC_ok l D ad aI aZ aF) (fun K => aa_A (wC_ad ad aI aZ aF K)) [0, 1, 2] rfl hN [.int (xs (ix (nI (5 * j) + 1))), .int (xs (ix (nI (5 * j) + 2))), .int (zb (xs (ix (nI (5 * j) + 3))))] ([(o, eL aL f)] ++ wM ad2 aI aZ aS aF M) a1C a1R gL_law_X8_preempt rfl hlX8_preempt ⟨⟨rfl, rfl⟩, Nat.le_of_ble_eq_true rfl, Nat.le_of_ble_eq_true rfl⟩ rfl g_0 rfl (k_X8_preempt e1) w1c w1r rfl rfl a1D hcu hsu dL_law_436 rfl (Nat.le_of_ble_eq_true rfl) ?_
  refine k_aload_n C 2 dL_law_439 rfl rfl ?_
  refine k_arg C hX hbl hbA (kv := 1) rfl rfl rfl (vin (k := 1) hi hL (by omega)) dL_law_440 dL_law_441 dL_law_443 dL_law_444 dL_law_445 ?_
  refine k_arg C hX hbl hbA (kv := 2) rfl rfl rfl (vin (k := 2) hi hL (by omega)) dL_law_446 dL_law_447 dL_law_449 dL_law_450 dL_law_451 ?_
  refine k_arg C hX hbl hbA (kv := 3) rfl rfl rfl (vin (k := 3) hi hL (by omega)) dL_law_452 dL_law_453 dL_law_455 dL_law_456 dL_law_457 ?_
  refine k_bool C dL_law_458 dL_law_461 dL_law_462 dL_law_465 ?_
  refine k_cI C (EM_ok l D ad2 aI aZ aS aF) (fun M => aa_A (wM_ad ad2 aI aZ aS aF M)) [0, 1, 3, 2] rfl trivial [.int (xs (ix (nI (5 * j) + 1))), .int (xs (ix (nI (5 * j) + 2))), .int (zb (xs (ix (nI (5 * j) + 3))))] (wL ad o aI aZ aF aL K' f) a2C a2R gL_law_X9_preempt rfl hlX9_preempt ⟨⟨rfl, rfl⟩, Nat.le_of_ble_eq_true rfl, Nat.le_of_ble_eq_true rfl⟩ rfl h_0 rfl (k_X9_preempt e2) w2c w2r rfl rfl a2D hcu hsu dL_law_466 rfl (Nat.le_of_ble_eq_true rfl) ?_
  exact k_icmp_eq C 892 dL_law_469 (by decide) (fun _ => loop K' M' h') (fun h9 => absurd rfl h9)
set_option maxRecDepth 100000 in
set_option maxHeartbeats 4000000 in
theorem lc_plan (C : kC (l, D, A, TL aI aZ aF aS aL) G cL_law RL wsL_law room_1 9) (hN : NWC (gS G)) (hX : va_X b L xs (gS G) (gS G).heap) (hbl : b < (gS G).heap.size) (hbA : ¬ A b) (hcu : cu ≤ room_1.cells) (hsu : su ≤ room_1.slots) (hi : 5 * j + 5 ≤ L) (hL : L ≤ 320) (h : RR T K M) (loop : ∀ K M, RR T K M → kW (l, D, A, TL aI aZ aF aS aL) G (wW ad ad2 o aI aZ aF aS aL K M f) cu su 892 (lvL b ad ad2 o j) []) : kW (l, D, A, TL aI aZ aF aS aL) G (wW ad ad2 o aI aZ aF aS aL K M f) cu su 474 (lvL b ad ad2 o j) [] := by
  obtain ⟨r, K', M', e1, e2, h'⟩ := s_plan h (xs (ix (nI (5 * j) + 1))) (xs (ix (nI (5 * j) + 2))) (xs (ix (nI (5 * j) + 3))) (xs (ix (nI (5 * j) + 4)))
  refine k_aload_n C 1 dL_law_474 rfl rfl ?_
  refine k_arg C hX hbl hbA (kv := 1) rfl rfl rfl (vin (k := 1) hi hL (by omega)) dL_law_475 dL_law_476 dL_law_478 dL_law_479 dL_law_480 ?_
  refine k_arg C hX hbl hbA (kv := 2) rfl rfl rfl (vin (k := 2) hi hL (by omega)) dL_law_481 dL_law_482 dL_law_484 dL_law_485 dL_law_486 ?_
  refine k_arg C hX hbl hbA (kv := 3) rfl rfl rfl (vin (k := 3) hi hL (by omega)) dL_law_487 dL_law_488 dL_law_490 dL_law_491 dL_law_492 ?_
  refine k_arg C hX hbl hbA (kv := 4) rfl rfl rfl (vin (k := 4) hi hL (by omega)) dL_law_493 dL_law_494 dL_law_496 dL_law_497 dL_law_498 ?_
  refine k_cI C (EC_ok l D ad aI aZ aF) (fun K => aa_A (wC_ad ad aI aZ aF K)) [0, 1, 2] rfl hN [.int (xs (ix (nI (5 * j) + 1))), .int (xs (ix (nI (5 * j) + 2))), .int (xs (ix (nI (5 * j) + 3))), .int (xs (ix (nI (5 * j) + 4)))] ([(o, eL aL f)] ++ wM ad2 aI aZ aS aF M) a1C a1R gL_law_X8_plan rfl hlX8_plan ⟨⟨rfl, rfl⟩, Nat.le_of_ble_eq_true rfl, Nat.le_of_ble_eq_true rfl⟩ rfl g_0 rfl (k_X8_plan e1) w1c w1r rfl rfl a1D hcu hsu dL_law_499 rfl (Nat.le_of_ble_eq_true rfl) ?_
  refine k_aload_n C 2 dL_law_502 rfl rfl ?_
  refine k_arg C hX hbl hbA (kv := 1) rfl rfl rfl (vin (k := 1) hi hL (by omega)) dL_law_503 dL_law_504 dL_law_506 dL_law_507 dL_law_508 ?_
  refine k_arg C hX hbl hbA (kv := 2) rfl rfl rfl (vin (k := 2) hi hL (by omega)) dL_law_509 dL_law_510 dL_law_512 dL_law_513 dL_law_514 ?_
  refine k_arg C hX hbl hbA (kv := 3) rfl rfl rfl (vin (k := 3) hi hL (by omega)) dL_law_515 dL_law_516 dL_law_518 dL_law_519 dL_law_520 ?_
  refine k_arg C hX hbl hbA (kv := 4) rfl rfl rfl (vin (k := 4) hi hL (by omega)) dL_law_521 dL_law_522 dL_law_524 dL_law_525 dL_law_526 ?_
  refine k_cI C (EM_ok l D ad2 aI aZ aS aF) (fun M => aa_A (wM_ad ad2 aI aZ aS aF M)) [0, 1, 3, 2] rfl trivial [.int (xs (ix (nI (5 * j) + 1))), .int (xs (ix (nI (5 * j) + 2))), .int (xs (ix (nI (5 * j) + 3))), .int (xs (ix (nI (5 * j) + 4)))] (wL ad o aI aZ aF aL K' f) a2C a2R gL_law_X9_plan rfl hlX9_plan ⟨⟨rfl, rfl⟩, Nat.le_of_ble_eq_true rfl, Nat.le_of_ble_eq_true rfl⟩ rfl h_0 rfl (k_X9_plan e2) w2c w2r rfl rfl a2D hcu hsu dL_law_527 rfl (Nat.le_of_ble_eq_true rfl) ?_
  exact k_icmp_eq C 892 dL_law_530 (by decide) (fun _ => loop K' M' h') (fun h9 => absurd rfl h9)
set_option maxRecDepth 100000 in
set_option maxHeartbeats 4000000 in
theorem lc_message (C : kC (l, D, A, TL aI aZ aF aS aL) G cL_law RL wsL_law room_1 9) (hN : NWC (gS G)) (hX : va_X b L xs (gS G) (gS G).heap) (hbl : b < (gS G).heap.size) (hbA : ¬ A b) (hcu : cu ≤ room_1.cells) (hsu : su ≤ room_1.slots) (hi : 5 * j + 5 ≤ L) (hL : L ≤ 320) (h : RR T K M) (loop : ∀ K M, RR T K M → kW (l, D, A, TL aI aZ aF aS aL) G (wW ad ad2 o aI aZ aF aS aL K M f) cu su 892 (lvL b ad ad2 o j) []) : kW (l, D, A, TL aI aZ aF aS aL) G (wW ad ad2 o aI aZ aF aS aL K M f) cu su 535 (lvL b ad ad2 o j) [] := by
  obtain ⟨r, K', M', e1, e2, h'⟩ := s_message h (xs (ix (nI (5 * j) + 1))) (xs (ix (nI (5 * j) + 2))) (xs (ix (nI (5 * j) + 3)))
  refine k_aload_n C 1 dL_law_535 rfl rfl ?_
  refine k_arg C hX hbl hbA (kv := 1) rfl rfl rfl (vin (k := 1) hi hL (by omega)) dL_law_536 dL_law_537 dL_law_539 dL_law_540 dL_law_541 ?_
  refine k_arg C hX hbl hbA (kv := 2) rfl rfl rfl (vin (k := 2) hi hL (by omega)) dL_law_542 dL_law_543 dL_law_545 dL_law_546 dL_law_547 ?_
  refine k_arg C hX hbl hbA (kv := 3) rfl rfl rfl (vin (k := 3) hi hL (by omega)) dL_law_548 dL_law_549 dL_law_551 dL_law_552 dL_law_553 ?_
  refine k_cI C (EC_ok l D ad aI aZ aF) (fun K => aa_A (wC_ad ad aI aZ aF K)) [0, 1, 2] rfl hN [.int (xs (ix (nI (5 * j) + 1))), .int (xs (ix (nI (5 * j) + 2))), .int (xs (ix (nI (5 * j) + 3)))] ([(o, eL aL f)] ++ wM ad2 aI aZ aS aF M) a1C a1R gL_law_X8_message rfl hlX8_message ⟨⟨rfl, rfl⟩, Nat.le_of_ble_eq_true rfl, Nat.le_of_ble_eq_true rfl⟩ rfl g_0 rfl (k_X8_message e1) w1c w1r rfl rfl a1D hcu hsu dL_law_554 rfl (Nat.le_of_ble_eq_true rfl) ?_
  refine k_aload_n C 2 dL_law_557 rfl rfl ?_
  refine k_arg C hX hbl hbA (kv := 1) rfl rfl rfl (vin (k := 1) hi hL (by omega)) dL_law_558 dL_law_559 dL_law_561 dL_law_562 dL_law_563 ?_
  refine k_arg C hX hbl hbA (kv := 2) rfl rfl rfl (vin (k := 2) hi hL (by omega)) dL_law_564 dL_law_565 dL_law_567 dL_law_568 dL_law_569 ?_
  refine k_arg C hX hbl hbA (kv := 3) rfl rfl rfl (vin (k := 3) hi hL (by omega)) dL_law_570 dL_law_571 dL_law_573 dL_law_574 dL_law_575 ?_
  refine k_cI C (EM_ok l D ad2 aI aZ aS aF) (fun M => aa_A (wM_ad ad2 aI aZ aS aF M)) [0, 1, 3, 2] rfl trivial [.int (xs (ix (nI (5 * j) + 1))), .int (xs (ix (nI (5 * j) + 2))), .int (xs (ix (nI (5 * j) + 3)))] (wL ad o aI aZ aF aL K' f) a2C a2R gL_law_X9_message rfl hlX9_message ⟨⟨rfl, rfl⟩, Nat.le_of_ble_eq_true rfl, Nat.le_of_ble_eq_true rfl⟩ rfl h_0 rfl (k_X9_message e2) w2c w2r rfl rfl a2D hcu hsu dL_law_576 rfl (Nat.le_of_ble_eq_true rfl) ?_
  exact k_icmp_eq C 892 dL_law_579 (by decide) (fun _ => loop K' M' h') (fun h9 => absurd rfl h9)
set_option maxRecDepth 100000 in
set_option maxHeartbeats 4000000 in
theorem lc_fault (C : kC (l, D, A, TL aI aZ aF aS aL) G cL_law RL wsL_law room_1 9) (hN : NWC (gS G)) (hX : va_X b L xs (gS G) (gS G).heap) (hbl : b < (gS G).heap.size) (hbA : ¬ A b) (hcu : cu ≤ room_1.cells) (hsu : su ≤ room_1.slots) (hi : 5 * j + 5 ≤ L) (hL : L ≤ 320) (h : RR T K M) (loop : ∀ K M, RR T K M → kW (l, D, A, TL aI aZ aF aS aL) G (wW ad ad2 o aI aZ aF aS aL K M f) cu su 892 (lvL b ad ad2 o j) []) : kW (l, D, A, TL aI aZ aF aS aL) G (wW ad ad2 o aI aZ aF aS aL K M f) cu su 584 (lvL b ad ad2 o j) [] := by
  obtain ⟨r, K', M', e1, e2, h'⟩ := s_fault h (xs (ix (nI (5 * j) + 1))) (xs (ix (nI (5 * j) + 2))) (xs (ix (nI (5 * j) + 3)))
  refine k_aload_n C 1 dL_law_584 rfl rfl ?_
  refine k_arg C hX hbl hbA (kv := 1) rfl rfl rfl (vin (k := 1) hi hL (by omega)) dL_law_585 dL_law_586 dL_law_588 dL_law_589 dL_law_590 ?_
  refine k_arg C hX hbl hbA (kv := 2) rfl rfl rfl (vin (k := 2) hi hL (by omega)) dL_law_591 dL_law_592 dL_law_594 dL_law_595 dL_law_596 ?_
  refine k_arg C hX hbl hbA (kv := 3) rfl rfl rfl (vin (k := 3) hi hL (by omega)) dL_law_597 dL_law_598 dL_law_600 dL_law_601 dL_law_602 ?_
  refine k_cI C (EC_ok l D ad aI aZ aF) (fun K => aa_A (wC_ad ad aI aZ aF K)) [0, 1, 2] rfl hN [.int (xs (ix (nI (5 * j) + 1))), .int (xs (ix (nI (5 * j) + 2))), .int (xs (ix (nI (5 * j) + 3)))] ([(o, eL aL f)] ++ wM ad2 aI aZ aS aF M) a1C a1R gL_law_X8_fault rfl hlX8_fault ⟨⟨rfl, rfl⟩, Nat.le_of_ble_eq_true rfl, Nat.le_of_ble_eq_true rfl⟩ rfl g_0 rfl (k_X8_fault e1) w1c w1r rfl rfl a1D hcu hsu dL_law_603 rfl (Nat.le_of_ble_eq_true rfl) ?_
  refine k_aload_n C 2 dL_law_606 rfl rfl ?_
  refine k_arg C hX hbl hbA (kv := 1) rfl rfl rfl (vin (k := 1) hi hL (by omega)) dL_law_607 dL_law_608 dL_law_610 dL_law_611 dL_law_612 ?_
  refine k_arg C hX hbl hbA (kv := 2) rfl rfl rfl (vin (k := 2) hi hL (by omega)) dL_law_613 dL_law_614 dL_law_616 dL_law_617 dL_law_618 ?_
  refine k_arg C hX hbl hbA (kv := 3) rfl rfl rfl (vin (k := 3) hi hL (by omega)) dL_law_619 dL_law_620 dL_law_622 dL_law_623 dL_law_624 ?_
  refine k_cI C (EM_ok l D ad2 aI aZ aS aF) (fun M => aa_A (wM_ad ad2 aI aZ aS aF M)) [0, 1, 3, 2] rfl trivial [.int (xs (ix (nI (5 * j) + 1))), .int (xs (ix (nI (5 * j) + 2))), .int (xs (ix (nI (5 * j) + 3)))] (wL ad o aI aZ aF aL K' f) a2C a2R gL_law_X9_fault rfl hlX9_fault ⟨⟨rfl, rfl⟩, Nat.le_of_ble_eq_true rfl, Nat.le_of_ble_eq_true rfl⟩ rfl h_0 rfl (k_X9_fault e2) w2c w2r rfl rfl a2D hcu hsu dL_law_625 rfl (Nat.le_of_ble_eq_true rfl) ?_
  exact k_icmp_eq C 892 dL_law_628 (by decide) (fun _ => loop K' M' h') (fun h9 => absurd rfl h9)
set_option maxRecDepth 100000 in
set_option maxHeartbeats 4000000 in
theorem lc_reset (C : kC (l, D, A, TL aI aZ aF aS aL) G cL_law RL wsL_law room_1 9) (hN : NWC (gS G)) (hX : va_X b L xs (gS G) (gS G).heap) (hbl : b < (gS G).heap.size) (hbA : ¬ A b) (hcu : cu ≤ room_1.cells) (hsu : su ≤ room_1.slots) (hi : 5 * j + 5 ≤ L) (hL : L ≤ 320) (h : RR T K M) (loop : ∀ K M, RR T K M → kW (l, D, A, TL aI aZ aF aS aL) G (wW ad ad2 o aI aZ aF aS aL K M f) cu su 892 (lvL b ad ad2 o j) []) : kW (l, D, A, TL aI aZ aF aS aL) G (wW ad ad2 o aI aZ aF aS aL K M f) cu su 633 (lvL b ad ad2 o j) [] := by
  obtain ⟨r, K', M', e1, e2, h'⟩ := s_reset h (xs (ix (nI (5 * j) + 1)))
  refine k_aload_n C 1 dL_law_633 rfl rfl ?_
  refine k_arg C hX hbl hbA (kv := 1) rfl rfl rfl (vin (k := 1) hi hL (by omega)) dL_law_634 dL_law_635 dL_law_637 dL_law_638 dL_law_639 ?_
  refine k_cI C (EC_ok l D ad aI aZ aF) (fun K => aa_A (wC_ad ad aI aZ aF K)) [0, 1, 2] rfl hN [.int (xs (ix (nI (5 * j) + 1)))] ([(o, eL aL f)] ++ wM ad2 aI aZ aS aF M) a1C a1R gL_law_X8_reset rfl hlX8_reset ⟨⟨rfl, rfl⟩, Nat.le_of_ble_eq_true rfl, Nat.le_of_ble_eq_true rfl⟩ rfl g_0 rfl (k_X8_reset e1) w1c w1r rfl rfl a1D hcu hsu dL_law_640 rfl (Nat.le_of_ble_eq_true rfl) ?_
  refine k_aload_n C 2 dL_law_643 rfl rfl ?_
  refine k_arg C hX hbl hbA (kv := 1) rfl rfl rfl (vin (k := 1) hi hL (by omega)) dL_law_644 dL_law_645 dL_law_647 dL_law_648 dL_law_649 ?_
  refine k_cI C (EM_ok l D ad2 aI aZ aS aF) (fun M => aa_A (wM_ad ad2 aI aZ aS aF M)) [0, 1, 3, 2] rfl trivial [.int (xs (ix (nI (5 * j) + 1)))] (wL ad o aI aZ aF aL K' f) a2C a2R gL_law_X9_reset rfl hlX9_reset ⟨⟨rfl, rfl⟩, Nat.le_of_ble_eq_true rfl, Nat.le_of_ble_eq_true rfl⟩ rfl h_0 rfl (k_X9_reset e2) w2c w2r rfl rfl a2D hcu hsu dL_law_650 rfl (Nat.le_of_ble_eq_true rfl) ?_
  exact k_icmp_eq C 892 dL_law_653 (by decide) (fun _ => loop K' M' h') (fun h9 => absurd rfl h9)
set_option maxRecDepth 100000 in
set_option maxHeartbeats 4000000 in
theorem lc_lamp (C : kC (l, D, A, TL aI aZ aF aS aL) G cL_law RL wsL_law room_1 9) (hN : NWC (gS G)) (hX : va_X b L xs (gS G) (gS G).heap) (hbl : b < (gS G).heap.size) (hbA : ¬ A b) (hcu : cu ≤ room_1.cells) (hsu : su ≤ room_1.slots) (hi : 5 * j + 5 ≤ L) (hL : L ≤ 320) (h : RR T K M) (loop : ∀ K M, RR T K M → kW (l, D, A, TL aI aZ aF aS aL) G (wW ad ad2 o aI aZ aF aS aL K M f) cu su 892 (lvL b ad ad2 o j) []) : kW (l, D, A, TL aI aZ aF aS aL) G (wW ad ad2 o aI aZ aF aS aL K M f) cu su 714 (lvL b ad ad2 o j) [] := by
  obtain ⟨r, M', e1, e2, h'⟩ := s_lamp h (xs (ix (nI (5 * j) + 1))) (xs (ix (nI (5 * j) + 2)))
  refine k_aload_n C 1 dL_law_714 rfl rfl ?_
  refine k_arg C hX hbl hbA (kv := 1) rfl rfl rfl (vin (k := 1) hi hL (by omega)) dL_law_715 dL_law_716 dL_law_718 dL_law_719 dL_law_720 ?_
  refine k_arg C hX hbl hbA (kv := 2) rfl rfl rfl (vin (k := 2) hi hL (by omega)) dL_law_721 dL_law_722 dL_law_724 dL_law_725 dL_law_726 ?_
  refine k_cI C (EC_ok l D ad aI aZ aF) (fun K => aa_A (wC_ad ad aI aZ aF K)) [0, 1, 2] rfl hN [.int (xs (ix (nI (5 * j) + 1))), .int (xs (ix (nI (5 * j) + 2)))] ([(o, eL aL f)] ++ wM ad2 aI aZ aS aF M) a1C a1R gL_law_X8_lamp rfl hlX8_lamp ⟨⟨rfl, rfl⟩, Nat.le_of_ble_eq_true rfl, Nat.le_of_ble_eq_true rfl⟩ rfl g_0 rfl (k_X8_lamp e1) w1c w1r rfl rfl a1D hcu hsu dL_law_727 rfl (Nat.le_of_ble_eq_true rfl) ?_
  refine k_aload_n C 2 dL_law_730 rfl rfl ?_
  refine k_arg C hX hbl hbA (kv := 1) rfl rfl rfl (vin (k := 1) hi hL (by omega)) dL_law_731 dL_law_732 dL_law_734 dL_law_735 dL_law_736 ?_
  refine k_arg C hX hbl hbA (kv := 2) rfl rfl rfl (vin (k := 2) hi hL (by omega)) dL_law_737 dL_law_738 dL_law_740 dL_law_741 dL_law_742 ?_
  refine k_cI C (EM_ok l D ad2 aI aZ aS aF) (fun M => aa_A (wM_ad ad2 aI aZ aS aF M)) [0, 1, 3, 2] rfl trivial [.int (xs (ix (nI (5 * j) + 1))), .int (xs (ix (nI (5 * j) + 2)))] (wL ad o aI aZ aF aL K f) a2C a2R gL_law_X9_lamp rfl hlX9_lamp ⟨⟨rfl, rfl⟩, Nat.le_of_ble_eq_true rfl, Nat.le_of_ble_eq_true rfl⟩ rfl h_0 rfl (k_X9_lamp e2) w2c w2r rfl rfl a2D hcu hsu dL_law_743 rfl (Nat.le_of_ble_eq_true rfl) ?_
  exact k_icmp_eq C 892 dL_law_746 (by decide) (fun _ => loop K M' h') (fun h9 => absurd rfl h9)
set_option maxRecDepth 100000 in
set_option maxHeartbeats 4000000 in
theorem lc_signs (C : kC (l, D, A, TL aI aZ aF aS aL) G cL_law RL wsL_law room_1 9) (hN : NWC (gS G)) (hX : va_X b L xs (gS G) (gS G).heap) (hbl : b < (gS G).heap.size) (hbA : ¬ A b) (hcu : cu ≤ room_1.cells) (hsu : su ≤ room_1.slots) (hi : 5 * j + 5 ≤ L) (hL : L ≤ 320) (h : RR T K M) (loop : ∀ K M, RR T K M → kW (l, D, A, TL aI aZ aF aS aL) G (wW ad ad2 o aI aZ aF aS aL K M f) cu su 892 (lvL b ad ad2 o j) []) : kW (l, D, A, TL aI aZ aF aS aL) G (wW ad ad2 o aI aZ aF aS aL K M f) cu su 751 (lvL b ad ad2 o j) [] := by
  obtain ⟨r, M', e1, e2, h'⟩ := s_signs h (xs (ix (nI (5 * j) + 1))) (xs (ix (nI (5 * j) + 2)))
  refine k_aload_n C 1 dL_law_751 rfl rfl ?_
  refine k_arg C hX hbl hbA (kv := 1) rfl rfl rfl (vin (k := 1) hi hL (by omega)) dL_law_752 dL_law_753 dL_law_755 dL_law_756 dL_law_757 ?_
  refine k_arg C hX hbl hbA (kv := 2) rfl rfl rfl (vin (k := 2) hi hL (by omega)) dL_law_758 dL_law_759 dL_law_761 dL_law_762 dL_law_763 ?_
  refine k_cI C (EC_ok l D ad aI aZ aF) (fun K => aa_A (wC_ad ad aI aZ aF K)) [0, 1, 2] rfl hN [.int (xs (ix (nI (5 * j) + 1))), .int (xs (ix (nI (5 * j) + 2)))] ([(o, eL aL f)] ++ wM ad2 aI aZ aS aF M) a1C a1R gL_law_X8_signs rfl hlX8_signs ⟨⟨rfl, rfl⟩, Nat.le_of_ble_eq_true rfl, Nat.le_of_ble_eq_true rfl⟩ rfl g_0 rfl (k_X8_signs e1) w1c w1r rfl rfl a1D hcu hsu dL_law_764 rfl (Nat.le_of_ble_eq_true rfl) ?_
  refine k_aload_n C 2 dL_law_767 rfl rfl ?_
  refine k_arg C hX hbl hbA (kv := 1) rfl rfl rfl (vin (k := 1) hi hL (by omega)) dL_law_768 dL_law_769 dL_law_771 dL_law_772 dL_law_773 ?_
  refine k_arg C hX hbl hbA (kv := 2) rfl rfl rfl (vin (k := 2) hi hL (by omega)) dL_law_774 dL_law_775 dL_law_777 dL_law_778 dL_law_779 ?_
  refine k_cI C (EM_ok l D ad2 aI aZ aS aF) (fun M => aa_A (wM_ad ad2 aI aZ aS aF M)) [0, 1, 3, 2] rfl trivial [.int (xs (ix (nI (5 * j) + 1))), .int (xs (ix (nI (5 * j) + 2)))] (wL ad o aI aZ aF aL K f) a2C a2R gL_law_X9_signs rfl hlX9_signs ⟨⟨rfl, rfl⟩, Nat.le_of_ble_eq_true rfl, Nat.le_of_ble_eq_true rfl⟩ rfl h_0 rfl (k_X9_signs e2) w2c w2r rfl rfl a2D hcu hsu dL_law_780 rfl (Nat.le_of_ble_eq_true rfl) ?_
  exact k_icmp_eq C 892 dL_law_783 (by decide) (fun _ => loop K M' h') (fun h9 => absurd rfl h9)
set_option maxRecDepth 100000 in
set_option maxHeartbeats 4000000 in
theorem lc_crossing (C : kC (l, D, A, TL aI aZ aF aS aL) G cL_law RL wsL_law room_1 9) (hN : NWC (gS G)) (hX : va_X b L xs (gS G) (gS G).heap) (hbl : b < (gS G).heap.size) (hbA : ¬ A b) (hcu : cu ≤ room_1.cells) (hsu : su ≤ room_1.slots) (hi : 5 * j + 5 ≤ L) (hL : L ≤ 320) (h : RR T K M) (loop : ∀ K M, RR T K M → kW (l, D, A, TL aI aZ aF aS aL) G (wW ad ad2 o aI aZ aF aS aL K M f) cu su 892 (lvL b ad ad2 o j) []) : kW (l, D, A, TL aI aZ aF aS aL) G (wW ad ad2 o aI aZ aF aS aL K M f) cu su 788 (lvL b ad ad2 o j) [] := by
  obtain ⟨r, M', e1, e2, h'⟩ := s_crossing h (xs (ix (nI (5 * j) + 1))) (xs (ix (nI (5 * j) + 2)))
  refine k_aload_n C 1 dL_law_788 rfl rfl ?_
  refine k_arg C hX hbl hbA (kv := 1) rfl rfl rfl (vin (k := 1) hi hL (by omega)) dL_law_789 dL_law_790 dL_law_792 dL_law_793 dL_law_794 ?_
  refine k_arg C hX hbl hbA (kv := 2) rfl rfl rfl (vin (k := 2) hi hL (by omega)) dL_law_795 dL_law_796 dL_law_798 dL_law_799 dL_law_800 ?_
  refine k_cI C (EC_ok l D ad aI aZ aF) (fun K => aa_A (wC_ad ad aI aZ aF K)) [0, 1, 2] rfl hN [.int (xs (ix (nI (5 * j) + 1))), .int (xs (ix (nI (5 * j) + 2)))] ([(o, eL aL f)] ++ wM ad2 aI aZ aS aF M) a1C a1R gL_law_X8_crossing rfl hlX8_crossing ⟨⟨rfl, rfl⟩, Nat.le_of_ble_eq_true rfl, Nat.le_of_ble_eq_true rfl⟩ rfl g_0 rfl (k_X8_crossing e1) w1c w1r rfl rfl a1D hcu hsu dL_law_801 rfl (Nat.le_of_ble_eq_true rfl) ?_
  refine k_aload_n C 2 dL_law_804 rfl rfl ?_
  refine k_arg C hX hbl hbA (kv := 1) rfl rfl rfl (vin (k := 1) hi hL (by omega)) dL_law_805 dL_law_806 dL_law_808 dL_law_809 dL_law_810 ?_
  refine k_arg C hX hbl hbA (kv := 2) rfl rfl rfl (vin (k := 2) hi hL (by omega)) dL_law_811 dL_law_812 dL_law_814 dL_law_815 dL_law_816 ?_
  refine k_cI C (EM_ok l D ad2 aI aZ aS aF) (fun M => aa_A (wM_ad ad2 aI aZ aS aF M)) [0, 1, 3, 2] rfl trivial [.int (xs (ix (nI (5 * j) + 1))), .int (xs (ix (nI (5 * j) + 2)))] (wL ad o aI aZ aF aL K f) a2C a2R gL_law_X9_crossing rfl hlX9_crossing ⟨⟨rfl, rfl⟩, Nat.le_of_ble_eq_true rfl, Nat.le_of_ble_eq_true rfl⟩ rfl h_0 rfl (k_X9_crossing e2) w2c w2r rfl rfl a2D hcu hsu dL_law_817 rfl (Nat.le_of_ble_eq_true rfl) ?_
  exact k_icmp_eq C 892 dL_law_820 (by decide) (fun _ => loop K M' h') (fun h9 => absurd rfl h9)
end Lc
