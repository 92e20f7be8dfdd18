/-! THE LAW'S START: what the Statement gives, in the words of the rows -/
set_option maxRecDepth 20000 in
theorem nestF_in : ∀ q ∈ nestF, Cond.fieldLinkNest q.1 q.2.1 q.2.2.1 q.2.2.2.1 q.2.2.2.2.1 q.2.2.2.2.2 ∈ lw_tbl := (List.forall_mem_cons.mpr ⟨(tb_1 _ (List.mem_of_getElem? (i := 189) rfl)), (List.forall_mem_cons.mpr ⟨(tb_1 _ (List.mem_of_getElem? (i := 198) rfl)), (List.forall_mem_cons.mpr ⟨(tb_1 _ (List.mem_of_getElem? (i := 204) rfl)), (List.forall_mem_cons.mpr ⟨(tb_1 _ (List.mem_of_getElem? (i := 206) rfl)), (List.forall_mem_cons.mpr ⟨(tb_1 _ (List.mem_of_getElem? (i := 89) rfl)), (List.forall_mem_cons.mpr ⟨(tb_1 _ (List.mem_of_getElem? (i := 194) rfl)), (List.forall_mem_cons.mpr ⟨(tb_1 _ (List.mem_of_getElem? (i := 144) rfl)), (List.forall_mem_cons.mpr ⟨(tb_1 _ (List.mem_of_getElem? (i := 196) rfl)), (List.forall_mem_cons.mpr ⟨(tb_1 _ (List.mem_of_getElem? (i := 68) rfl)), (List.forall_mem_cons.mpr ⟨(tb_1 _ (List.mem_of_getElem? (i := 184) rfl)), (List.forall_mem_cons.mpr ⟨(tb_1 _ (List.mem_of_getElem? (i := 202) rfl)), (List.forall_mem_cons.mpr ⟨(tb_1 _ (List.mem_of_getElem? (i := 200) rfl)), (List.forall_mem_cons.mpr ⟨(tb_1 _ (List.mem_of_getElem? (i := 187) rfl)), (List.forall_mem_cons.mpr ⟨(tb_1 _ (List.mem_of_getElem? (i := 191) rfl)), (List.forall_mem_cons.mpr ⟨(tb_1 _ (List.mem_of_getElem? (i := 143) rfl)), (List.forall_mem_cons.mpr ⟨(tb_1 _ (List.mem_of_getElem? (i := 158) rfl)), (List.forall_mem_cons.mpr ⟨(tb_1 _ (List.mem_of_getElem? (i := 154) rfl)), (List.forall_mem_cons.mpr ⟨(tb_1 _ (List.mem_of_getElem? (i := 150) rfl)), (List.forall_mem_cons.mpr ⟨(tb_1 _ (List.mem_of_getElem? (i := 156) rfl)), (List.forall_mem_cons.mpr ⟨(tb_1 _ (List.mem_of_getElem? (i := 152) rfl)), (List.forall_mem_cons.mpr ⟨(tb_1 _ (List.mem_of_getElem? (i := 148) rfl)), (List.forall_mem_cons.mpr ⟨(tb_1 _ (List.mem_of_getElem? (i := 146) rfl)), (List.forall_mem_cons.mpr ⟨(tb_1 _ (List.mem_of_getElem? (i := 160) rfl)), (List.forall_mem_cons.mpr ⟨(tb_1 _ (List.mem_of_getElem? (i := 71) rfl)), (List.forall_mem_cons.mpr ⟨(tb_1 _ (List.mem_of_getElem? (i := 90) rfl)), (fun _ h => absurd h List.not_mem_nil)⟩)⟩)⟩)⟩)⟩)⟩)⟩)⟩)⟩)⟩)⟩)⟩)⟩)⟩)⟩)⟩)⟩)⟩)⟩)⟩)⟩)⟩)⟩)⟩)⟩)
set_option maxRecDepth 20000 in
theorem nestM_in : ∀ q ∈ nestM, Cond.methodLinkNest q.1 q.2.1 q.2.2.1 q.2.2.2 ∈ lw_tbl := (List.forall_mem_cons.mpr ⟨(tb_1 _ (List.mem_of_getElem? (i := 46) rfl)), (List.forall_mem_cons.mpr ⟨(tb_1 _ (List.mem_of_getElem? (i := 29) rfl)), (List.forall_mem_cons.mpr ⟨(tb_2 _ (List.mem_of_getElem? (i := 54) rfl)), (List.forall_mem_cons.mpr ⟨(tb_1 _ (List.mem_of_getElem? (i := 52) rfl)), (List.forall_mem_cons.mpr ⟨(tb_2 _ (List.mem_of_getElem? (i := 147) rfl)), (List.forall_mem_cons.mpr ⟨(tb_3 _ (List.mem_of_getElem? (i := 171) rfl)), (List.forall_mem_cons.mpr ⟨(tb_1 _ (List.mem_of_getElem? (i := 62) rfl)), (List.forall_mem_cons.mpr ⟨(tb_3 _ (List.mem_of_getElem? (i := 207) rfl)), (List.forall_mem_cons.mpr ⟨(tb_2 _ (List.mem_of_getElem? (i := 146) rfl)), (List.forall_mem_cons.mpr ⟨(tb_1 _ (List.mem_of_getElem? (i := 84) rfl)), (List.forall_mem_cons.mpr ⟨(tb_1 _ (List.mem_of_getElem? (i := 105) rfl)), (List.forall_mem_cons.mpr ⟨(tb_1 _ (List.mem_of_getElem? (i := 119) rfl)), (List.forall_mem_cons.mpr ⟨(tb_1 _ (List.mem_of_getElem? (i := 138) rfl)), (List.forall_mem_cons.mpr ⟨(tb_2 _ (List.mem_of_getElem? (i := 43) rfl)), (List.forall_mem_cons.mpr ⟨(tb_2 _ (List.mem_of_getElem? (i := 70) rfl)), (List.forall_mem_cons.mpr ⟨(tb_2 _ (List.mem_of_getElem? (i := 178) rfl)), (List.forall_mem_cons.mpr ⟨(tb_2 _ (List.mem_of_getElem? (i := 91) rfl)), (List.forall_mem_cons.mpr ⟨(tb_4 _ (List.mem_of_getElem? (i := 36) rfl)), (List.forall_mem_cons.mpr ⟨(tb_4 _ (List.mem_of_getElem? (i := 45) rfl)), (List.forall_mem_cons.mpr ⟨(tb_4 _ (List.mem_of_getElem? (i := 52) rfl)), (List.forall_mem_cons.mpr ⟨(tb_4 _ (List.mem_of_getElem? (i := 53) rfl)), (List.forall_mem_cons.mpr ⟨(tb_3 _ (List.mem_of_getElem? (i := 161) rfl)), (List.forall_mem_cons.mpr ⟨(tb_3 _ (List.mem_of_getElem? (i := 44) rfl)), (fun _ h => absurd h List.not_mem_nil)⟩)⟩)⟩)⟩)⟩)⟩)⟩)⟩)⟩)⟩)⟩)⟩)⟩)⟩)⟩)⟩)⟩)⟩)⟩)⟩)⟩)⟩)⟩)
set_option maxRecDepth 20000 in
theorem FW_in : ∀ w ∈ FW, w ∈ lw_tbl := (mc (tb_2 _ (List.mem_of_getElem? (i := 200) rfl)) (mc (tb_2 _ (List.mem_of_getElem? (i := 202) rfl)) (mc (tb_2 _ (List.mem_of_getElem? (i := 204) rfl)) (mc (tb_2 _ (List.mem_of_getElem? (i := 198) rfl)) (mc (tb_3 _ (List.mem_of_getElem? (i := 56) rfl)) mn)))))
set_option maxRecDepth 20000 in
theorem tI_X0 : Cond.instantiable RX0 16 ∈ lw_tbl := (tb_1 _ (List.mem_of_getElem? (i := 45) rfl))
set_option maxRecDepth 20000 in
theorem tI_X1 : Cond.instantiable RX1 4 ∈ lw_tbl := (tb_1 _ (List.mem_of_getElem? (i := 61) rfl))
set_option maxRecDepth 20000 in
theorem tI_X2 : Cond.instantiable RX2 2 ∈ lw_tbl := (tb_1 _ (List.mem_of_getElem? (i := 104) rfl))
set_option maxRecDepth 20000 in
theorem tI_X3 : Cond.instantiable RX3 4 ∈ lw_tbl := (tb_1 _ (List.mem_of_getElem? (i := 83) rfl))
set_option maxRecDepth 20000 in
theorem tI_X4 : Cond.instantiable RX4 4 ∈ lw_tbl := (tb_1 _ (List.mem_of_getElem? (i := 118) rfl))
set_option maxRecDepth 20000 in
theorem tI_X5 : Cond.instantiable RX5 3 ∈ lw_tbl := (tb_1 _ (List.mem_of_getElem? (i := 28) rfl))
set_option maxRecDepth 20000 in
theorem tI_X6 : Cond.instantiable RX6 10 ∈ lw_tbl := (tb_1 _ (List.mem_of_getElem? (i := 137) rfl))
set_option maxRecDepth 20000 in
theorem tI_X7 : Cond.instantiable RX7 1 ∈ lw_tbl := (tb_1 _ (List.mem_of_getElem? (i := 51) rfl))
set_option maxRecDepth 20000 in
theorem tI_X8 : Cond.instantiable RX8 4 ∈ lw_tbl := (tb_1 _ (List.mem_of_getElem? (i := 20) rfl))
set_option maxRecDepth 20000 in
theorem tI_X9 : Cond.instantiable RX9 37 ∈ lw_tbl := (tb_4 _ (List.mem_of_getElem? (i := 67) rfl))
set_option maxRecDepth 20000 in
theorem tA_I : Cond.arrayClass .int ∈ lw_tbl := (tb_1 _ (List.mem_of_getElem? (i := 43) rfl))
set_option maxRecDepth 20000 in
theorem tA_Z : Cond.arrayClass .boolean ∈ lw_tbl := (tb_1 _ (List.mem_of_getElem? (i := 116) rfl))
set_option maxRecDepth 20000 in
theorem tA_F : Cond.arrayClass .float ∈ lw_tbl := (tb_1 _ (List.mem_of_getElem? (i := 81) rfl))
set_option maxRecDepth 20000 in
theorem tA_S : Cond.arrayClass .short ∈ lw_tbl := (tb_4 _ (List.mem_of_getElem? (i := 184) rfl))
set_option maxRecDepth 20000 in
theorem tA_L : Cond.arrayClass .long ∈ lw_tbl := (tb_5 _ (List.mem_of_getElem? (i := 179) rfl))
set_option maxRecDepth 20000 in
theorem tS_50 : Cond.stringRef RX8 50 "no such crossing" ∈ lw_tbl := (tb_2 _ (List.mem_of_getElem? (i := 236) rfl))
set_option maxRecDepth 20000 in
theorem tS_61 : Cond.stringRef RX8 61 "the table is wrong" ∈ lw_tbl := (tb_3 _ (List.mem_of_getElem? (i := 63) rfl))
set_option maxRecDepth 20000 in
theorem tS_138 : Cond.stringRef RX8 138 "n is not 0 .. 20" ∈ lw_tbl := (tb_3 _ (List.mem_of_getElem? (i := 83) rfl))
set_option maxRecDepth 20000 in
theorem tL_U : Cond.laysStatic Bundle.tN "UNASSIGNED_STACK" Bundle.steD ∈ lw_tbl := (tb_2 _ (List.mem_of_getElem? (i := 223) rfl))
set_option maxRecDepth 20000 in
theorem tL_N : Cond.laysStatic Bundle.tN "SUPPRESSED_SENTINEL" Bundle.listD ∈ lw_tbl := (tb_2 _ (List.mem_of_getElem? (i := 225) rfl))
set_option maxRecDepth 20000 in
theorem tI_T : Cond.initialized Bundle.tN ∈ lw_tbl := (tb_1 _ (List.mem_of_getElem? (i := 11) rfl))
theorem ar_of {args : Array Value} {s : State} {ty : FieldType} (h : (Cond.arrayClass ty).before args s = true) (hra : ∀ c, s.vm.findClass ("[" ++ ty.toString) = some c → va_RA s c ty) : ∃ c, ArrOfT s c ty ∧ va_RA s c ty := by
  obtain ⟨cB, kB, comp, h1, h2, h3⟩ := Cond.arrayClass_spec h
  exact ⟨cB, fun n z => ⟨fun k h => (by cases h), kB, h2, comp, h3⟩, hra cB h1⟩
theorem st_of {args : Array Value} {s : State} {own tx : String} {k : Nat} {cur : ClassId} (hcur : s.vm.findClass own = some cur) (h : (Cond.stringRef own k tx).before args s = true) : ∃ a, vk_R own k tx a s := by
  obtain ⟨k9, cf, i, a, -, -, -, -, -, hev⟩ := Cond.stringRef_spec hcur h
  exact ⟨a, vk_R.of (A := args) h hev⟩
section Ls
variable {l : Launch} {D : va_G} {A : Nat → Prop} {tys : List (ClassId × FieldType)} {G : jG} {ws : va_W} {cu su pc : Nat} {lv : List (Nat × Value)} {stk : List Value}
theorem k_perm (isP : List Nat) (ws2 : va_W) (h : isP.map (fun i => ws[i]?) = ws2.map some) (hnd : va_nd isP = true) (k : kW (l, D, A, tys) G ws2 cu su pc lv stk) : kW (l, D, A, tys) G ws cu su pc lv stk := by
  obtain ⟨p, e, R, s, m, args, below, meth, c, nL, Q⟩ := G
  exact fun H locs ls hP hD hS hl => k H locs ls (kw_sub isP h hP) (hD.sub isP hnd h) hS hl
end Ls
theorem wP_c {ad ad2 : Nat → Nat} {o : Nat} {aI aZ aF aS aL : ClassId} : ([79, 0, 1, 2, 3, 4, 5, 6, 7, 8, 9, 10, 11, 12, 13, 14, 15, 16, 17, 18, 19, 20, 21, 22, 23, 24, 25, 26, 27, 28, 29, 30, 31, 32, 33, 34, 35, 36, 37, 38, 39, 40, 41, 42, 43, 44, 45, 46, 47, 48, 49, 50, 51, 52, 53, 54, 55, 56, 57, 58, 59, 60, 61, 62, 63, 64, 65, 66, 67, 68, 69, 70, 71, 72, 73, 74, 75, 76, 77, 78] : List Nat).map (fun i => ((wC ad aI aZ aF K0 ++ wM ad2 aI aZ aS aF M0) ++ [(o, eL aL (fun _ => 0))] : va_W)[i]?) = (wW ad ad2 o aI aZ aF aS aL K0 M0 (fun _ => 0)).map some := rfl
theorem wN_c {ad : Nat → Nat} {aI aZ aF : ClassId} {q : Nat × va_E} : ([0, 1, 2, 3, 4, 5, 6, 7, 8, 9, 10, 11, 12, 13, 14, 15, 16, 17, 18, 19, 20, 21, 22, 23, 24, 25, 26, 27, 28, 29, 30, 31, 32, 33, 34, 35, 36, 37, 38, 39, 40, 41, 42] : List Nat).map (fun i => (wC ad aI aZ aF K0 ++ [q] : va_W)[i]?) = (wC ad aI aZ aF K0).map some := rfl
set_option maxRecDepth 100000 in
set_option maxHeartbeats 4000000 in
theorem law_start {l : Launch} {D : va_G} {A : Nat → Prop} {G : jG} {b L : Nat} {aI aZ aF aS aL : ClassId} {xs : Nat → Int32} (C : kC (l, D, A, TL aI aZ aF aS aL) G cL_law RL wsL_law room_1 9) (hlt : l.stackTraces = false) (hN : NWC (gS G)) (hT : xT (gS G)) (hZ : xZ A (gS G) (gS G).heap) (hNc : va_Nc ISE IAE (gS G)) (hX : va_X b L xs (gS G) (gS G).heap) (hbl : b < (gS G).heap.size) (hbA : ¬ A b) (hL : L ≤ 320) (fin : ∀ (ws : va_W) (lv : List (Nat × Value)), kW (l, D, A, TL aI aZ aF aS aL) G ws 211 2065 899 lv [.int 1]) : kW (l, D, A, TL aI aZ aF aS aL) G [] 0 0 0 [(0, .ref b)] [] := by
  refine k_new (ci := 8) (fs := [.null, .null, .null, .int 0]) C wsL_law_uwsX80 tyX8 tyX8_ok (by decide +kernel) (by decide +kernel) (by decide +kernel) rfl (fun j hj => by rcases (show j = 0 ∨ j = 1 ∨ j = 2 ∨ j = 3 by omega) with rfl | rfl | rfl | rfl <;> rfl) (by decide) (by decide) dL_law_0 (fun q0 => ?_)
  refine k_dup C dL_law_3 rfl ?_
  refine k_callP (iC := 0) C hN [0, 1, 2, 3] rfl [] [] (n_X8 l D aI aZ aF aS) gL_law_X8_init rfl (by decide +kernel) (by decide +kernel) (by decide +kernel) rfl (by decide +kernel) rfl rfl ⟨by decide, by decide⟩ (by decide) (by decide) rfl rfl rfl (by decide) (Nat.le_of_ble_eq_true rfl) dL_law_4 (fun w hw => ?_)
  obtain ⟨ad, rfl, rfl⟩ := hw
  show kW _ _ (wC ad aI aZ aF K0) 43 483 7 _ _
  refine k_astore_n C [(1, .ref (ad 0)), (0, .ref b)] dL_law_7 rfl (by decide) rfl ?_
  refine k_new (ci := 9) (fs := [.int 0, .int 0, .null, .null, .null, .null, .null, .null, .null, .null, .null, .null, .null, .null, .null, .null, .null, .null, .null, .null, .null, .null, .null, .null, .null, .null, .null, .null, .null, .null, .null, .null, .null, .null, .null, .null, .null]) C wsL_law_uwsX90 tyX9 tyX9_ok (by decide +kernel) (by decide +kernel) (by decide +kernel) rfl (fun j hj => by rcases (show j = 0 ∨ j = 1 ∨ j = 2 ∨ j = 3 ∨ j = 4 ∨ j = 5 ∨ j = 6 ∨ j = 7 ∨ j = 8 ∨ j = 9 ∨ j = 10 ∨ j = 11 ∨ j = 12 ∨ j = 13 ∨ j = 14 ∨ j = 15 ∨ j = 16 ∨ j = 17 ∨ j = 18 ∨ j = 19 ∨ j = 20 ∨ j = 21 ∨ j = 22 ∨ j = 23 ∨ j = 24 ∨ j = 25 ∨ j = 26 ∨ j = 27 ∨ j = 28 ∨ j = 29 ∨ j = 30 ∨ j = 31 ∨ j = 32 ∨ j = 33 ∨ j = 34 ∨ j = 35 ∨ j = 36 by omega) with rfl | rfl | rfl | rfl | rfl | rfl | rfl | rfl | rfl | rfl | rfl | rfl | rfl | rfl | rfl | rfl | rfl | rfl | rfl | rfl | rfl | rfl | rfl | rfl | rfl | rfl | rfl | rfl | rfl | rfl | rfl | rfl | rfl | rfl | rfl | rfl | rfl <;> rfl) (by decide) (by decide) dL_law_8 (fun q1 => ?_)
  refine k_dup C dL_law_11 rfl ?_
  refine k_callP (iC := 43) C hN [0, 1, 2, 3] rfl (wC ad aI aZ aF K0) [0, 1, 2, 3, 4, 5, 6, 7, 8, 9, 10, 11, 12, 13, 14, 15, 16, 17, 18, 19, 20, 21, 22, 23, 24, 25, 26, 27, 28, 29, 30, 31, 32, 33, 34, 35, 36, 37, 38, 39, 40, 41, 42] (n_X9 l D aI aZ aF aS) gL_law_X9_init rfl (by decide +kernel) (by decide +kernel) (by decide +kernel) rfl (by decide +kernel) rfl rfl ⟨by decide, by decide⟩ (by decide) (by decide) rfl wN_c rfl (by decide +kernel) (Nat.le_of_ble_eq_true rfl) dL_law_12 (fun w hw => ?_)
  obtain ⟨ad2, rfl, rfl⟩ := hw
  show kW _ _ (wC ad aI aZ aF K0 ++ wM ad2 aI aZ aS aF M0) 79 1022 15 _ _
  refine k_astore_n C [(2, .ref (ad2 0)), (1, .ref (ad 0)), (0, .ref b)] dL_law_15 rfl (by decide) rfl ?_
  refine k_iconst (v := 1) C dL_law_16 rfl ?_
  refine k_newa (ty := .long) (N' := 1) (a0 := (1, .inr (.inl fun _ => 0))) (cA := aL) C 4 (by decide +kernel) rfl rfl (fun _ _ h9 => h9) (fun _ => rfl) (by decide) rfl (by decide) (by decide) (by decide) dL_law_17 (fun o => ?_)
  refine k_astore_n C [(3, .ref o), (2, .ref (ad2 0)), (1, .ref (ad 0)), (0, .ref b)] dL_law_19 rfl (by decide) rfl ?_
  refine k_iconst (v := 0) C dL_law_20 rfl ?_
  refine k_istore C [(4, .int 0), (3, .ref o), (2, .ref (ad2 0)), (1, .ref (ad 0)), (0, .ref b)] dL_law_21 (by decide) rfl ?_
  refine k_sub [4, 3, 2, 1, 0] (lv2 := lvL b ad ad2 o 0) rfl ?_
  refine k_perm [79, 0, 1, 2, 3, 4, 5, 6, 7, 8, 9, 10, 11, 12, 13, 14, 15, 16, 17, 18, 19, 20, 21, 22, 23, 24, 25, 26, 27, 28, 29, 30, 31, 32, 33, 34, 35, 36, 37, 38, 39, 40, 41, 42, 43, 44, 45, 46, 47, 48, 49, 50, 51, 52, 53, 54, 55, 56, 57, 58, 59, 60, 61, 62, 63, 64, 65, 66, 67, 68, 69, 70, 71, 72, 73, 74, 75, 76, 77, 78] _ wP_c rfl ?_
  exact law_loop C hlt hN hT hZ hNc hX hbl hbA hL fin 65 0 80 1023 K0 M0 (fun _ => 0) rfl rfl rfl RR_0
