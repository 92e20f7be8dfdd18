/-! THE LAW'S CASES enact, tick, occupancy -/
theorem RR_le {T T' : Nat} {K M : Mem} (h : RR T K M) (hT : T ≤ T') : RR T' K M := by
  obtain ⟨⟨a, ⟨k, hk, e⟩, c⟩, d⟩ := h
  exact ⟨⟨a, ⟨k, by omega, e⟩, c⟩, d⟩
theorem z_enact {l : Launch} {D : va_G} {ad : Nat → Nat} {aI aZ aF : ClassId} (hl : l.stackTraces = false) {T : Nat} {K M : Mem} (h : RR T K M) (x : Int32) : ∃ ex k r K1 r2 M1, cX (EC l D ad aI aZ aF) yX8_enact wsX8_enact rmX8_enact [.ref (ad 0), .int x] K ex r K1 ∧ ((ex = none ∧ k = 0) ∨ (ex = some IAE ∧ k = 1) ∨ (ex = some ISE ∧ k = 2)) ∧ f_X9_enact x M = some (r2, M1) ∧ M1 0 0 = k ∧ (k = 0 → r2 = r) ∧ RR T K1 M1 := by
  rcases cr_cases x with ⟨b, c, hbc, rfl, hc, e⟩ | e
  · rcases s_enact hbc hc h with ⟨K', M', e1, e2, e3, e4⟩ | ⟨n, K', M', e1, e2, hn, e3, e5, e4⟩
    · exact ⟨some ISE, 2, 0, K', 0, M', k_enactW hl (e K) e1, Or.inr (Or.inr ⟨rfl, rfl⟩), e2, e3, fun h9 => absurd h9 (by decide), e4⟩
    · exact ⟨none, 0, nI n, K', nI n, M', k_enactT hl (e K) e1 (e5 K'), Or.inl ⟨rfl, rfl⟩, e2, e3, fun _ => rfl, e4⟩
  · have e2 : f_X9_enact x M = some (0, ks M 0 0 1) := by
      rw [f_X9_enact, (e K M).2, ob, if_pos rfl, ob]
      simp only [st, ks_s]
      rw [if_neg n10]
    exact ⟨some IAE, 1, 0, K, 0, ks M 0 0 1, k_enactN hl (e K M).1, Or.inr (Or.inl ⟨rfl, rfl⟩), e2, ks_s _ _ _ _, fun h9 => absurd h9 n10, RR_code 1 h⟩
theorem z_tick {l : Launch} {D : va_G} {ad : Nat → Nat} {aI aZ aF : ClassId} (hl : l.stackTraces = false) {T : Nat} {K M : Mem} (h : RR T K M) (hT : T + 20 < 1000000) (x : Int32) : ∃ ex k r K1 r2 M1, cX (EC l D ad aI aZ aF) yX8_tick wsX8_tick rmX8_tick [.ref (ad 0), .int x] K ex r K1 ∧ ((ex = none ∧ k = 0) ∨ (ex = some IAE ∧ k = 1)) ∧ f_X9_tick x M = some (r2, M1) ∧ M1 0 0 = k ∧ (k = 0 → r2 = r) ∧ RR (T + 20) K1 M1 := by
  rcases s_tick h hT x with ⟨e1, e2, e3⟩ | ⟨N, K', M', hN, rfl, e1, e2, e3, e4⟩
  · exact ⟨some IAE, 1, 0, K, 0, ks M 0 0 1, k_tickN hl e1, Or.inr ⟨rfl, rfl⟩, e2, ks_s _ _ _ _, fun h9 => absurd h9 n10, RR_le e3 (by omega)⟩
  · exact ⟨none, 0, K' 0 3, K', K' 0 3, M', k_tickT hl hN e1, Or.inl ⟨rfl, rfl⟩, e2, e3, fun _ => rfl, RR_le e4 (by omega)⟩
theorem hdL_enact : yL_enact.cls ≠ "java/lang/invoke/MethodHandle" ∧ yL_enact.cls ≠ "java/lang/invoke/VarHandle" ∧ (parseMethodDescriptor yL_enact.desc).map (fun d => d.parameters.length) = some 3 := by decide +kernel
theorem hdL_tick : yL_tick.cls ≠ "java/lang/invoke/MethodHandle" ∧ yL_tick.cls ≠ "java/lang/invoke/VarHandle" ∧ (parseMethodDescriptor yL_tick.desc).map (fun d => d.parameters.length) = some 3 := by decide +kernel
theorem lg_self (x : Int64) : lg_cmp x x = 0 := by
  unfold lg_cmp
  rw [if_neg (fun h => absurd h (by simp)), if_pos rfl]
section Ld
variable {l : Launch} {D : va_G} {A : Nat → Prop} {G : jG} {ad ad2 : Nat → Nat} {o b L j : Nat} {aI aZ aF aS aL : ClassId} {xs : Nat → Int32} {K M : Mem} {f : Nat → Int64} {cu su T : Nat}
set_option maxRecDepth 100000 in
set_option maxHeartbeats 4000000 in
theorem lc_enact (C : kC (l, D, A, TL aI aZ aF aS aL) G cL_law RL wsL_law room_1 9) (hlt : l.stackTraces = false) (hN : NWC (gS G)) (hT : xT (gS G)) (hZ : xZ A (gS G) (gS G).heap) (hNc : va_Nc ISE IAE (gS G)) (hX : va_X b L xs (gS G) (gS G).heap) (hbl : b < (gS G).heap.size) (hbA : ¬ A b) (hcu : cu + 1 ≤ room_1.cells) (hsu : su + 6 ≤ room_1.slots) (hi : 5 * j + 5 ≤ L) (hL : L ≤ 320) (h : RR T K M) (loop : ∀ K M f, RR T K M → kW (l, D, A, TL aI aZ aF aS aL) G (wW ad ad2 o aI aZ aF aS aL K M f) (cu + 1) (su + 6) 892 (lvL b ad ad2 o j) []) : kW (l, D, A, TL aI aZ aF aS aL) G (wW ad ad2 o aI aZ aF aS aL K M f) cu su 177 (lvL b ad ad2 o j) [] := by
  obtain ⟨ex, k, r, K1, r2, M1, hM, hk, e2, e3, e4, h'⟩ := z_enact (D := D) (ad := ad) (aI := aI) (aZ := aZ) (aF := aF) hlt h (xs (ix (nI (5 * j) + 1)))
  have jj : ∀ u, kW (l, D, A, TL aI aZ aF aS aL) G (wW ad ad2 o aI aZ aF aS aL K1 M1 u) (cu + 1) (su + 6) 230 [(0, .ref b), (1, .ref (ad 0)), (2, .ref (ad2 0)), (3, .ref o), (4, .int (nI (5 * j))), (5, .int k), (6, .int r2)] [] := fun u => by
    refine k_goto C 892 dL_law_230 (by decide) ?_
    refine k_sub [0, 1, 2, 3, 4] (lv2 := lvL b ad ad2 o j) rfl ?_
    exact loop K1 M1 u h'
  refine k_aload_n C 1 dL_law_177 rfl rfl ?_
  refine k_arg C hX hbl hbA (kv := 1) rfl rfl rfl (vin (k := 1) hi hL (by omega)) dL_law_178 dL_law_179 dL_law_181 dL_law_182 dL_law_183 ?_
  refine k_aload_n C 3 dL_law_184 rfl rfl ?_
  refine k_callL C hN hT hZ hNc [0, 1, 2, 4] rfl [.ref (ad 0), .int (xs (ix (nI (5 * j) + 1))), .ref o] (wM ad2 aI aZ aS aF M) a3C a3R (k_Lenact (o := o) (aL := aL) hM hk f) gL_law_L_enact rfl hdL_enact ⟨⟨rfl, rfl⟩, Nat.le_of_ble_eq_true rfl, Nat.le_of_ble_eq_true rfl⟩ rfl w3c w3r rfl rfl a3D hcu hsu dL_law_185 rfl (Nat.le_of_ble_eq_true rfl) (fun u hu => ?_)
  refine k_istore C ((5, .int k) :: lvL b ad ad2 o j) dL_law_188 (by decide) rfl ?_
  refine k_sub [1, 2, 3, 4, 5, 0] (lv2 := [(0, .ref b), (1, .ref (ad 0)), (2, .ref (ad2 0)), (3, .ref o), (4, .int (nI (5 * j))), (5, .int k)]) rfl ?_
  refine k_aload_n C 2 dL_law_190 rfl rfl ?_
  refine k_arg C hX hbl hbA (kv := 1) rfl rfl rfl (vin (k := 1) hi hL (by omega)) dL_law_191 dL_law_192 dL_law_194 dL_law_195 dL_law_196 ?_
  refine k_cI C (EM_ok l D ad2 aI aZ aS aF) (fun M => aa_A (wM_ad ad2 aI aZ aS aF M)) [0, 1, 3, 2] rfl trivial [.int (xs (ix (nI (5 * j) + 1)))] (wL ad o aI aZ aF aL K1 u) a4C a4R gL_law_X9_enact rfl hlX9_enact ⟨⟨rfl, rfl⟩, Nat.le_of_ble_eq_true rfl, Nat.le_of_ble_eq_true rfl⟩ rfl h_0 rfl (k_X9_enact e2) w4c w4r rfl rfl a4D hcu hsu dL_law_197 rfl (Nat.le_of_ble_eq_true rfl) ?_
  refine k_istore C ((6, .int r2) :: [(0, .ref b), (1, .ref (ad 0)), (2, .ref (ad2 0)), (3, .ref o), (4, .int (nI (5 * j))), (5, .int k)]) dL_law_200 (by decide) rfl ?_
  refine k_sub [1, 2, 3, 4, 5, 6, 0] (lv2 := [(0, .ref b), (1, .ref (ad 0)), (2, .ref (ad2 0)), (3, .ref o), (4, .int (nI (5 * j))), (5, .int k), (6, .int r2)]) rfl ?_
  refine k_aload_n C 2 dL_law_202 rfl rfl ?_
  refine k_cI C (EM_ok l D ad2 aI aZ aS aF) (fun M => aa_A (wM_ad ad2 aI aZ aS aF M)) [0, 1, 3, 2] rfl trivial [] (wL ad o aI aZ aF aL K1 u) a5C a5R gL_law_X9_thrown rfl hlX9_thrown ⟨⟨rfl, rfl⟩, Nat.le_of_ble_eq_true rfl, Nat.le_of_ble_eq_true rfl⟩ rfl h_0 rfl (k_X9_thrown (u := k) (show f_X9_thrown M1 = some k by rw [f_X9_thrown, e3])) w5c w5r rfl rfl a5D hcu hsu dL_law_203 rfl (Nat.le_of_ble_eq_true rfl) ?_
  refine k_iload C 5 dL_law_206 rfl ?_
  refine k_icmp_eq C 213 dL_law_208 (by decide) (fun _ => ?_) (fun h9 => absurd rfl h9)
  refine k_iload C 5 dL_law_213 rfl ?_
  refine k_if_ne C 230 dL_law_215 (by decide) (fun _ => jj u) (fun hk0 => ?_)
  refine k_aload_n C 3 dL_law_218 rfl rfl ?_
  refine k_iconst (v := 0) C dL_law_219 rfl ?_
  refine k_lald (q0 := 0) (a := o) (n := 1) (cA := aL) (f := u) C 4 rfl rfl (inb_in rfl) dL_law_220 ?_
  refine k_iload C 6 dL_law_221 rfl ?_
  refine k_i2l C dL_law_223 ?_
  refine k_lcmp C dL_law_224 ?_
  refine k_if_eq C 230 dL_law_225 (by decide) (fun _ => jj u) (fun h9 => absurd ?_ h9)
  have e5 : u (ix 0) = r2.toInt64 := by
    rw [e4 hk0]
    exact hu hk0
  rw [e5]
  exact lg_self _
set_option maxRecDepth 100000 in
set_option maxHeartbeats 4000000 in
theorem lc_tick (C : kC (l, D, A, TL aI aZ aF aS aL) G cL_law RL wsL_law room_1 9) (hlt : l.stackTraces = false) (hN : NWC (gS G)) (hT : xT (gS G)) (hZ : xZ A (gS G) (gS G).heap) (hNc : va_Nc ISE IAE (gS G)) (hX : va_X b L xs (gS G) (gS G).heap) (hbl : b < (gS G).heap.size) (hbA : ¬ A b) (hcu : cu + 1 ≤ room_1.cells) (hsu : su + 6 ≤ room_1.slots) (hi : 5 * j + 5 ≤ L) (hL : L ≤ 320) (h : RR T K M) (hT20 : T + 20 < 1000000) (loop : ∀ K M f, RR (T + 20) K M → kW (l, D, A, TL aI aZ aF aS aL) G (wW ad ad2 o aI aZ aF aS aL K M f) (cu + 1) (su + 6) 892 (lvL b ad ad2 o j) []) : kW (l, D, A, TL aI aZ aF aS aL) G (wW ad ad2 o aI aZ aF aS aL K M f) cu su 658 (lvL b ad ad2 o j) [] := by
  obtain ⟨ex, k, r, K1, r2, M1, hM, hk, e2, e3, e4, h'⟩ := z_tick (D := D) (ad := ad) (aI := aI) (aZ := aZ) (aF := aF) hlt h hT20 (xs (ix (nI (5 * j) + 1)))
  have jj : ∀ u, kW (l, D, A, TL aI aZ aF aS aL) G (wW ad ad2 o aI aZ aF aS aL K1 M1 u) (cu + 1) (su + 6) 711 [(0, .ref b), (1, .ref (ad 0)), (2, .ref (ad2 0)), (3, .ref o), (4, .int (nI (5 * j))), (5, .int k), (6, .int r2)] [] := fun u => by
    refine k_goto C 892 dL_law_711 (by decide) ?_
    refine k_sub [0, 1, 2, 3, 4] (lv2 := lvL b ad ad2 o j) rfl ?_
    exact loop K1 M1 u h'
  refine k_aload_n C 1 dL_law_658 rfl rfl ?_
  refine k_arg C hX hbl hbA (kv := 1) rfl rfl rfl (vin (k := 1) hi hL (by omega)) dL_law_659 dL_law_660 dL_law_662 dL_law_663 dL_law_664 ?_
  refine k_aload_n C 3 dL_law_665 rfl rfl ?_
  refine k_callL C hN hT hZ hNc [0, 1, 2, 4] rfl [.ref (ad 0), .int (xs (ix (nI (5 * j) + 1))), .ref o] (wM ad2 aI aZ aS aF M) a3C a3R (k_Ltick (o := o) (aL := aL) hM hk f) gL_law_L_tick rfl hdL_tick ⟨⟨rfl, rfl⟩, Nat.le_of_ble_eq_true rfl, Nat.le_of_ble_eq_true rfl⟩ rfl w3c w3r rfl rfl a3D hcu hsu dL_law_666 rfl (Nat.le_of_ble_eq_true rfl) (fun u hu => ?_)
  refine k_istore C ((5, .int k) :: lvL b ad ad2 o j) dL_law_669 (by decide) rfl ?_
  refine k_sub [1, 2, 3, 4, 5, 0] (lv2 := [(0, .ref b), (1, .ref (ad 0)), (2, .ref (ad2 0)), (3, .ref o), (4, .int (nI (5 * j))), (5, .int k)]) rfl ?_
  refine k_aload_n C 2 dL_law_671 rfl rfl ?_
  refine k_arg C hX hbl hbA (kv := 1) rfl rfl rfl (vin (k := 1) hi hL (by omega)) dL_law_672 dL_law_673 dL_law_675 dL_law_676 dL_law_677 ?_
  refine k_cI C (EM_ok l D ad2 aI aZ aS aF) (fun M => aa_A (wM_ad ad2 aI aZ aS aF M)) [0, 1, 3, 2] rfl trivial [.int (xs (ix (nI (5 * j) + 1)))] (wL ad o aI aZ aF aL K1 u) a4C a4R gL_law_X9_tick rfl hlX9_tick ⟨⟨rfl, rfl⟩, Nat.le_of_ble_eq_true rfl, Nat.le_of_ble_eq_true rfl⟩ rfl h_0 rfl (k_X9_tick e2) w4c w4r rfl rfl a4D hcu hsu dL_law_678 rfl (Nat.le_of_ble_eq_true rfl) ?_
  refine k_istore C ((6, .int r2) :: [(0, .ref b), (1, .ref (ad 0)), (2, .ref (ad2 0)), (3, .ref o), (4, .int (nI (5 * j))), (5, .int k)]) dL_law_681 (by decide) rfl ?_
  refine k_sub [1, 2, 3, 4, 5, 6, 0] (lv2 := [(0, .ref b), (1, .ref (ad 0)), (2, .ref (ad2 0)), (3, .ref o), (4, .int (nI (5 * j))), (5, .int k), (6, .int r2)]) rfl ?_
  refine k_aload_n C 2 dL_law_683 rfl rfl ?_
  refine k_cI C (EM_ok l D ad2 aI aZ aS aF) (fun M => aa_A (wM_ad ad2 aI aZ aS aF M)) [0, 1, 3, 2] rfl trivial [] (wL ad o aI aZ aF aL K1 u) a5C a5R gL_law_X9_thrown rfl hlX9_thrown ⟨⟨rfl, rfl⟩, Nat.le_of_ble_eq_true rfl, Nat.le_of_ble_eq_true rfl⟩ rfl h_0 rfl (k_X9_thrown (u := k) (show f_X9_thrown M1 = some k by rw [f_X9_thrown, e3])) w5c w5r rfl rfl a5D hcu hsu dL_law_684 rfl (Nat.le_of_ble_eq_true rfl) ?_
  refine k_iload C 5 dL_law_687 rfl ?_
  refine k_icmp_eq C 694 dL_law_689 (by decide) (fun _ => ?_) (fun h9 => absurd rfl h9)
  refine k_iload C 5 dL_law_694 rfl ?_
  refine k_if_ne C 711 dL_law_696 (by decide) (fun _ => jj u) (fun hk0 => ?_)
  refine k_aload_n C 3 dL_law_699 rfl rfl ?_
  refine k_iconst (v := 0) C dL_law_700 rfl ?_
  refine k_lald (q0 := 0) (a := o) (n := 1) (cA := aL) (f := u) C 4 rfl rfl (inb_in rfl) dL_law_701 ?_
  refine k_iload C 6 dL_law_702 rfl ?_
  refine k_i2l C dL_law_704 ?_
  refine k_lcmp C dL_law_705 ?_
  refine k_if_eq C 711 dL_law_706 (by decide) (fun _ => jj u) (fun h9 => absurd ?_ h9)
  have e5 : u (ix 0) = r2.toInt64 := by
    rw [e4 hk0]
    exact hu hk0
  rw [e5]
  exact lg_self _
set_option maxRecDepth 100000 in
set_option maxHeartbeats 4000000 in
theorem lc_occ (C : kC (l, D, A, TL aI aZ aF aS aL) G cL_law RL wsL_law room_1 9) (hN : NWC (gS G)) (hX : va_X b L xs (gS G) (gS G).heap) (hbl : b < (gS G).heap.size) (hbA : ¬ A b) (hcu : cu ≤ room_1.cells) (hsu : su ≤ room_1.slots) (hi : 5 * j + 5 ≤ L) (hL : L ≤ 320) (h : RR T K M) (loop : ∀ K M, RR T K M → kW (l, D, A, TL aI aZ aF aS aL) G (wW ad ad2 o aI aZ aF aS aL K M f) cu su 892 (lvL b ad ad2 o j) []) : kW (l, D, A, TL aI aZ aF aS aL) G (wW ad ad2 o aI aZ aF aS aL K M f) cu su 825 (lvL b ad ad2 o j) [] := by
  obtain ⟨r, M', e1, e2, h', hp⟩ := s_occ h (xs (ix (nI (5 * j) + 1))) (xs (ix (nI (5 * j) + 2)))
  obtain ⟨hd1, hd2⟩ := fp_f2d hp
  refine k_aload_n C 1 dL_law_825 rfl rfl ?_
  refine k_arg C hX hbl hbA (kv := 1) rfl rfl rfl (vin (k := 1) hi hL (by omega)) dL_law_826 dL_law_827 dL_law_829 dL_law_830 dL_law_831 ?_
  refine k_arg C hX hbl hbA (kv := 2) rfl rfl rfl (vin (k := 2) hi hL (by omega)) dL_law_832 dL_law_833 dL_law_835 dL_law_836 dL_law_837 ?_
  refine k_cF C (EC_ok l D ad aI aZ aF) (fun K => aa_A (wC_ad ad aI aZ aF K)) [0, 1, 2] rfl hN [.int (xs (ix (nI (5 * j) + 1))), .int (xs (ix (nI (5 * j) + 2)))] ([(o, eL aL f)] ++ wM ad2 aI aZ aS aF M) a1C a1R gL_law_X8_occupancy rfl hlX8_occupancy ⟨⟨rfl, rfl⟩, Nat.le_of_ble_eq_true rfl, Nat.le_of_ble_eq_true rfl⟩ rfl g_0 rfl (k_X8_occupancy e1) w1c w1r rfl rfl a1D hcu hsu dL_law_838 rfl (Nat.le_of_ble_eq_true rfl) ?_
  refine k_f2d C dL_law_841 hd1 ?_
  refine k_dstore C ((5, .double (FP.f2d r)) :: lvL b ad ad2 o j) dL_law_842 (by decide) rfl ?_
  refine k_sub [1, 2, 3, 4, 5, 0] (lv2 := [(0, .ref b), (1, .ref (ad 0)), (2, .ref (ad2 0)), (3, .ref o), (4, .int (nI (5 * j))), (5, .double (FP.f2d r))]) rfl ?_
  refine k_aload_n C 2 dL_law_844 rfl rfl ?_
  refine k_arg C hX hbl hbA (kv := 1) rfl rfl rfl (vin (k := 1) hi hL (by omega)) dL_law_845 dL_law_846 dL_law_848 dL_law_849 dL_law_850 ?_
  refine k_arg C hX hbl hbA (kv := 2) rfl rfl rfl (vin (k := 2) hi hL (by omega)) dL_law_851 dL_law_852 dL_law_854 dL_law_855 dL_law_856 ?_
  refine k_cF C (EM_ok l D ad2 aI aZ aS aF) (fun M => aa_A (wM_ad ad2 aI aZ aS aF M)) [0, 1, 3, 2] rfl trivial [.int (xs (ix (nI (5 * j) + 1))), .int (xs (ix (nI (5 * j) + 2)))] (wL ad o aI aZ aF aL K f) a2C a2R gL_law_X9_occupancy rfl hlX9_occupancy ⟨⟨rfl, rfl⟩, Nat.le_of_ble_eq_true rfl, Nat.le_of_ble_eq_true rfl⟩ rfl h_0 rfl (k_X9_occupancy e2) w2c w2r rfl rfl a2D hcu hsu dL_law_857 rfl (Nat.le_of_ble_eq_true rfl) ?_
  refine k_f2d C dL_law_860 hd1 ?_
  refine k_dstore C ((7, .double (FP.f2d r)) :: [(0, .ref b), (1, .ref (ad 0)), (2, .ref (ad2 0)), (3, .ref o), (4, .int (nI (5 * j))), (5, .double (FP.f2d r))]) dL_law_861 (by decide) rfl ?_
  refine k_dload C 6 dL_law_863 rfl ?_
  refine k_dload C 0 dL_law_865 rfl ?_
  refine k_dcmp C dL_law_867 ?_
  rw [hd2]
  refine k_if_eq C 889 dL_law_868 (by decide) (fun _ => ?_) (fun h9 => absurd rfl h9)
  refine k_goto C 892 dL_law_889 (by decide) ?_
  refine k_sub [1, 2, 3, 4, 5] (lv2 := lvL b ad ad2 o j) rfl ?_
  exact loop K M' h'
end Ld
