/-! A TICK, (f): the act by an input -/
section In
variable {b c r s t : Nat} {K M M' : Mem}
theorem C_L24 (hr : r < 2) (ht : t < 8) (hs : s < 2) {hr' : Bool} (h : RQ b c K M) (hS : M 6 c = nI s) (hu : M 8 (8 * c + t) = 1) (hh : hr' = decide (t % 4 / 2 = s)) : ∃ K', (∀ n, f_X0_goByInput_L24 b (nI t) (bi hr') (n + 1) (nI r) K = f_X0_goByInput_L24 b (nI t) (bi hr') n (nI (r + 1)) K') ∧ RQ b c K' (Gf c t hr' r (Cl c r M)) ∧ uK b r K K' := by
  obtain ⟨K', a1, a2, a3⟩ := C_give hr ht hs h hS hh
  refine ⟨K', fun n => ?_, a2, a3⟩
  rw [f_X0_goByInput_L24, if_neg (c2_no hr), C_ring hr, ob, C_goal hr ht h.1.2.1 hu, ob, a1, ob]
  simp only [lt, n_a1]
theorem GCr (row k : Nat) (h : row = 6 ∨ row = 8 ∨ row = 2) {hr' : Bool} : Gf c t hr' r (Cl c r M) row k = M row k := by
  rw [Gf_ok.1 row k (by omega) (by omega) (by omega), Cl_ok.1 row k (by omega) (by omega)]
theorem s_greater (hc : c < 2) (ht : t < 8) (h : RC b c K M) (hu : M 8 (8 * c + t) = 1) : ∃ K' M', f_X0_goByInput b (nI t) K = some K' ∧ f_X9_actGreater (nI c) (nI t) (ks M 7 c 1) = some M' ∧ RQ b c K' M' ∧ oK b K K' ∧ oY c M M' := by
  obtain ⟨s, hs, hS⟩ := sd_of h
  have i2 : inb (nI c) 2 = true := inb_t hc (by omega)
  have x2 : ix (nI c) = c := ix_nI (by omega)
  have h12 : (ks K b 15 1) b 12 = nI s := by rw [ks_k (by omega), h.2.2.2.2.2.2.1.2.2.1]; exact hS
  have Q0 := q_had1 h
  have o0 : oK b K (ks K b 15 1) := oK_ks (i := 0) (by omega)
  have p0 : oY c M (ks M 7 c 1) := oY_ks (by unfold slc; omega) (by omega)
  have hS0 : (ks M 7 c 1) 6 c = nI s := by rw [ks_i (by omega)]; exact hS
  have hu0 : (ks M 7 c 1) 8 (8 * c + t) = 1 := by rw [ks_i (by omega)]; exact hu
  have es : nI (t % 4 / 2) = nI s ↔ t % 4 / 2 = s := eq_nI (by omega) (by omega)
  have v4 : (if nI (t % 4 / 2) = nI s then some 1 else some 0 : Option Int32) = some (bi (decide (t % 4 / 2 = s))) := by
    by_cases e : t % 4 / 2 = s
    · rw [if_pos (es.mpr e), decide_eq_true e, bi_t]
    · rw [if_neg (fun e2 => e (es.mp e2)), decide_eq_false e, bi_f]
  obtain ⟨here, hh⟩ : ∃ x : Bool, x = decide (t % 4 / 2 = s) := ⟨_, rfl⟩
  rw [← hh] at v4
  generalize hK0 : ks K b 15 1 = K0 at *
  -- the two rings give way
  obtain ⟨K1, a1, Q1, u1⟩ := C_L24 (r := 0) (by omega) ht hs Q0 hS0 hu0 hh
  have hS1 : Gf c t here 0 (Cl c 0 (ks M 7 c 1)) 6 c = nI s := by rw [GCr 6 c (by omega)]; exact hS0
  have hu1 : Gf c t here 0 (Cl c 0 (ks M 7 c 1)) 8 (8 * c + t) = 1 := by rw [GCr 8 _ (by omega)]; exact hu0
  obtain ⟨K2, a2, Q2, u2⟩ := C_L24 (r := 1) (by omega) ht hs Q1 hS1 hu1 hh
  have hS2 : Gf c t here 1 (Cl c 1 (Gf c t here 0 (Cl c 0 (ks M 7 c 1)))) 6 c = nI s := by rw [GCr 6 c (by omega)]; exact hS1
  have hu2 : Gf c t here 1 (Cl c 1 (Gf c t here 0 (Cl c 0 (ks M 7 c 1)))) 8 (8 * c + t) = 1 := by rw [GCr 8 _ (by omega)]; exact hu1
  have l24 : f_X0_goByInput_L24 b (nI t) (bi here) 70 0 K0 = some (nI 2, K2) := by
    show f_X0_goByInput_L24 b (nI t) (bi here) (69 + 1) (nI 0) K0 = _
    rw [a1]
    show f_X0_goByInput_L24 b (nI t) (bi here) (68 + 1) (nI 1) K1 = _
    rw [a2]
    show f_X0_goByInput_L24 b (nI t) (bi here) (67 + 1) (nI 2) K2 = _
    rw [f_X0_goByInput_L24, if_pos (by decide)]
  obtain ⟨hg0, hg1⟩ := RQ_gs Q0
  have r1 : f_X9_actGreater_L4 (nI c) (nI t) 70 (nI (2 * c)) (ks M 7 c 1) = some (nI (2 * c + 2), Cl c 1 (Cl c 0 (ks M 7 c 1))) := by
    show f_X9_actGreater_L4 (nI c) (nI t) (69 + 1) (nI (2 * c + 0)) _ = _
    rw [M_gL4 hc (by omega)]
    show f_X9_actGreater_L4 (nI c) (nI t) (68 + 1) (nI (2 * c + 1)) _ = _
    rw [M_gL4 hc (by omega)]
    show f_X9_actGreater_L4 (nI c) (nI t) (67 + 1) (nI (2 * c + 2)) _ = _
    rw [f_X9_actGreater_L4, n_2, n_a2, if_pos ((le_nI (by omega) (by omega)).mpr (by omega))]
  have hSc : Cl c 1 (Cl c 0 (ks M 7 c 1)) 6 c = nI s := by rw [Cl_ok.1 6 c (by omega) (by omega), Cl_ok.1 6 c (by omega) (by omega)]; exact hS0
  have hgc0 : rgM c 0 (Cl c 1 (Cl c 0 (ks M 7 c 1))) := Cl_rg (by omega) (Cl_rg (by omega) hg0)
  have hgc1 : rgM c 1 (Cl c 1 (Cl c 0 (ks M 7 c 1))) := Cl_rg (by omega) (Cl_rg (by omega) hg1)
  have r2 : f_X9_actGreater_L70 (nI c) (nI t) (bi here) 70 (nI (2 * c)) (Cl c 1 (Cl c 0 (ks M 7 c 1))) = some (nI (2 * c + 2), Gf c t here 1 (Cl c 1 (Gf c t here 0 (Cl c 0 (ks M 7 c 1))))) := by
    show f_X9_actGreater_L70 (nI c) (nI t) (bi here) (69 + 1) (nI (2 * c + 0)) _ = _
    rw [M_gL70 hc (by omega) ht hgc0]
    show f_X9_actGreater_L70 (nI c) (nI t) (bi here) (68 + 1) (nI (2 * c + 1)) _ = _
    rw [M_gL70 hc (by omega) ht (Gf_rg (by omega) (by omega) hgc1), GC_comm]
    show f_X9_actGreater_L70 (nI c) (nI t) (bi here) (67 + 1) (nI (2 * c + 2)) _ = _
    rw [f_X9_actGreater_L70, n_2, n_a2, if_pos ((le_nI (by omega) (by omega)).mpr (by omega))]
  have oK2 : oK b K K2 := oK_tr o0 (oK_tr (uK_o (by omega) u1) (uK_o (by omega) u2))
  have oM2 : oY c M (Gf c t here 1 (Cl c 1 (Gf c t here 0 (Cl c 0 (ks M 7 c 1))))) := by
    refine oY_tr p0 (oY_tr (oY_tr (uM_y (r := 0) (by omega) Cl_ok.2) (uM_y (r := 0) (by omega) Gf_ok.2.1)) (oY_tr (uM_y (r := 1) (by omega) Cl_ok.2) (uM_y (r := 1) (by omega) Gf_ok.2.1)))
  generalize Gf c t here 1 (Cl c 1 (Gf c t here 0 (Cl c 0 (ks M 7 c 1)))) = M2 at *
  obtain ⟨hg20, hg21⟩ := RQ_gs Q2
  -- leaving
  obtain ⟨K3, M3, f1, f2, Q3, oK3, oM3, hu3⟩ : ∃ K3 M3, (if bi here = 0 then ((f_X0_mayLeaveByInput b (b + 16) K2).bind fun u22 => if u22 = 0 then (some K2) else ((f_X0_mayLeaveByInput b (b + 17) K2).bind fun u24 => if u24 = 0 then (some K2) else f_X0_leaveSide b K2)) else (some K2) : Option (Mem)) = some K3 ∧ (if bi here = 0 then f_X9_empty (nI c) (nI t) M2 else some M2 : Option Mem) = some M3 ∧ RQ b c K3 M3 ∧ oK b K K3 ∧ oY c M M3 ∧ M3 8 (8 * c + t) = 1 := by
    cases here
    · rw [bi_f, if_pos rfl, if_pos rfl]
      have hn : ¬ t % 4 / 2 = s := of_decide_eq_false hh.symm
      have g0 := RQ_rg (r := 0) (by omega) Q2
      have g1 := RQ_rg (r := 1) (by omega) Q2
      have ml0 : f_X0_mayLeaveByInput b (b + 16) K2 = _ := C_mayLI (r := 0) (by omega) Q2.1.1 g0
      have ml1 : f_X0_mayLeaveByInput b (b + 17) K2 = _ := C_mayLI (r := 1) (by omega) Q2.1.1 g1
      have em := M_empty (M := M2) (x := nI t) (d0 := gdn M2 c 0 t) (d1 := gdn M2 c 1 t) hc
        (fun _ => by
          rw [if_pos (nI_0le (by omega))]
          exact M_gdone (r := 0) hc (by omega) ht hg20)
        (fun _ => by
          rw [if_pos (nI_0le (by omega))]
          exact M_gdone (r := 1) hc (by omega) ht hg21)
      rw [← gdn_away (r := 0) (by omega) hs ht hg20 hS2 hn] at ml0
      rw [← gdn_away (r := 1) (by omega) hs ht hg21 hS2 hn] at ml1
      rw [ml0, ob, ml1, ob, em]
      by_cases hall : ((decide (M2 19 (2 * c) = 0) || gdn M2 c 0 t) && (decide (M2 19 (2 * c + 1) = 0) || gdn M2 c 1 t)) = true
      · have hal := hall
        rw [Bool.and_eq_true] at hal
        have q0 : (decide (M2 19 (2 * c + 0) = 0) || gdn M2 c 0 t) = true := hal.1
        rw [if_pos hall, q0, hal.2, bi_t, if_neg n10, if_neg n10]
        have hw : ∀ r, r < 2 → M2 19 (2 * c + r) = 1 → M2 25 (2 * c + r) = 0 := by
          intro r hr e
          have key : (decide (M2 19 (2 * c + r) = 0) || gdn M2 c r t) = true → M2 25 (2 * c + r) = 0 := by
            intro hx
            rw [e, Bool.or_eq_true] at hx
            rcases hx with hx | hx
            · exact absurd (of_decide_eq_true hx) (by decide)
            · unfold gdn at hx
              simp only [Bool.and_eq_true, decide_eq_true_eq] at hx
              exact hx.2.2.2
          rcases (show r = 0 ∨ r = 1 by omega) with rfl | rfl
          · exact key q0
          · exact key hal.2
        obtain ⟨K5, l1, l2, l3⟩ := C_leave Q2 hw
        obtain ⟨t1, t2⟩ := Lf_ok (r := 0) (by omega) hg20
        obtain ⟨t3, t4⟩ := Lf_ok (r := 1) (by omega) (sim_rg (r := 1) (by omega) t1 hg21)
        exact ⟨K5, _, l1, rfl, l2, oK_tr oK2 l3, oY_tr oM2 (oY_tr (uM_y (by omega) t2) (uM_y (by omega) t4)), by rw [(sim_tr t1 t3).2.2 8 _ (by omega)]; exact hu2⟩
      · rw [if_neg hall]
        refine ⟨K2, M2, ?_, rfl, Q2, oK2, oM2, hu2⟩
        cases q0 : (decide (M2 19 (2 * c + 0) = 0) || gdn M2 c 0 t)
        · rfl
        · rw [bi_t, if_neg n10]
          have q0' : (decide (M2 19 (2 * c) = 0) || gdn M2 c 0 t) = true := q0
          rw [q0', Bool.true_and] at hall
          have : (decide (M2 19 (2 * c + 1) = 0) || gdn M2 c 1 t) = false := by simpa using hall
          rw [this]
          rfl
    · exact ⟨K2, M2, rfl, rfl, Q2, oK2, oM2, hu2⟩
  -- the side
  have g0 := RQ_rg (r := 0) (by omega) Q3
  have g1 := RQ_rg (r := 1) (by omega) Q3
  have wt0 : f_X6_waits (b + 16) K3 = some (bi (decide (M3 19 (2 * c) = 0))) := by
    have : f_X6_waits (b + 16 + 0) K3 = some (bi (decide (M3 19 (2 * c + 0) = 0))) := by
      rw [C_waits]
      congr 2
      exact decide_eq_decide.mpr (rg_waits (by omega) g0)
    exact this
  have wt1 : f_X6_waits (b + 17) K3 = some (bi (decide (M3 19 (2 * c + 1) = 0))) := by
    have : f_X6_waits (b + 16 + 1) K3 = some (bi (decide (M3 19 (2 * c + 1) = 0))) := by
      rw [C_waits]
      congr 2
      exact decide_eq_decide.mpr (rg_waits (by omega) g1)
    exact this
  obtain ⟨K4, M4, f3, f4, Q4, oK4, oM4, hu4⟩ : ∃ K4 M4, (if bi (decide (M3 19 (2 * c) = 0)) = 0 then (some K3) else (if bi (decide (M3 19 (2 * c + 1) = 0)) = 0 then (some K3) else some (ks K3 b 12 (nI (t % 4 / 2)))) : Option (Mem)) = some K4 ∧ (if bi (decide (M3 19 (2 * c) = 0) && decide (M3 19 (2 * c + 1) = 0)) = 0 then some M3 else some (ks M3 6 c (nI (t % 4 / 2))) : Option Mem) = some M4 ∧ RQ b c K4 M4 ∧ oK b K K4 ∧ oY c M M4 ∧ M4 8 (8 * c + t) = 1 := by
    by_cases z0 : M3 19 (2 * c) = 0
    · by_cases z1 : M3 19 (2 * c + 1) = 0
      · rw [decide_eq_true z0, decide_eq_true z1]
        exact ⟨_, _, rfl, rfl, q_side (by omega) z0 z1 Q3, oK_tr oK3 (oK_ks (i := 0) (by omega)), oY_tr oM3 (oY_ks (by unfold slc; omega) (by omega)), by rw [ks_i (by omega)]; exact hu3⟩
      · rw [decide_eq_true z0, decide_eq_false z1]
        exact ⟨_, _, rfl, rfl, Q3, oK3, oM3, hu3⟩
    · rw [decide_eq_false z0]
      exact ⟨_, _, rfl, rfl, Q3, oK3, oM3, hu3⟩
  -- beginning
  obtain ⟨K5, M5, x1, x2', Q5, u5, v5⟩ := gr_step (r := 0) (x := bi here) (y := bi here) hc (by omega) ht Q4 hu4
  obtain ⟨K6, M6, y1, y2, Q6, u6, v6⟩ := gr_step (r := 1) (x := bi here) (y := bi here) hc (by omega) ht Q5 (by rw [v5 8 _ (by omega) (by omega)]; exact hu4)
  refine ⟨K6, M6, ?_, ?_, Q6, oK_tr oK4 (oK_tr (uK_o (by omega) u5) (uK_o (by omega) u6)), oY_tr oM4 (oY_tr (uM_y (by omega) v5) (uM_y (by omega) v6))⟩
  · have l111 : f_X0_goByInput_L111 b (nI t) (bi here) 70 0 K4 = some (nI 2, K6) := by
      show f_X0_goByInput_L111 b (nI t) (bi here) (69 + 1) (nI 0) K4 = _
      rw [x1]
      show f_X0_goByInput_L111 b (nI t) (bi here) (68 + 1) (nI 1) K5 = _
      rw [y1]
      show f_X0_goByInput_L111 b (nI t) (bi here) (67 + 1) (nI 2) K6 = _
      rw [f_X0_goByInput_L111, if_pos (by decide)]
    unfold f_X0_goByInput
    simp only [lt, eb, st]
    rw [hK0, C_sideOf ht, ob]
    simp only [h12]
    rw [v4, ob, l24, ob]
    dsimp only
    rw [f1, ob, wt0, ob, wt1, ob, C_sideOf ht, ob, f3, ob, l111, ob]
  · have l160 : f_X9_actGreater_L160 (nI c) (nI t) (bi here) 70 (nI (2 * c)) M4 = some (nI (2 * c + 2), M6) := by
      show f_X9_actGreater_L160 (nI c) (nI t) (bi here) (69 + 1) (nI (2 * c + 0)) M4 = _
      rw [x2']
      show f_X9_actGreater_L160 (nI c) (nI t) (bi here) (68 + 1) (nI (2 * c + 1)) M5 = _
      rw [y2]
      show f_X9_actGreater_L160 (nI c) (nI t) (bi here) (67 + 1) (nI (2 * c + 2)) M6 = _
      rw [f_X9_actGreater_L160, n_2, n_a2, if_pos ((le_nI (by omega) (by omega)).mpr (by omega))]
    unfold f_X9_actGreater
    simp only [lt, n_2, eb, i2, x2, if_true]
    rw [r1, ob, M_sideOf ht, ob]
    simp only [hSc]
    rw [v4, ob, r2, ob]
    dsimp only
    rw [f2, ob, M_both hc, ob, M_sideOf ht, ob]
    simp only [st]
    rw [f4, ob, l160, ob]
end In
