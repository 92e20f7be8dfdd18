/-! A TICK of one crossing, of both -/
section St
variable {b c T : Nat} {K M : Mem}
theorem M_L68i (hc : c < 2) {k : Nat} (hk : k < 4) : f_X9_step_L68 (nI c) (nI k) 70 0 M = some (0, M) := by
  have i2 : inb (nI c) 2 = true := inb_t hc (by omega)
  have x2 : ix (nI c) = c := ix_nI (by omega)
  show f_X9_step_L68 (nI c) (nI k) (69 + 1) (nI 0) M = _
  rw [f_X9_step_L68, if_neg (c8_no (by omega)), if_pos i2, x2, if_pos (nI_0le (by omega))]
  by_cases h : M 7 c = 0
  · rw [if_pos h]
    rfl
  · rw [if_neg h]
    rfl
theorem s_step (hbc : BC b c) (hc : c < 2) {k : Nat} (hk : k < 1000000) (h : RR T K M) (hclk : M 0 1 = nI k) : ∃ K' M', f_X0_pass b (nI k) K = some K' ∧ f_X9_step (nI c) M = some M' ∧ RR T K' M' ∧ K' 0 3 = K 0 3 ∧ M' 0 1 = M 0 1 ∧ M' 0 0 = M 0 0 := by
  have i2 : inb (nI c) 2 = true := inb_t hc (by omega)
  have x2 : ix (nI c) = c := ix_nI (by omega)
  suffices hx : ∃ K' M', f_X0_pass b (nI k) K = some K' ∧ f_X9_step (nI c) M = some M' ∧ RC b c K' M' ∧ oK b K K' ∧ oM c M M' by
    obtain ⟨K', M', a1, a2, a3, a4, a5⟩ := hx
    exact ⟨K', M', a1, a2, RR_up hbc h a4 a5 a3, a4 0 3 (by unfold BC at hbc; omega), a5 0 1 (by unfold slc; omega), a5 0 0 (by unfold slc; omega)⟩
  obtain ⟨K1, M1, e1, e2, R1, o1, p1⟩ := s_sense hc (RR_in hbc h)
  have G1 := RG_o hbc o1 p1 h.1
  obtain ⟨K2, M2, e3, e4, R2, o2, p2⟩ := s_link hbc hc hk (by rw [p1 0 1 (by unfold slc; omega)]; exact hclk) G1.2.2 R1
  have o12 := oK_tr o1 o2
  have p12 := oM_tr p1 p2
  have G2 := RG_o hbc o12 p12 h.1
  have hSc := R2.2.2.2.2.2.2.1
  have h4 := hSc.2.2.2.2.1
  have h11 := hSc.2.1
  unfold f_X0_pass f_X9_step
  rw [e1, ob, e3, ob, e2, ob, e4, ob, M_runs hc, ob]
  unfold f_X0_isOff
  by_cases hoff : K2 b 10 = 0
  · rw [decide_eq_true hoff] at h4
    have hn : ¬ (M2 4 c = 0 ∧ M2 5 c = 0) := fun e => by rw [h4] at e; exact absurd e.1 (by decide)
    rw [if_pos hoff, ob, if_neg n10, decide_eq_false hn, bi_f, if_pos rfl]
    exact ⟨K2, M2, rfl, rfl, R2, o12, p12⟩
  · rw [decide_eq_false hoff] at h4
    rw [if_neg hoff, ob, if_pos rfl]
    by_cases hw : M2 5 c = 0
    · have hy : M2 4 c = 0 ∧ M2 5 c = 0 := ⟨h4, hw⟩
      rw [h11, if_pos hw, decide_eq_true hy, bi_t, if_neg n10]
      obtain ⟨K3, M3, f1, f2, R3, o3, p3⟩ := s_call hc R2
      have hI := M_inp hc R2.2.2.2.2.2.1
      obtain ⟨j3, -, -⟩ := inF_c (c := c) (M := M2) (M' := M3) (fun k => p3.2 8 k (by omega) (by omega) (by omega)) (fun k => p3.2 27 k (by omega) (by omega) (by omega)) (fun k => p3.2 28 k (by omega) (by omega) (by omega))
      obtain ⟨K4, M4, g1, g2, R4, u4, v4⟩ := s_grow (r := 0) hc (by omega) R3
      obtain ⟨j4, -, -⟩ := inF_c (c := c) (M := M3) (M' := M4) (fun k => v4 8 k (by omega) (by omega)) (fun k => v4 27 k (by omega) (by omega)) (fun k => v4 28 k (by omega) (by omega))
      obtain ⟨K5, M5, g3, g4, R5, u5, v5⟩ := s_grow (r := 1) hc (by omega) R4
      obtain ⟨j5, -, -⟩ := inF_c (c := c) (M := M4) (M' := M5) (fun k => v5 8 k (by omega) (by omega)) (fun k => v5 27 k (by omega) (by omega)) (fun k => v5 28 k (by omega) (by omega))
      have ikx : kx M5 c = kx M2 c := by
        unfold kx
        rw [v5 28 _ (by omega) (by omega), v4 28 _ (by omega) (by omega), p3.2 28 _ (by omega) (by omega) (by omega)]
      have g1' : f_X0_passTimes b (b + 16) K3 = some K4 := g1
      have g3' : f_X0_passTimes b (b + 17) K4 = some K5 := g3
      have hT := C_tif R5.2.2.2.2.2.1 R5.2.1
      have j52 : inF M5 c = inF M2 c := j5.trans (j4.trans j3)
      have oK5 : oK b K K5 := oK_tr o12 (oK_tr o3 (oK_tr (uK_o (by omega) u4) (uK_o (by omega) u5)))
      have oM5 : oM c M M5 := oM_tr p12 (oM_tr p3.1 (oM_tr (uM_o (by omega) v4) (uM_o (by omega) v5)))
      have m5 : M5 5 c = 0 := by rw [v5 5 c (by omega) (by omega), v4 5 c (by omega) (by omega), p3.2 5 c (by omega) (by omega) (by omega)]; exact hw
      have m4 : M5 4 c = 0 := by rw [v5 4 c (by omega) (by omega), v4 4 c (by omega) (by omega), p3.2 4 c (by omega) (by omega) (by omega)]; exact h4
      have kne : ∀ {K' M' : Mem}, RQ b c K' M' → oY c M5 M' → M' 5 c = 0 ∧ ¬ K' b 10 = 0 := fun {K' M'} Q o => ⟨by rw [(o.2 c).2]; exact m5, fun e => by
        have := Q.1.2.2.2.2.2.2.1.2.2.2.2.1
        rw [(o.2 c).1, m4, e] at this
        exact absurd this (by decide)⟩
      have x9v : (if 0 ≤ (if inF M2 c = true then nI (2 * c + kx M2 c) else -1) then some 0 else some 1 : Option Int32) = some (bi (!inF M3 c)) := by
        rw [j3]
        cases inF M2 c
        · rfl
        · have : (0 : Int32) ≤ nI (2 * c + kx M2 c) := nI_0le (by unfold kx; by_cases e : M2 28 (2 * c) = 0 <;> simp [e] <;> omega)
          simp [this, bi]
      have g2' : f_X9_grow (nI c) (nI (2 * c)) (bi (!inF M3 c)) M3 = some M4 := g2
      rw [← j4] at x9v g2'
      have x9v' := x9v
      rw [f1, ob, g1', ob, g3', ob, hT, ob, hI, ob]
      simp only [lt]
      rw [f2, ob]
      simp only [n_2, n_a1]
      rw [x9v, ob, g2', ob, ob, g4, ob]
      have kx2 : kx M2 c < 2 := by
        unfold kx
        by_cases e : M2 28 (2 * c) = 0 <;> simp [e]
      by_cases hin : inF M5 c = true
      · have hin2 : inF M2 c = true := by rw [← j52]; exact hin
        obtain ⟨t, ht, et, hu⟩ := inF_p R5.2.2.2.2.2.1 hin
        have hu1 := z01_one (R5.2.1.2 t ht).1 hu
        obtain ⟨K6, M6, w1, w2, Q6, o6, p6⟩ := s_greater hc ht R5 hu1
        obtain ⟨z1, z2⟩ := kne Q6 p6
        obtain ⟨K7, M7, y1, y2, R7, o7, p7⟩ := s_watch hc Q6 z1 z2
        refine ⟨K7, M7, ?_, ?_, R7, oK_tr oK5 (oK_tr o6 o7), oM_tr oM5 (oM_tr p6.1 p7)⟩
        · rw [if_pos hin, et, if_neg (nI_ne_m1 (by omega)), w1, ob, ob, y1, ob]
        · have hlt : ¬ nI (2 * c + kx M2 c) < 0 := nI_ge0 (by omega)
          have i4 : inb (nI (2 * c + kx M2 c)) 4 = true := inb_t (by omega) (by omega)
          have x4 : ix (nI (2 * c + kx M2 c)) = 2 * c + kx M2 c := ix_nI (by omega)
          have e27 : ks M5 7 c 1 27 (2 * c + kx M2 c) = nI t := by
            rw [ks_i (by omega), ← ikx, ← inF_t hin, et]
          rw [if_pos hin2, M_L68i hc (by omega), ob, if_neg hlt, ob, if_pos i2, x2]
          simp only [st, nar_1, hlt, if_false, i4, x4, if_true, e27]
          rw [w2, ob, ob, y2, ob]
      · have hin2 : ¬ inF M2 c = true := by rw [← j52]; exact hin
        have G5 := RG_o hbc oK5 oM5 h.1
        have hE := C_ery R5.2.2.2.2.1 G5.2.2
        obtain ⟨K6, y, M6a, M6, w1, w2, w3, Q6, o6, p6⟩ := s_plain hc R5
        obtain ⟨z1, z2⟩ := kne Q6 p6
        obtain ⟨K7, M7, y1, y2, R7, o7, p7⟩ := s_watch hc Q6 z1 z2
        refine ⟨K7, M7, ?_, ?_, R7, oK_tr oK5 (oK_tr o6 o7), oM_tr oM5 (oM_tr p6.1 p7)⟩
        · rw [if_neg hin, if_pos rfl, hE, ob, w1, ob, ob, y1, ob]
        · have hlt : (-1 : Int32) < 0 := by decide
          rw [if_neg hin2, w2, ob, if_pos hlt, ob, if_pos i2, x2]
          simp only [st, nar_0, hlt, if_true]
          rw [w3, ob, ob, y2, ob]
    · have hn : ¬ (M2 4 c = 0 ∧ M2 5 c = 0) := fun e => hw e.2
      rw [h11, if_neg hw, decide_eq_false hn, bi_f, if_pos rfl]
      exact ⟨K2, M2, rfl, rfl, R2, o12, p12⟩
def tkC (K : Mem) : Option Mem := (f_X0_pass 5 (K 0 3) K).bind fun K1 => (f_X0_pass 24 (K1 0 3) K1).bind fun K2 => some (ks K2 0 3 (K2 0 3 + 1))
def tkM (M : Mem) : Option Mem := (f_X9_step 0 M).bind fun u6 => (f_X9_step 1 u6).bind fun u8 => some (ks u8 0 1 ((u8 0 1) + 1))
theorem s_tick1 (hT : T < 1000000) (h : RR T K M) : ∃ K' M', tkC K = some K' ∧ tkM M = some M' ∧ RR (T + 1) K' M' ∧ M' 0 0 = M 0 0 := by
  obtain ⟨k, hk, ek⟩ := h.1.2.1
  obtain ⟨K1, M1, a1, a2, a3, a4, a5, a6⟩ := s_step (b := 5) (c := 0) (Or.inl ⟨rfl, rfl⟩) (by omega) (k := k) (by omega) h ek
  obtain ⟨K2, M2, d1, d2, d3, d4, d5, d6⟩ := s_step (b := 24) (c := 1) (Or.inr ⟨rfl, rfl⟩) (by omega) (k := k) (by omega) a3 (by rw [a5]; exact ek)
  have k1 : K 0 3 = nI k := by rw [h.1.1]; exact ek
  have k2 : K1 0 3 = nI k := by rw [a4]; exact k1
  have k3 : K2 0 3 = nI k := by rw [d4]; exact k2
  have m3 : M2 0 1 = nI k := by rw [d5, a5]; exact ek
  refine ⟨ks K2 0 3 (K2 0 3 + 1), ks M2 0 1 (M2 0 1 + 1), ?_, ?_, ?_, by rw [ks_k (by omega), d6, a6]⟩
  · unfold tkC
    rw [k1, a1, ob, k2, d1, ob]
  · unfold tkM
    have a2' : f_X9_step 0 M = some M1 := a2
    have d2' : f_X9_step 1 M1 = some M2 := d2
    rw [a2', ob, d2', ob]
  · refine ⟨⟨by rw [ks_s, ks_s, k3, m3], ⟨k + 1, by omega, by rw [ks_s, m3, n_a1]⟩, fun j hj => ?_⟩, ?_, ?_⟩
    · rw [ks_i (by omega), ks_i (by omega), ks_i (by omega), ks_i (by omega), ks_i (by omega), ks_i (by omega)]
      exact d3.1.2.2 j hj
    · exact RC_fr (fun i k hi => ks_i (by omega)) (fun row k hr => ks_i (by unfold inM at hr; omega)) d3.2.1
    · exact RC_fr (fun i k hi => ks_i (by omega)) (fun row k hr => ks_i (by unfold inM at hr; omega)) d3.2.2
end St
