/-! A TICK, (e): the plain act -/
section Ac
variable {b c r s : Nat} {K M M' : Mem} {w fc : Bool}
theorem s_cross (hc : c < 2) {m : Int32} (h : RQ b c K M) (h0 : M 19 (2 * c) = 0) (h1 : M 19 (2 * c + 1) = 0) (hm : mk m (fun p => cal M c p)) : (m = 0 → f_X9_cross (nI c) M = some M) ∧ (¬ m = 0 → ∃ K' M', f_X0_cross b m K = some K' ∧ f_X9_cross (nI c) M = some M' ∧ RQ b c K' M' ∧ oK b K K' ∧ oY c M M') := by
  obtain ⟨s, hs, hS⟩ := sd_of h.1
  have h12 : K b 12 = nI s := by rw [h.1.2.2.2.2.2.2.1.2.2.1]; exact hS
  have i2 : inb (nI c) 2 = true := inb_t hc (by omega)
  have x2 : ix (nI c) = c := ix_nI (by omega)
  have hz := mk_eq0 hm
  obtain ⟨u, fu, gu⟩ := C_side (K := K) (s := 1 - s) (by omega)
  have hu := mk_eq0 (mk_and hm gu)
  have eM : f_X9_cross (nI c) M = if bi (anyf (fun p => decide (p % 4 / 2 = 1 - s) && cal M c p) 8) = 0 then (if bi (anyf (fun p => decide (p % 4 / 2 = s) && cal M c p) 8) = 0 then some M else ((f_X9_cross_L62 (nI c) 0 70 0 (ks M 6 c (nI s))).bind fun v28 => some v28.2)) else ((f_X9_cross_L62 (nI c) 1 70 0 (ks M 6 c (nI (1 - s)))).bind fun v28 => some v28.2) := by
    unfold f_X9_cross
    simp only [i2, x2, if_true, hS, n_1s hs, M_calledOn hc (show 1 - s < 2 by omega), M_calledOn hc hs, ob, lt, st]
    cases anyf (fun p => decide (p % 4 / 2 = 1 - s) && cal M c p) 8
    · cases anyf (fun p => decide (p % 4 / 2 = s) && cal M c p) 8 <;> simp [bi]
    · simp [bi]
  have eC : f_X0_cross b m K = if m &&& u = 0 then ((f_X0_cross_L26 b m 70 0 K).bind fun v => some v.2) else ((f_X0_cross_L26 b m 70 0 (ks K b 12 (nI (1 - s)))).bind fun v => some v.2) := by
    unfold f_X0_cross
    simp only [h12, n_1s hs, fu, ob, lt, st]
    by_cases e : m &&& u = 0
    · rw [if_pos e, if_pos e, ob]
    · rw [if_neg e, if_neg e, ob]
  have calc6 : ∀ v, ∀ p, cal M c p = cal (ks M 6 c v) c p := fun v p => by
    unfold cal grn
    rw [ks_i (by omega), ks_i (by omega), ks_i (by omega), ks_i (by omega)]
  constructor
  · intro e
    have hf := hz.mp e
    have a1 : anyf (fun p => decide (p % 4 / 2 = 1 - s) && cal M c p) 8 = false := by
      cases ha : anyf (fun p => decide (p % 4 / 2 = 1 - s) && cal M c p) 8
      · rfl
      · obtain ⟨p, hp, e⟩ := (anyf_iff _ 8).mp ha
        simp [hf p hp] at e
    have a2 : anyf (fun p => decide (p % 4 / 2 = s) && cal M c p) 8 = false := by
      cases ha : anyf (fun p => decide (p % 4 / 2 = s) && cal M c p) 8
      · rfl
      · obtain ⟨p, hp, e⟩ := (anyf_iff _ 8).mp ha
        simp [hf p hp] at e
    rw [eM, a1, a2]
    rfl
  · intro hne
    rw [eC, eM]
    cases ha : anyf (fun p => decide (p % 4 / 2 = 1 - s) && cal M c p) 8
    · have hu0 : m &&& u = 0 := hu.mpr (fun i hi => by
        have := anyf_f ha hi
        rw [Bool.and_comm]
        exact this)
      rw [if_pos hu0, bi_f, if_pos rfl]
      cases hb : anyf (fun p => decide (p % 4 / 2 = s) && cal M c p) 8
      · refine absurd (hz.mpr (fun i hi => ?_)) hne
        have q1 := anyf_f ha hi
        have q2 := anyf_f hb hi
        rcases (show i % 4 / 2 = 1 - s ∨ i % 4 / 2 = s by omega) with e | e
        · simpa [e] using q1
        · simpa [e] using q2
      · rw [bi_t, if_neg n10]
        obtain ⟨K', M', a1, a2, a3, a4, a5⟩ := cross_loop (x := 0) hc hs (q_side hs h0 h1 h) (ks_s _ _ _ _) hm (fun p _ => calc6 _ p)
        rw [ks_self h12] at a1 a4
        refine ⟨K', M', by rw [a1, ob], by rw [a2, ob], a3, a4, oY_tr (oY_ks (by unfold slc; omega) (by omega)) a5⟩
    · have hu0 : ¬ m &&& u = 0 := fun e => by
        obtain ⟨p, hp, e2⟩ := (anyf_iff _ 8).mp ha
        have := hu.mp e p hp
        rw [Bool.and_comm] at this
        rw [this] at e2
        cases e2
      rw [if_neg hu0, bi_t, if_neg n10]
      obtain ⟨K', M', a1, a2, a3, a4, a5⟩ := cross_loop (x := 1) hc (show 1 - s < 2 by omega) (q_side (s := 1 - s) (by omega) h0 h1 h) (ks_s _ _ _ _) hm (fun p _ => calc6 _ p)
      exact ⟨K', M', by rw [a1, ob], by rw [a2, ob], a3, oK_tr (oK_ks (i := 0) (by omega)) a4, oY_tr (oY_ks (by unfold slc; omega) (by omega)) a5⟩
def cA (b : Nat) (x4 x8 x18 : Int32) (v9 : Mem) : Option Mem := (f_X0_weigh b (b + 16) x18 v9).bind fun u19 => (f_X0_weigh b (b + 17) x18 u19).bind fun u21 => (f_X0_goOn b (b + 16) x8 u21).bind fun u23 => (f_X0_goOn b (b + 17) x8 u23).bind fun u25 => if x4 = 0 then ((f_X0_mayLeave b (b + 16) x8 u25).bind fun u30 => if u30 = 0 then (some u25) else ((f_X0_mayLeave b (b + 17) x8 u25).bind fun u32 => if u32 = 0 then (some u25) else f_X0_leaveSide b u25)) else (some u25)
def mA (c : Nat) (K : Mem) : Option Mem := (f_X9_actPlain_L4 (nI c) 70 (nI (2 * c)) K).bind fun v10 => (f_X9_actPlain_L76 (nI c) 70 (nI (2 * c)) v10.2).bind fun v25 => (f_X9_isEarly (nI c) v25.2).bind fun u27 => if u27 = 0 then f_X9_empty (nI c) (-1) v25.2 else (if (v25.2 6 c) = 0 then (some v25.2) else f_X9_empty (nI c) (-1) v25.2)
theorem noY (hr : r < 2) : ylB (Yf c s fc r M) c r s fc = false := by
  unfold Yf
  by_cases hy : ylB M c r s fc = true
  · rw [if_pos hy]
    cases h : ylB (MYl c r (fo M c r) M) c r s fc
    · rfl
    · have := (dnw_t (ylB_t h).1).2.1
      unfold MYl at this
      rw [ks_n (by omega), ks_n (by omega), ks_s] at this
      exact absurd this (by decide)
  · rw [if_neg hy]
    simpa using hy
theorem s_plainA (hc : c < 2) (hs : s < 2) {m : Int32} (h : RQ b c K M) (hS : M 6 c = nI s) (hm : mk m (fun p => cal M c p)) : ∃ K' M', cA b (bi (ery M c && decide (s = 0))) (bi (ery M c && decide (s = 1))) m K = some K' ∧ mA c M = some M' ∧ RQ b c K' M' ∧ oK b K K' ∧ oY c M M' ∧ sim c M M' ∧ (M 19 (2 * c) = 0 → M 19 (2 * c + 1) = 0 → M' = M) := by
  obtain ⟨hg0, hg1⟩ := RQ_gs h
  have h32 : M 32 c = -1 ∨ ∃ j, j < 4 ∧ M 32 c = nI j := h.1.2.2.2.2.1.2.2.2.2.1.imp id (fun ⟨j, hj, e, _⟩ => ⟨j, hj, e⟩)
  -- weigh
  have w0 : f_X0_weigh b (b + 16) m K = some (ks (ks K (b + 16 + 0) 2 (fo M c 0)) (b + 16 + 0) 3 (bi (wt M c 0 s))) := C_weigh (r := 0) (by omega) hs h.1 hS hm
  obtain ⟨Q1, u1, -⟩ := q_scr23 (x := fo M c 0) (y := bi (wt M c 0 s)) (r := 0) (by omega) h
  have a2 : ks (ks K (b + 16 + 0) 2 (fo M c 0)) (b + 16 + 0) 3 (bi (wt M c 0 s)) (b + 16 + 0) 2 = fo M c 0 := by rw [ks_k (by omega), ks_s]
  have a3 : ks (ks K (b + 16 + 0) 2 (fo M c 0)) (b + 16 + 0) 3 (bi (wt M c 0 s)) (b + 16 + 0) 3 = bi (wt M c 0 s) := ks_s _ _ _ _
  generalize ks (ks K (b + 16 + 0) 2 (fo M c 0)) (b + 16 + 0) 3 (bi (wt M c 0 s)) = K1 at w0 Q1 u1 a2 a3
  have w1 : f_X0_weigh b (b + 17) m K1 = some (ks (ks K1 (b + 16 + 1) 2 (fo M c 1)) (b + 16 + 1) 3 (bi (wt M c 1 s))) := C_weigh (r := 1) (by omega) hs Q1.1 hS hm
  obtain ⟨Q2, u2, -⟩ := q_scr23 (x := fo M c 1) (y := bi (wt M c 1 s)) (r := 1) (by omega) Q1
  have b2 : ks (ks K1 (b + 16 + 1) 2 (fo M c 1)) (b + 16 + 1) 3 (bi (wt M c 1 s)) (b + 16 + 1) 2 = fo M c 1 := by rw [ks_k (by omega), ks_s]
  have b3 : ks (ks K1 (b + 16 + 1) 2 (fo M c 1)) (b + 16 + 1) 3 (bi (wt M c 1 s)) (b + 16 + 1) 3 = bi (wt M c 1 s) := ks_s _ _ _ _
  generalize ks (ks K1 (b + 16 + 1) 2 (fo M c 1)) (b + 16 + 1) 3 (bi (wt M c 1 s)) = K2 at w1 Q2 u2 b2 b3
  have oz : ∀ {K K' : Mem}, uK b 1 K K' → ∀ j, K' (b + 16 + 0) j = K (b + 16 + 0) j := fun u j => u _ j (by omega) (by omega)
  have zo : ∀ {K K' : Mem}, uK b 0 K K' → ∀ j, K' (b + 16 + 1) j = K (b + 16 + 1) j := fun u j => u _ j (by omega) (by omega)
  -- go on, ring 0
  obtain ⟨K3, g1, Q3, u3, c2, c3⟩ := C_goOn (r := 0) (fc := ery M c && decide (s = 1)) (by omega) hs Q2 hS ((oz u2 2).trans a2) ((oz u2 3).trans a3)
  have g1' : f_X0_goOn b (b + 16) (bi (ery M c && decide (s = 1))) K2 = some K3 := g1
  obtain ⟨s1, m1⟩ := Af_ok (s := s) (r := 0) (by omega) hg0
  have hg0' := sim_rg (r := 0) (by omega) s1 hg0
  have hg1' := sim_rg (r := 1) (by omega) s1 hg1
  obtain ⟨s2, m2⟩ := Yf_ok (s := s) (fc := ery M c && decide (s = 1)) (r := 0) (by omega) hg0'
  have s12 := sim_tr s1 s2
  have hS1 : Yf c s (ery M c && decide (s = 1)) 0 (Af c s 0 M) 6 c = nI s := by rw [s12.2.2 6 c (by omega)]; exact hS
  have hSA : Af c s 0 M 6 c = nI s := by rw [s1.2.2 6 c (by omega)]; exact hS
  -- go on, ring 1
  obtain ⟨K4, g2, Q4, u4, d2, d3⟩ := C_goOn (r := 1) (fc := ery M c && decide (s = 1)) (by omega) hs Q3 hS1 (((zo u3 2).trans b2).trans (sim_fo (by omega) s12 hg1).symm) (((zo u3 3).trans b3).trans (by rw [sim_wt (by omega) hs s12 hg0 hg1 hS]))
  have g2' : f_X0_goOn b (b + 17) (bi (ery M c && decide (s = 1))) K3 = some K4 := g2
  obtain ⟨hgy0, hgy1⟩ := RQ_gs Q3
  obtain ⟨s3, m3⟩ := Af_ok (s := s) (r := 1) (by omega) hgy1
  have hga0 := sim_rg (r := 0) (by omega) s3 hgy0
  have hga1 := sim_rg (r := 1) (by omega) s3 hgy1
  obtain ⟨s4, m4⟩ := Yf_ok (s := s) (fc := ery M c && decide (s = 1)) (r := 1) (by omega) hga1
  have s34 := sim_tr s3 s4
  have s14 := sim_tr s12 s34
  have hSa : Af c s 1 (Yf c s (ery M c && decide (s = 1)) 0 (Af c s 0 M)) 6 c = nI s := by rw [s3.2.2 6 c (by omega)]; exact hS1
  -- no yellow is left
  have n1 : ylB (Yf c s (ery M c && decide (s = 1)) 1 (Af c s 1 (Yf c s (ery M c && decide (s = 1)) 0 (Af c s 0 M)))) c 1 s (ery M c && decide (s = 1)) = false := noY (by omega)
  have n0 : ylB (Yf c s (ery M c && decide (s = 1)) 1 (Af c s 1 (Yf c s (ery M c && decide (s = 1)) 0 (Af c s 0 M)))) c 0 s (ery M c && decide (s = 1)) = false := by
    rw [yl_c (r2 := 0) (by omega) hs (by omega) m4 s4 hga0 hga1 hSa, yl_c (r2 := 0) (by omega) hs (by omega) m3 s3 hgy0 hgy1 hS1]
    exact noY (by omega)
  -- the reference's loops
  have ey1 := sim_ery s1
  have r1 : f_X9_actPlain_L4 (nI c) 70 (nI (2 * c)) M = some (nI (2 * c + 2), Af c s 1 (Af c s 0 M)) := by
    show f_X9_actPlain_L4 (nI c) (69 + 1) (nI (2 * c + 0)) M = _
    rw [M_L4 hc (by omega) hs hS hg0]
    show f_X9_actPlain_L4 (nI c) (68 + 1) (nI (2 * c + 1)) _ = _
    rw [M_L4 hc (by omega) hs hSA hg1']
    show f_X9_actPlain_L4 (nI c) (67 + 1) (nI (2 * c + 2)) _ = _
    rw [M_L4x hc]
  obtain ⟨s5, m5⟩ := Af_ok (s := s) (r := 1) (by omega) hg1'
  have hgb0 := sim_rg (r := 0) (by omega) s5 hg0'
  have hgb1 := sim_rg (r := 1) (by omega) s5 hg1'
  have s15 := sim_tr s1 s5
  have cm : Af c s 1 (Yf c s (ery M c && decide (s = 1)) 0 (Af c s 0 M)) = Yf c s (ery M c && decide (s = 1)) 0 (Af c s 1 (Af c s 0 M)) := AY_comm hs hg0' hg1' hSA
  have r2 : f_X9_actPlain_L76 (nI c) 70 (nI (2 * c)) (Af c s 1 (Af c s 0 M)) = some (nI (2 * c + 2), Yf c s (ery M c && decide (s = 1)) 1 (Af c s 1 (Yf c s (ery M c && decide (s = 1)) 0 (Af c s 0 M)))) := by
    have e5 := sim_ery s15
    have e6 := sim_ery (sim_tr s12 s3)
    show f_X9_actPlain_L76 (nI c) (69 + 1) (nI (2 * c + 0)) _ = _
    rw [M_L76 hc (by omega) hs (by rw [s15.2.2 6 c (by omega)]; exact hS) hgb0 (by rw [s15.2.2 32 c (by omega)]; exact h32), e5, ← cm]
    show f_X9_actPlain_L76 (nI c) (68 + 1) (nI (2 * c + 1)) _ = _
    rw [M_L76 hc (by omega) hs hSa hga1 (by rw [(sim_tr s12 s3).2.2 32 c (by omega)]; exact h32), e6]
    show f_X9_actPlain_L76 (nI c) (67 + 1) (nI (2 * c + 2)) _ = _
    rw [M_L76x hc]
  -- the identity where both wait
  have idz : M 19 (2 * c) = 0 → M 19 (2 * c + 1) = 0 → Yf c s (ery M c && decide (s = 1)) 1 (Af c s 1 (Yf c s (ery M c && decide (s = 1)) 0 (Af c s 0 M))) = M := by
    intro z0 z1
    have A : ∀ r, M 19 (2 * c + r) = 0 → Af c s r M = M := fun r z => by
      unfold Af
      rw [if_neg]
      intro e
      have := (wkB_t e).1
      rw [z] at this
      exact absurd this (by decide)
    have Y : ∀ r, M 19 (2 * c + r) = 0 → Yf c s (ery M c && decide (s = 1)) r M = M := fun r z => by
      unfold Yf
      rw [if_neg]
      intro e
      have := (dnw_t (ylB_t e).1).2.1
      rw [z] at this
      exact absurd this (by decide)
    rw [A 0 z0, Y 0 z0, A 1 z1, Y 1 z1]
  have hwt0 := sim_wt (r := 0) (by omega) hs s14 hg0 hg1 hS
  have hwt1 := sim_wt (r := 1) (by omega) hs s14 hg0 hg1 hS
  have hfo0 := sim_fo (r := 0) (by omega) s14 hg0
  have hfo1 := sim_fo (r := 1) (by omega) s14 hg1
  have hwt1' := sim_wt (r := 1) (by omega) hs s12 hg0 hg1 hS
  have hfo1' := sim_fo (r := 1) (by omega) s12 hg1
  have ey4 := sim_ery s14
  have k42 : K4 (b + 16 + 0) 2 = fo M c 0 := (oz u4 2).trans c2
  have k43 : K4 (b + 16 + 0) 3 = bi (wt M c 0 s) := (oz u4 3).trans c3
  rw [hfo1'] at d2
  rw [hwt1'] at d3
  have oK4 : oK b K K4 := oK_tr (oK_tr (oK_tr (uK_o (by omega) u1) (uK_o (by omega) u2)) (uK_o (by omega) u3)) (uK_o (by omega) u4)
  have oM4 : oY c M (Yf c s (ery M c && decide (s = 1)) 1 (Af c s 1 (Yf c s (ery M c && decide (s = 1)) 0 (Af c s 0 M)))) := oY_tr (oY_tr (oY_tr (uM_y (by omega) m1) (uM_y (by omega) m2)) (uM_y (by omega) m3)) (uM_y (by omega) m4)
  generalize Yf c s (ery M c && decide (s = 1)) 1 (Af c s 1 (Yf c s (ery M c && decide (s = 1)) 0 (Af c s 0 M))) = M4 at Q4 s14 n1 n0 r2 idz hwt0 hwt1 hfo0 hfo1 ey4 oM4
  have hS4 : M4 6 c = nI s := by rw [s14.2.2 6 c (by omega)]; exact hS
  have h324 : M4 32 c = -1 ∨ ∃ j, j < 4 ∧ M4 32 c = nI j := by rw [s14.2.2 32 c (by omega)]; exact h32
  obtain ⟨hg40, hg41⟩ := RQ_gs Q4
  have eM : mA c M = if (ery M c && decide (s = 0)) = true then some M4 else f_X9_empty (nI c) (-1) M4 := by
    unfold mA
    rw [r1, ob, r2, ob, M_ery hc h324, ob, ey4]
    dsimp only
    simp only [hS4]
    have es : nI s = 0 ↔ s = 0 := nI_eq0 (by omega)
    cases ery M c
    · simp [bi]
    · by_cases hs0 : s = 0
      · simp [bi, hs0, nI]
      · have : ¬ nI s = 0 := fun e => hs0 (es.mp e)
        simp [bi, hs0, this]
  have eC : cA b (bi (ery M c && decide (s = 0))) (bi (ery M c && decide (s = 1))) m K = if (ery M c && decide (s = 0)) = true then some K4 else ((f_X0_mayLeave b (b + 16) (bi (ery M c && decide (s = 1))) K4).bind fun u30 => if u30 = 0 then (some K4) else ((f_X0_mayLeave b (b + 17) (bi (ery M c && decide (s = 1))) K4).bind fun u32 => if u32 = 0 then (some K4) else f_X0_leaveSide b K4)) := by
    unfold cA
    rw [w0, ob, w1, ob, g1', ob, g2', ob]
    cases (ery M c && decide (s = 0)) <;> simp [bi]
  rw [eM, eC]
  by_cases held : (ery M c && decide (s = 0)) = true
  · rw [if_pos held, if_pos held]
    exact ⟨K4, M4, rfl, rfl, Q4, oK4, oM4, s14, idz⟩
  · rw [if_neg held, if_neg held]
    have ml0 : f_X0_mayLeave b (b + 16) (bi (ery M c && decide (s = 1))) K4 = some (bi (decide (M4 19 (2 * c + 0) = 0) || (dnw M4 c 0 (wt M c 0 s) (ery M c && decide (s = 1)) && decide (fo M c 0 = -1)))) := C_may (r := 0) (by omega) Q4.1.1 (RQ_rg (by omega) Q4) k42 k43
    have ml1 : f_X0_mayLeave b (b + 17) (bi (ery M c && decide (s = 1))) K4 = some (bi (decide (M4 19 (2 * c + 1) = 0) || (dnw M4 c 1 (wt M c 1 s) (ery M c && decide (s = 1)) && decide (fo M c 1 = -1)))) := C_may (r := 1) (by omega) Q4.1.1 (RQ_rg (by omega) Q4) d2 d3
    have q0 : (dnw M4 c 0 (wt M c 0 s) (ery M c && decide (s = 1)) && decide (fo M c 0 = -1)) = dnw M4 c 0 (wt M4 c 0 s) (ery M c && decide (s = 1)) := by
      unfold ylB at n0
      rw [hfo0, hwt0] at n0
      rw [hwt0]
      revert n0
      cases dnw M4 c 0 (wt M c 0 s) (ery M c && decide (s = 1)) <;> simp
    have q1 : (dnw M4 c 1 (wt M c 1 s) (ery M c && decide (s = 1)) && decide (fo M c 1 = -1)) = dnw M4 c 1 (wt M4 c 1 s) (ery M c && decide (s = 1)) := by
      unfold ylB at n1
      rw [hfo1, hwt1] at n1
      rw [hwt1]
      revert n1
      cases dnw M4 c 1 (wt M c 1 s) (ery M c && decide (s = 1)) <;> simp
    have em := M_empty (M := M4) (x := -1) (d0 := dnw M4 c 0 (wt M4 c 0 s) (ery M c && decide (s = 1))) (d1 := dnw M4 c 1 (wt M4 c 1 s) (ery M c && decide (s = 1))) hc
      (fun _ => by
        rw [if_neg (by decide)]
        have := M_done (r := 0) hc (by omega) hs hS4 hg40 h324
        rw [ey4] at this
        exact this)
      (fun _ => by
        rw [if_neg (by decide)]
        have := M_done (r := 1) hc (by omega) hs hS4 hg41 h324
        rw [ey4] at this
        exact this)
    rw [ml0, ob, ml1, ob, em, q0, q1]
    by_cases hall : ((decide (M4 19 (2 * c) = 0) || dnw M4 c 0 (wt M4 c 0 s) (ery M c && decide (s = 1))) && (decide (M4 19 (2 * c + 1) = 0) || dnw M4 c 1 (wt M4 c 1 s) (ery M c && decide (s = 1)))) = true
    · have hal := hall
      rw [Bool.and_eq_true] at hal
      have p0 : (decide (M4 19 (2 * c + 0) = 0) || dnw M4 c 0 (wt M4 c 0 s) (ery M c && decide (s = 1))) = true := hal.1
      rw [if_pos hall, p0, hal.2, bi_t, if_neg n10, if_neg n10]
      have hw : ∀ r, r < 2 → M4 19 (2 * c + r) = 1 → M4 25 (2 * c + r) = 0 := by
        intro r hr e
        have key : ∀ x : Bool, (decide (M4 19 (2 * c + r) = 0) || dnw M4 c r x (ery M c && decide (s = 1))) = true → M4 25 (2 * c + r) = 0 := by
          intro x hx
          rw [e, Bool.or_eq_true] at hx
          rcases hx with hx | hx
          · exact absurd (of_decide_eq_true hx) (by decide)
          · exact (dnw_t hx).2.2
        rcases (show r = 0 ∨ r = 1 by omega) with rfl | rfl
        · exact key _ p0
        · exact key _ hal.2
      obtain ⟨K5, l1, l2, l3⟩ := C_leave Q4 hw
      obtain ⟨t1, t2⟩ := Lf_ok (r := 0) (by omega) hg40
      obtain ⟨t3, t4⟩ := Lf_ok (r := 1) (by omega) (sim_rg (r := 1) (by omega) t1 hg41)
      refine ⟨K5, _, l1, rfl, l2, oK_tr oK4 l3, oY_tr oM4 (oY_tr (uM_y (by omega) t2) (uM_y (by omega) t4)), sim_tr s14 (sim_tr t1 t3), fun z0 z1 => ?_⟩
      rw [idz z0 z1]
      have L : ∀ r, M 19 (2 * c + r) = 0 → Lf c r M = M := fun r z => by
        unfold Lf
        rw [if_neg]
        intro e
        rw [z] at e
        exact absurd e (by decide)
      rw [L 0 z0, L 1 z1]
    · rw [if_neg hall]
      refine ⟨K4, M4, ?_, rfl, Q4, oK4, oM4, s14, idz⟩
      cases p0 : (decide (M4 19 (2 * c + 0) = 0) || dnw M4 c 0 (wt M4 c 0 s) (ery M c && decide (s = 1)))
      · rfl
      · rw [bi_t, if_neg n10]
        have p0' : (decide (M4 19 (2 * c) = 0) || dnw M4 c 0 (wt M4 c 0 s) (ery M c && decide (s = 1))) = true := p0
        rw [p0', Bool.true_and] at hall
        have : (decide (M4 19 (2 * c + 1) = 0) || dnw M4 c 1 (wt M4 c 1 s) (ery M c && decide (s = 1))) = false := by simpa using hall
        rw [this]
        rfl
theorem s_plain (hc : c < 2) (h : RC b c K M) : ∃ K' y M1 M', f_X0_goByCalls b (bi (ery M c)) K = some K' ∧ f_X9_step_L68 (nI c) (-1) 70 0 M = some (y, M1) ∧ f_X9_actPlain (nI c) (ks M1 7 c 0) = some M' ∧ RQ b c K' M' ∧ oK b K K' ∧ oY c M M' := by
  obtain ⟨K1, y, M1, e1, e2, Q1, o1, o2, fr⟩ := s_had hc h
  obtain ⟨s, hs, hS⟩ := sd_of h
  have h12 : K b 12 = nI s := by rw [h.2.2.2.2.2.2.1.2.2.1]; exact hS
  have hS2 : (ks M1 7 c 0) 6 c = nI s := by rw [ks_n (by omega), fr 6 c (by omega)]; exact hS
  have he : ery (ks M1 7 c 0) c = ery M c := by
    unfold ery
    rw [ks_n (by omega), ks_n (by omega), ks_n (by omega), fr 32 _ (by omega), fr 31 _ (by omega), fr 35 _ (by omega)]
  have o3 : oY c M (ks M1 7 c 0) := oY_tr ⟨o2, fun k => ⟨fr 4 k (by omega), fr 5 k (by omega)⟩⟩ (oY_ks (by unfold slc; omega) (by omega))
  obtain ⟨m, f3, hm⟩ := C_counting Q1.1.2.2.1 Q1.1.2.2.2.2.2.2.2.2.1 Q1.1.2.2.2.2.2.2.2.2.2.1
  obtain ⟨K2, M2, a1, a2, a3, a4, a5, a6, a7⟩ := s_plainA hc hs Q1 hS2 hm
  rw [he] at a1
  have es0 : nI s = 0 ↔ s = 0 := nI_eq0 (by omega)
  have es1 : nI s = 1 ↔ s = 1 := eq_nI (b := 1) (by omega) (by omega)
  have i2 : inb (nI c) 2 = true := inb_t hc (by omega)
  have x2 : ix (nI c) = c := ix_nI (by omega)
  have v1 : (if bi (ery M c) = 0 then some 0 else (if nI s = 0 then some 1 else some 0) : Option Int32) = some (bi (ery M c && decide (s = 0))) := by
    cases ery M c
    · rfl
    · by_cases e : s = 0
      · simp [bi, e, nI]
      · have : ¬ nI s = 0 := fun e2 => e (es0.mp e2)
        simp [bi, e, this]
  have v5 : (if bi (ery M c) = 0 then some 0 else (if nI s = 1 then some 1 else some 0) : Option Int32) = some (bi (ery M c && decide (s = 1))) := by
    cases ery M c
    · rfl
    · by_cases e : s = 1
      · simp [bi, e, nI]
      · have : ¬ nI s = 1 := fun e2 => e (es1.mp e2)
        simp [bi, e, this]
  have eC : f_X0_goByCalls b (bi (ery M c)) K = (fun v27 => (f_X6_waits (b + 16) v27).bind fun u36 => if u36 = 0 then (some v27) else ((f_X6_waits (b + 17) v27).bind fun u38 => if u38 = 0 then (some v27) else (if m = 0 then (some v27) else f_X0_cross b m v27))) K2 := by
    unfold f_X0_goByCalls
    rw [h12, v1, ob]
    simp only [lt]
    rw [v5, ob]
    have e1' : (if (K b 15) = 0 then (some K) else (st K b 15 0 fun K12 => (f_X0_greenPhases b K12).bind fun u13 => st K12 b 13 ((K12 b 13) ||| ((K12 b 10) &&& (u13 ^^^ (-1)))) fun K15 => some K15) : Option Mem) = some K1 := by
      rw [← e1]
      unfold cHad
      simp only [st, ks_k (show (13 : Nat) ≠ 15 by omega), ks_k (show (10 : Nat) ≠ 15 by omega)]
    rw [e1', ob, f3, ob]
    simp only [eb]
    have key : ∀ F : Mem → Option Mem, (cA b (bi (ery M c && decide (s = 0))) (bi (ery M c && decide (s = 1))) m K1).bind F = F K2 := fun F => by rw [a1, ob]
    unfold cA at key
    simp only [Option.bind_assoc] at key
    exact key _
  have eM : f_X9_actPlain (nI c) (ks M1 7 c 0) = (fun v29 => (f_X9_bothWait (nI c) v29).bind fun u36 => if u36 = 0 then (some v29) else f_X9_cross (nI c) v29) M2 := by
    unfold f_X9_actPlain
    simp only [lt, n_2, eb, i2, x2, if_true]
    have key : ∀ F : Mem → Option Mem, (mA c (ks M1 7 c 0)).bind F = F M2 := fun F => by rw [a2, ob]
    unfold mA at key
    simp only [Option.bind_assoc] at key
    exact key _
  suffices hx : ∃ K' M', (fun v27 => (f_X6_waits (b + 16) v27).bind fun u36 => if u36 = 0 then (some v27) else ((f_X6_waits (b + 17) v27).bind fun u38 => if u38 = 0 then (some v27) else (if m = 0 then (some v27) else f_X0_cross b m v27))) K2 = some K' ∧ (fun v29 => (f_X9_bothWait (nI c) v29).bind fun u36 => if u36 = 0 then (some v29) else f_X9_cross (nI c) v29) M2 = some M' ∧ RQ b c K' M' ∧ oK b K K' ∧ oY c M M' by
    obtain ⟨K', M', x1, x2, x3, x4, x5⟩ := hx
    exact ⟨K', y, M1, M', eC.trans x1, e2, eM.trans x2, x3, x4, x5⟩
  dsimp only
  have g0 := RQ_rg (r := 0) (by omega) a3
  have g1 := RQ_rg (r := 1) (by omega) a3
  have wt0 : f_X6_waits (b + 16) K2 = some (bi (decide (M2 19 (2 * c) = 0))) := by
    have : f_X6_waits (b + 16 + 0) K2 = some (bi (decide (M2 19 (2 * c + 0) = 0))) := by
      rw [C_waits]
      congr 2
      exact decide_eq_decide.mpr (rg_waits (by omega) g0)
    exact this
  have wt1 : f_X6_waits (b + 17) K2 = some (bi (decide (M2 19 (2 * c + 1) = 0))) := by
    have : f_X6_waits (b + 16 + 1) K2 = some (bi (decide (M2 19 (2 * c + 1) = 0))) := by
      rw [C_waits]
      congr 2
      exact decide_eq_decide.mpr (rg_waits (by omega) g1)
    exact this
  rw [wt0, ob, wt1, ob, M_both hc, ob]
  by_cases z0 : M2 19 (2 * c) = 0
  · by_cases z1 : M2 19 (2 * c + 1) = 0
    · have y0 := ((a6.1 0 (by omega)).1).mp z0
      have y1 := ((a6.1 1 (by omega)).1).mp z1
      have hid := a7 y0 y1
      subst hid
      obtain ⟨x1, x2⟩ := s_cross hc a3 z0 z1 hm
      rw [decide_eq_true z0, decide_eq_true z1]
      by_cases hm0 : m = 0
      · refine ⟨K2, _, ?_, x1 hm0, a3, oK_tr o1 a4, o3⟩
        simp [bi, hm0]
      · obtain ⟨K3, M3, x3, x4, x5, x6, x7⟩ := x2 hm0
        refine ⟨K3, M3, ?_, x4, x5, oK_tr (oK_tr o1 a4) x6, oY_tr o3 x7⟩
        rw [bi_t, if_neg n10, if_neg n10, if_neg hm0, x3]
    · rw [decide_eq_false z1, Bool.and_false]
      refine ⟨K2, M2, ?_, rfl, a3, oK_tr o1 a4, oY_tr o3 a5⟩
      rw [decide_eq_true z0]
      rfl
  · rw [decide_eq_false z0, Bool.false_and]
    exact ⟨K2, M2, rfl, rfl, a3, oK_tr o1 a4, oY_tr o3 a5⟩
end Ac
