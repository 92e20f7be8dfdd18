/-! A TICK, (d): the times of a ring -/
section Gw
variable {b c r : Nat} {K M : Mem}
theorem eb {α : Type} (X : Option α) : (X.bind fun u => some u) = X := by cases X <;> rfl
theorem sd_of (h : RC b c K M) : ∃ s, s < 2 ∧ M 6 c = nI s := by
  rcases h.2.2.2.2.2.2.1.2.2.2.1 with e | e
  · exact ⟨0, by omega, e⟩
  · exact ⟨1, by omega, e⟩
theorem inF_c {M' : Mem} (h8 : ∀ k, M' 8 k = M 8 k) (h27 : ∀ k, M' 27 k = M 27 k) (h28 : ∀ k, M' 28 k = M 28 k) : inF M' c = inF M c ∧ tgt M' c = tgt M c ∧ kx M' c = kx M c := by
  have e : tgt M' c = tgt M c := by
    unfold tgt
    rw [h28, h28, h27, h27]
  refine ⟨?_, e, ?_⟩
  · unfold inF
    rw [e, h8]
  · unfold kx
    rw [h28]
def cRed (b d : Nat) (v : Mem) : Option Mem := if (v d 4) = 1 then ((f_X7_at (b + 3) (v d 0) 4 v).bind fun u13 => if (v d 5) < u13 then (some v) else f_X0_end b d v) else (some v)
def mRed (c e : Nat) (v : Mem) : Option Mem := (f_X9_entry (nI c) (v 20 e) 4 v).bind fun u => if u ≤ v 22 e then (if v 21 e < 0 then f_X9_stopRing (nI e) v else f_X9_begin (nI c) (v 21 e) v) else some v
def cGrn (b d : Nat) (v : Mem) : Option Mem := (f_X7_at (b + 3) (v d 0) 5 v).bind fun u17 => (f_X7_at (b + 3) (v d 0) 6 v).bind fun u19 => (f_X6_passWalk d u17 u19 v).bind fun u21 => (f_X0_countingCalls b u21).bind fun u23 => (f_X0_weigh b d u23 u21).bind fun u25 => if (u25 d 3) = 0 then (some u25) else ((f_X2_targetInForce (b + 9) (u25 b 10) u25).bind fun u27 => if u27 = (-1) then (some (ks u25 d 6 ((u25 d 6) + 1))) else (some u25))
def mGrn (c e : Nat) (p3 : Int32) (v : Mem) : Option Mem := (f_X9_pace (nI c) (nI e) v).bind fun u2 => if p3 = 0 then (some u2) else ((f_X9_wanted (nI c) (nI e) u2).bind fun u4 => if u4 = 0 then (some u2) else some (ks u2 23 e (u2 23 e + 1)))
theorem s_red (hc : c < 2) (hr : r < 2) (h : RQ b c K M) (hs : M 19 (2 * c + r) = 3) : ∃ K' M', cRed b (b + 16 + r) K = some K' ∧ mRed c (2 * c + r) M = some M' ∧ RQ b c K' M' ∧ uK b r K K' ∧ uM c r M M' := by
  have hg := RQ_rg hr h
  have hs0 : ¬ M 19 (2 * c + r) = 0 := by rw [hs]; decide
  obtain ⟨⟨q, hq, e20, hu, hsd⟩, e1, hn⟩ := hg.2.2.2.2.2.2.2.1 hs0
  have hp : 4 * r + q < 8 := by omega
  have hT := h.1.1
  obtain ⟨t, ht, et⟩ := (hT (8 * (4 * r + q) + 4) (by omega)).2.2.2
  have eC : cRed b (b + 16 + r) K = if M 22 (2 * c + r) < nI t then some K else f_X0_end b (b + 16 + r) K := by
    unfold cRed
    rw [if_pos ((rg_red hg).mpr hs), hg.2.1, e20, C_at4 hp, at_M hT (by omega), et, ob, hg.2.2.1]
  have eM : mRed c (2 * c + r) M = if nI t ≤ M 22 (2 * c + r) then (if M 21 (2 * c + r) < 0 then f_X9_stopRing (nI (2 * c + r)) M else f_X9_begin (nI c) (M 21 (2 * c + r)) M) else some M := by
    unfold mRed
    rw [e20, M_entry4 hc hp, et, ob]
  rw [eC, eM]
  by_cases hlt : M 22 (2 * c + r) < nI t
  · rw [if_pos hlt, if_neg (Int32.not_le.mpr hlt)]
    exact ⟨K, M, rfl, rfl, h, uK_rf, uM_rf⟩
  · rw [if_neg hlt, if_pos (Int32.not_lt.mp hlt)]
    unfold f_X0_end
    rw [e1, eb, eb]
    rcases hn with hn | ⟨q2, hq2, e21, hu2, hsd2⟩
    · rw [if_pos hn, if_pos (by rw [hn]; decide), M_stop (by omega)]
      obtain ⟨a1, a2, a3⟩ := q_stop hr h
      exact ⟨_, _, rfl, rfl, a1, a2, a3⟩
    · rw [e21, if_neg (nI_ne_m1 (by omega)), if_neg (nI_ge0 (by omega))]
      exact s_begin hc hr hq2 h hu2 hsd2
theorem s_pace (hc : c < 2) (hr : r < 2) {q : Nat} (hq : q < 4) (h : RQ b c K M) (hs : M 19 (2 * c + r) = 1) (e20 : M 20 (2 * c + r) = nI (4 * r + q)) : ∃ K' M', f_X6_passWalk (b + 16 + r) (M 2 (64 * c + (8 * (4 * r + q) + 5))) (M 2 (64 * c + (8 * (4 * r + q) + 6))) K = some K' ∧ f_X9_pace (nI c) (nI (2 * c + r)) M = some M' ∧ RQ b c K' M' ∧ uK b r K K' ∧ uM c r M M' ∧ M' 19 (2 * c + r) = 1 := by
  have hp : 4 * r + q < 8 := by omega
  have i4 : inb (nI (2 * c + r)) 4 = true := inb_t (by omega) (by omega)
  have x4 : ix (nI (2 * c + r)) = 2 * c + r := ix_nI (by omega)
  have hg := RQ_rg hr h
  obtain ⟨w, hw, e25, e8⟩ := hg.2.2.2.2.2.2.2.2.1
  have h10 := hg.2.2.2.2.2.2.2.2.2
  have r8 : ks K (b + 16 + r) 9 (K (b + 16 + r) 9 + 1) (b + 16 + r) 8 = nI (4 * w) := by rw [ks_k (by omega), e8]
  have eC : ∀ x y, f_X6_passWalk (b + 16 + r) x y K = (if nI (4 * w) = 4 then (if K (b + 16 + r) 9 + 1 < x then (if nI (4 * w) = 8 then (if K (b + 16 + r) 9 + 1 < y then some (ks K (b + 16 + r) 9 (K (b + 16 + r) 9 + 1)) else some (ks (ks K (b + 16 + r) 9 (K (b + 16 + r) 9 + 1)) (b + 16 + r) 8 0)) else some (ks K (b + 16 + r) 9 (K (b + 16 + r) 9 + 1))) else some (ks (ks (ks K (b + 16 + r) 9 (K (b + 16 + r) 9 + 1)) (b + 16 + r) 8 8) (b + 16 + r) 9 0)) else (if nI (4 * w) = 8 then (if K (b + 16 + r) 9 + 1 < y then some (ks K (b + 16 + r) 9 (K (b + 16 + r) 9 + 1)) else some (ks (ks K (b + 16 + r) 9 (K (b + 16 + r) 9 + 1)) (b + 16 + r) 8 0)) else some (ks K (b + 16 + r) 9 (K (b + 16 + r) 9 + 1)))) := by
    intro x y
    simp only [f_X6_passWalk, f_X6_beginClear, st, r8, ks_s, ob]
  rcases (show w = 0 ∨ w = 1 ∨ w = 2 by omega) with rfl | rfl | rfl
  · have z0 : M 25 (2 * c + r) = 0 := e25
    obtain ⟨a1, a2, a3⟩ := q_scr9 (x := K (b + 16 + r) 9 + 1) hr z0 h
    refine ⟨_, M, ?_, ?_, a1, a2, a3, hs⟩
    · rw [eC, if_neg (by decide), if_neg (by decide)]
    · unfold f_X9_pace
      rw [if_pos i4, x4, if_pos z0]
  · have z1 : M 25 (2 * c + r) = 1 := e25
    have z0 : ¬ M 25 (2 * c + r) = 0 := by rw [z1]; decide
    obtain ⟨a1, a2, a3⟩ := q_pace hr z0 h
    have e9 := (h10 z0).1
    have m19 : ks M 26 (2 * c + r) (M 26 (2 * c + r) + 1) 19 (2 * c + r) = 1 := by rw [ks_n (by omega), hs]
    have m25 : ks M 26 (2 * c + r) (M 26 (2 * c + r) + 1) 25 (2 * c + r) = 1 := by rw [ks_n (by omega), z1]
    have m20 : ks M 26 (2 * c + r) (M 26 (2 * c + r) + 1) 20 (2 * c + r) = nI (4 * r + q) := by rw [ks_n (by omega), e20]
    have m2 : ∀ k, ks M 26 (2 * c + r) (M 26 (2 * c + r) + 1) 2 k = M 2 k := fun k => by rw [ks_n (by omega)]
    have eM : f_X9_pace (nI c) (nI (2 * c + r)) M = if M 2 (64 * c + (8 * (4 * r + q) + 5)) ≤ M 26 (2 * c + r) + 1 then some (ks (ks (ks M 26 (2 * c + r) (M 26 (2 * c + r) + 1)) 25 (2 * c + r) 2) 26 (2 * c + r) 0) else some (ks M 26 (2 * c + r) (M 26 (2 * c + r) + 1)) := by
      unfold f_X9_pace
      rw [if_pos i4, x4, if_neg z0]
      simp only [i4, if_true, st, m25, m20, ob, lt, M_entry5 hc hp, m2, ks_s]
    rw [eC, eM, if_pos (by decide), if_neg (show ¬ nI (4 * 1) = 8 by decide), e9]
    rw [e9] at a1 a2
    by_cases hlt : M 26 (2 * c + r) + 1 < M 2 (64 * c + (8 * (4 * r + q) + 5))
    · rw [if_pos hlt, if_neg (Int32.not_le.mpr hlt)]
      exact ⟨_, _, rfl, rfl, a1, a2, a3, m19⟩
    · rw [if_neg hlt, if_pos (Int32.not_lt.mp hlt)]
      obtain ⟨d1, d2, d3⟩ := q_clear hr m19 a1
      exact ⟨_, _, rfl, rfl, d1, uK_tr a2 d2, uM_tr a3 d3, by rw [ks_n (by omega), ks_n (by omega), m19]⟩
  · have z1 : M 25 (2 * c + r) = 2 := e25
    have z0 : ¬ M 25 (2 * c + r) = 0 := by rw [z1]; decide
    obtain ⟨a1, a2, a3⟩ := q_pace hr z0 h
    have e9 := (h10 z0).1
    have m19 : ks M 26 (2 * c + r) (M 26 (2 * c + r) + 1) 19 (2 * c + r) = 1 := by rw [ks_n (by omega), hs]
    have m25 : ks M 26 (2 * c + r) (M 26 (2 * c + r) + 1) 25 (2 * c + r) = 2 := by rw [ks_n (by omega), z1]
    have m20 : ks M 26 (2 * c + r) (M 26 (2 * c + r) + 1) 20 (2 * c + r) = nI (4 * r + q) := by rw [ks_n (by omega), e20]
    have m2 : ∀ k, ks M 26 (2 * c + r) (M 26 (2 * c + r) + 1) 2 k = M 2 k := fun k => by rw [ks_n (by omega)]
    have eM : f_X9_pace (nI c) (nI (2 * c + r)) M = if M 2 (64 * c + (8 * (4 * r + q) + 6)) ≤ M 26 (2 * c + r) + 1 then some (ks (ks (ks M 26 (2 * c + r) (M 26 (2 * c + r) + 1)) 25 (2 * c + r) 0) 26 (2 * c + r) 0) else some (ks M 26 (2 * c + r) (M 26 (2 * c + r) + 1)) := by
      unfold f_X9_pace
      rw [if_pos i4, x4, if_neg z0]
      simp only [i4, if_true, st, m25, m20, ob, lt, M_entry6 hc hp, m2, ks_s, show ¬ (2 : Int32) = 1 by decide, if_false]
    rw [eC, eM, if_neg (by decide), if_pos (show nI (4 * 2) = 8 by decide), e9]
    rw [e9] at a1 a2
    by_cases hlt : M 26 (2 * c + r) + 1 < M 2 (64 * c + (8 * (4 * r + q) + 6))
    · rw [if_pos hlt, if_neg (Int32.not_le.mpr hlt)]
      exact ⟨_, _, rfl, rfl, a1, a2, a3, m19⟩
    · rw [if_neg hlt, if_pos (Int32.not_lt.mp hlt)]
      obtain ⟨d1, d2, d3⟩ := q_out hr a1
      exact ⟨_, _, rfl, rfl, d1, uK_tr a2 d2, uM_tr a3 d3, by rw [ks_n (by omega), ks_n (by omega), m19]⟩
theorem s_green (hc : c < 2) (hr : r < 2) (h : RQ b c K M) (hs : M 19 (2 * c + r) = 1) : ∃ K' M', cGrn b (b + 16 + r) K = some K' ∧ mGrn c (2 * c + r) (bi (!inF M c)) M = some M' ∧ RQ b c K' M' ∧ uK b r K K' ∧ uM c r M M' := by
  have hg := RQ_rg hr h
  have hs0 : ¬ M 19 (2 * c + r) = 0 := by rw [hs]; decide
  obtain ⟨⟨q, hq, e20, hu, hsd⟩, -, -⟩ := hg.2.2.2.2.2.2.2.1 hs0
  have hp : 4 * r + q < 8 := by omega
  have hT := h.1.1
  obtain ⟨K1, M1, f1, f2, Q1, u1, u2, hs1⟩ := s_pace hc hr hq h hs e20
  obtain ⟨m, f3, hm⟩ := C_counting Q1.1.2.2.1 Q1.1.2.2.2.2.2.2.2.2.1 Q1.1.2.2.2.2.2.2.2.2.2.1
  obtain ⟨s, hs2, hS⟩ := sd_of Q1.1
  have f4 := C_weigh hr hs2 Q1.1 hS hm
  obtain ⟨Q2, u3, -⟩ := q_scr23 (x := fo M1 c r) (y := bi (wt M1 c r s)) hr Q1
  have f5 := C_tif Q2.1.2.2.2.2.2.1 Q2.1.2.1
  have f6 := M_wt hc hr hs2 hS (rg_M hr (RQ_rg hr Q1))
  obtain ⟨i1, i2, -⟩ := inF_c (c := c) (M := M) (M' := M1) (fun k => u2 8 k (by omega) (by omega)) (fun k => u2 27 k (by omega) (by omega)) (fun k => u2 28 k (by omega) (by omega))
  rw [i1, i2] at f5
  have v3 : ks (ks K1 (b + 16 + r) 2 (fo M1 c r)) (b + 16 + r) 3 (bi (wt M1 c r s)) (b + 16 + r) 3 = bi (wt M1 c r s) := ks_s _ _ _ _
  have eC : cGrn b (b + 16 + r) K = (fun u25 => if bi (wt M1 c r s) = 0 then (some u25) else (if (if inF M c = true then tgt M c else -1) = (-1) then (some (ks u25 (b + 16 + r) 6 ((u25 (b + 16 + r) 6) + 1))) else (some u25))) (ks (ks K1 (b + 16 + r) 2 (fo M1 c r)) (b + 16 + r) 3 (bi (wt M1 c r s))) := by
    unfold cGrn
    rw [hg.2.1, e20, C_at5 hp, at_M hT (by omega), ob, C_at6 hp, at_M hT (by omega), ob, f1, ob, f3, ob, f4, ob, v3, f5, ob]
  have eM : mGrn c (2 * c + r) (bi (!inF M c)) M = if bi (!inF M c) = 0 then some M1 else if bi (wt M1 c r s) = 0 then some M1 else some (ks M1 23 (2 * c + r) (M1 23 (2 * c + r) + 1)) := by
    unfold mGrn
    rw [f2, ob, f6, ob]
  obtain ⟨Q3, u4, u5⟩ := q_against hr Q2
  rw [eC, eM]
  dsimp only
  generalize ks (ks K1 (b + 16 + r) 2 (fo M1 c r)) (b + 16 + r) 3 (bi (wt M1 c r s)) = K2 at *
  by_cases hi : inF M c = true
  · obtain ⟨j, hj, ej, -⟩ := inF_p h.1.2.2.2.2.2.1 hi
    have hne : ¬ tgt M c = -1 := by rw [ej]; exact nI_ne_m1 (by omega)
    refine ⟨K2, M1, ?_, ?_, Q2, uK_tr u1 u3, u2⟩
    · rw [if_pos hi, if_neg hne]
      cases wt M1 c r s <;> rfl
    · rw [hi]
      rfl
  · have hi' : inF M c = false := by cases e : inF M c <;> simp_all
    rw [if_neg hi, if_pos rfl, hi']
    cases wt M1 c r s
    · exact ⟨K2, M1, rfl, rfl, Q2, uK_tr u1 u3, u2⟩
    · exact ⟨_, _, rfl, rfl, Q3, uK_tr (uK_tr u1 u3) u4, uM_tr u2 u5⟩
theorem s_grow (hc : c < 2) (hr : r < 2) (h : RC b c K M) : ∃ K' M', f_X0_passTimes b (b + 16 + r) K = some K' ∧ f_X9_grow (nI c) (nI (2 * c + r)) (bi (!inF M c)) M = some M' ∧ RC b c K' M' ∧ uK b r K K' ∧ uM c r M M' := by
  have i4 : inb (nI (2 * c + r)) 4 = true := inb_t (by omega) (by omega)
  have x4 : ix (nI (2 * c + r)) = 2 * c + r := ix_nI (by omega)
  have hg0 : rRing b c r K M := by
    rcases (show r = 0 ∨ r = 1 by omega) with rfl | rfl
    · exact h.2.2.2.2.2.2.2.2.1
    · exact h.2.2.2.2.2.2.2.2.2.1
  have eC : f_X0_passTimes b (b + 16 + r) K = if K (b + 16 + r) 0 = -1 then some K else (fun K3 => if K3 (b + 16 + r) 4 = 4 then cGrn b (b + 16 + r) K3 else ((if K3 (b + 16 + r) 4 = 2 then ((f_X7_at (b + 3) (K3 (b + 16 + r) 0) 3 K3).bind fun u9 => if K3 (b + 16 + r) 5 < u9 then some K3 else some (ks (ks K3 (b + 16 + r) 4 1) (b + 16 + r) 5 0)) else some K3) : Option Mem).bind fun v6 => cRed b (b + 16 + r) v6) (ks K (b + 16 + r) 5 (K (b + 16 + r) 5 + 1)) := by
    simp only [f_X0_passTimes, C_waits, C_isGreen, f_X6_show, ob, eb, st, cRed, cGrn]
    by_cases h1 : K (b + 16 + r) 0 = -1
    · simp [h1, bi]
    · by_cases h2 : ks K (b + 16 + r) 5 (K (b + 16 + r) 5 + 1) (b + 16 + r) 4 = 4
      · simp [h1, h2, bi]
      · simp [h1, h2, bi]
  have eM : f_X9_grow (nI c) (nI (2 * c + r)) (bi (!inF M c)) M = if M 19 (2 * c + r) = 0 then some M else (fun K1 => if K1 19 (2 * c + r) = 1 then mGrn c (2 * c + r) (bi (!inF M c)) K1 else if K1 19 (2 * c + r) = 2 then ((f_X9_entry (nI c) (K1 20 (2 * c + r)) 3 K1).bind fun u7 => if u7 ≤ K1 22 (2 * c + r) then mRed c (2 * c + r) (ks (ks K1 19 (2 * c + r) 3) 22 (2 * c + r) 0) else some K1) else mRed c (2 * c + r) K1) (ks M 22 (2 * c + r) (M 22 (2 * c + r) + 1)) := by
    simp only [f_X9_grow, i4, x4, if_true, eb, st, mRed, mGrn]
  rw [eC, eM]
  by_cases hs0 : M 19 (2 * c + r) = 0
  · rw [if_pos hs0, if_pos ((rg_waits hr hg0).mpr hs0)]
    exact ⟨K, M, rfl, rfl, h, uK_rf, uM_rf⟩
  · rw [if_neg hs0, if_neg (fun e => hs0 ((rg_waits hr hg0).mp e))]
    dsimp only
    obtain ⟨Q, u1, u2⟩ := q_age hr (RC_RQ hr h hs0)
    have hin := (inF_c (c := c) (M := M) (M' := ks M 22 (2 * c + r) (M 22 (2 * c + r) + 1)) (fun k => u2 8 k (by omega) (by omega)) (fun k => u2 27 k (by omega) (by omega)) (fun k => u2 28 k (by omega) (by omega))).1
    rw [← hin]
    have m19 : ks M 22 (2 * c + r) (M 22 (2 * c + r) + 1) 19 (2 * c + r) = M 19 (2 * c + r) := by rw [ks_n (by omega)]
    generalize ks K (b + 16 + r) 5 (K (b + 16 + r) 5 + 1) = K1 at *
    generalize ks M 22 (2 * c + r) (M 22 (2 * c + r) + 1) = M1 at *
    rw [← m19] at hs0
    have hg := RQ_rg hr Q
    by_cases g1 : M1 19 (2 * c + r) = 1
    · rw [if_pos ((rg_green hg).mpr g1), if_pos g1]
      obtain ⟨K2, M2, f1, f2, Q2, u3, u4⟩ := s_green hc hr Q g1
      exact ⟨K2, M2, f1, f2, Q2.1, uK_tr u1 u3, uM_tr u2 u4⟩
    · rw [if_neg (fun e => g1 ((rg_green hg).mp e)), if_neg g1]
      by_cases g2 : M1 19 (2 * c + r) = 2
      · rw [if_pos ((rg_yellow hg).mpr g2), if_pos g2]
        obtain ⟨⟨q, hq, e20, hu, hsd⟩, -, -⟩ := hg.2.2.2.2.2.2.2.1 hs0
        have hp : 4 * r + q < 8 := by omega
        rw [hg.2.1, e20, C_at3 hp, at_M Q.1.1 (by omega), ob, M_entry3 hc hp, ob, hg.2.2.1]
        by_cases hlt : M1 22 (2 * c + r) < M1 2 (64 * c + (8 * (4 * r + q) + 3))
        · rw [if_pos hlt, if_neg (Int32.not_le.mpr hlt), ob]
          refine ⟨K1, M1, ?_, rfl, Q.1, u1, u2⟩
          unfold cRed
          rw [if_neg (fun e => by have := (rg_red hg).mp e; rw [g2] at this; exact absurd this (by decide))]
        · rw [if_neg hlt, if_pos (Int32.not_lt.mp hlt), ob]
          have hw : M1 25 (2 * c + r) = 0 := by
            by_cases e : M1 25 (2 * c + r) = 0
            · exact e
            · exact absurd (hg.2.2.2.2.2.2.2.2.2 e).2 g1
          obtain ⟨Q2, u3, u4⟩ := q_red hr hs0 hw Q
          obtain ⟨K3, M3, f1, f2, Q3, u5, u6⟩ := s_red hc hr Q2 (by rw [ks_n (by omega), ks_s])
          exact ⟨K3, M3, f1, f2, Q3.1, uK_tr (uK_tr u1 u3) u5, uM_tr (uM_tr u2 u4) u6⟩
      · rw [if_neg (fun e => g2 ((rg_yellow hg).mp e)), if_neg g2, ob]
        have g3 : M1 19 (2 * c + r) = 3 := by
          obtain ⟨s, hs, e, -⟩ := hg.1
          rw [e] at hs0 g1 g2 ⊢
          rcases (show s = 0 ∨ s = 1 ∨ s = 2 ∨ s = 3 by omega) with rfl | rfl | rfl | rfl
          · exact absurd rfl hs0
          · exact absurd rfl g1
          · exact absurd rfl g2
          · rfl
        obtain ⟨K3, M3, f1, f2, Q3, u5, u6⟩ := s_red hc hr Q g3
        exact ⟨K3, M3, f1, f2, Q3.1, uK_tr u1 u5, uM_tr u2 u6⟩
end Gw
