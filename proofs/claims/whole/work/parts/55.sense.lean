/-! A TICK, (a): the detectors -/
def sP (b c : Nat) (K0 M0 : Mem) (i : Nat) (K M : Mem) : Prop := mk (K (b + 5) 3) (fun q => decide (q < i) && decide ((60 : Int32) ≤ M 12 (8 * c + q))) ∧ mk (K (b + 5) 2) (fun q => one M 11 (8 * c + q)) ∧ (∀ p, p < 8 → z01 (M 11 (8 * c + p)) ∧ K (b + 6) p = M 12 (8 * c + p) ∧ (∃ n, n ≤ 100 ∧ M 12 (8 * c + p) = nI n) ∧ K (b + 7) p = M 13 (8 * c + p) ∧ fpos (M 13 (8 * c + p)).toUInt32) ∧ (∀ x k, x ≠ b + 6 → x ≠ b + 7 → (x ≠ b + 5 ∨ k ≠ 3) → K x k = K0 x k) ∧ ∀ row k, ((row ≠ 12 ∧ row ≠ 13) ∨ k < 8 * c ∨ 8 * c + 8 ≤ k) → M row k = M0 row k
section Se
variable {b c : Nat} {K0 M0 K M : Mem}
theorem tu (x : UInt32) : x.toInt32.toUInt32 = x := by simp
theorem sense_step (hc : c < 2) {i : Nat} (hi : i < 8) (h : sP b c K0 M0 i K M) : ∃ K' M', (∀ n, f_X1_pass_L7 (b + 5) (n + 1) (nI i) K = f_X1_pass_L7 (b + 5) n (nI (i + 1)) K') ∧ (∀ m, f_X9_sense_L5 (nI c) (m + 1) (nI (8 * c + i)) M = f_X9_sense_L5 (nI c) m (nI (8 * c + i + 1)) M') ∧ sP b c K0 M0 (i + 1) K' M' := by
  obtain ⟨h1, h2, h3, h4, h5⟩ := h
  obtain ⟨z, t1, ⟨n0, hn0, t2⟩, o1, o2⟩ := h3 i hi
  have i8 : inb (nI i) 8 = true := inb_t hi (by omega)
  have x8 : ix (nI i) = i := ix_nI (by omega)
  have i16 : inb (nI (8 * c + i)) 16 = true := inb_t (by omega) (by omega)
  have x16 : ix (nI (8 * c + i)) = 8 * c + i := ix_nI (by omega)
  have hn : ¬ nI (8 * c) + 8 ≤ nI (8 * c + i) := by
    rw [n_a8]
    exact fun e => absurd ((le_nI (by omega) (by omega)).mp e) (by omega)
  have ht := mk_tst h2 hi
  unfold one at ht
  rw [one_z z] at ht
  have f1 := fp_mul o2
  have f2 := fp_add f1
  have g1 := fp_nn f1
  have g2 := fp_nn f2
  have hon : (if (K (b + 5) 2 &&& jshl 1 (nI i)) = 0 then some 0 else some 1 : Option Int32) = some (bi (!decide (M 11 (8 * c + i) = 0))) := by
    by_cases e : M 11 (8 * c + i) = 0
    · rw [if_pos (ht.mpr (by simp [e]))]; simp [e, bi]
    · rw [if_neg (fun q => by have := ht.mp q; simp [e] at this)]; simp [e, bi]
  -- the new on-time
  obtain ⟨t, ht100, tc, tm⟩ : ∃ t, t ≤ 100 ∧ (if bi (!decide (M 11 (8 * c + i) = 0)) = 0 then some 0 else some (jmin (K (b + 6) i + 1) 100) : Option Int32) = some (nI t) ∧ (if M 11 (8 * c + i) = 0 then some 0 else if 100 ≤ M 12 (8 * c + i) then some 100 else some (M 12 (8 * c + i) + 1) : Option Int32) = some (nI t) := by
    by_cases e : M 11 (8 * c + i) = 0
    · exact ⟨0, by omega, by simp [e, bi, nI_0], by simp [e, nI_0]⟩
    · rw [t1, t2, n_a1]
      by_cases e2 : n0 = 100
      · subst e2
        exact ⟨100, by omega, by simp [e, bi]; decide, by simp [e]; decide⟩
      · have q1 : ¬ (100 : Int32) ≤ nI n0 := fun q => absurd ((q_le 100 n0 (by omega) (by omega)).mp q) (by omega)
        have q2 : ¬ (100 : Int32) < nI (n0 + 1) := fun q => absurd ((lt_nI (a := 100) (by omega) (by omega)).mp q) (by omega)
        exact ⟨n0 + 1, by omega, by simp [e, bi, jmin, q2], by simp [e, q1]⟩
  -- the new occupancy
  obtain ⟨w, hw, oc1, oc2⟩ : ∃ w : UInt32, fpos w ∧ (if bi (!decide (M 11 (8 * c + i) = 0)) = 0 then some (FP.fmul (M 13 (8 * c + i)).toUInt32 1063256064) else some (FP.fadd (FP.fmul (M 13 (8 * c + i)).toUInt32 1063256064) 1040187392) : Option UInt32) = some w ∧ (∀ X : Mem, X 11 (8 * c + i) = M 11 (8 * c + i) → ∃ X', (if X 11 (8 * c + i) = 0 then some (ks X 13 (8 * c + i) (FP.fmul (M 13 (8 * c + i)).toUInt32 1063256064).toInt32) else some (ks (ks X 13 (8 * c + i) (FP.fmul (M 13 (8 * c + i)).toUInt32 1063256064).toInt32) 13 (8 * c + i) (FP.fadd (FP.fmul (M 13 (8 * c + i)).toUInt32 1063256064) 1040187392).toInt32) : Option Mem) = some X' ∧ X' 13 (8 * c + i) = w.toInt32 ∧ ∀ row k, (row ≠ 13 ∨ k ≠ 8 * c + i) → X' row k = X row k) := by
    by_cases e : M 11 (8 * c + i) = 0
    · refine ⟨_, f1, by simp [e, bi], fun X hX => ⟨_, by rw [hX, if_pos e], ks_s _ _ _ _, fun row k hr => ks_n hr⟩⟩
    · refine ⟨_, f2, by simp [e, bi], fun X hX => ⟨_, by rw [hX, if_neg e], ks_s _ _ _ _, fun row k hr => by rw [ks_n hr, ks_n hr]⟩⟩
  obtain ⟨M', m1, m2, m3⟩ := oc2 (ks M 12 (8 * c + i) (nI t)) (ks_n (by omega))
  -- the failed mask
  obtain ⟨K1, k1, k2, k3⟩ : ∃ K1, (if nI t < 60 then some (ks K (b + 6) i (nI t)) else some (ks (ks K (b + 6) i (nI t)) (b + 5) 3 ((ks K (b + 6) i (nI t)) (b + 5) 3 ||| jshl 1 (nI i))) : Option Mem) = some K1 ∧ mk (K1 (b + 5) 3) (fun q => decide (q < i + 1) && (if q = i then decide ((60 : Int32) ≤ nI t) else decide ((60 : Int32) ≤ M 12 (8 * c + q)))) ∧ ∀ x k, (x ≠ b + 5 ∨ k ≠ 3) → K1 x k = ks K (b + 6) i (nI t) x k := by
    by_cases e : nI t < 60
    · refine ⟨_, by rw [if_pos e], ?_, fun _ _ _ => rfl⟩
      rw [ks_n (by omega)]
      refine mk_congr h1 (fun q hq => ?_)
      by_cases hqi : q = i
      · subst hqi
        simp [Int32.not_le.mpr e]
      · have : decide (q < i) = decide (q < i + 1) := by
          by_cases h1 : q < i
          · rw [decide_eq_true h1, decide_eq_true (by omega)]
          · rw [decide_eq_false h1, decide_eq_false (by omega)]
        simp [hqi, this]
    · refine ⟨_, by rw [if_neg e], ?_, fun x k hx => ks_n hx⟩
      rw [ks_s, ks_n (by omega)]
      refine mk_congr (mk_or h1 (bit_lt i hi)) (fun q hq => ?_)
      by_cases hqi : q = i
      · subst hqi
        simp [Int32.not_lt.mp e]
      · have : decide (q < i) = decide (q < i + 1) := by
          by_cases h1 : q < i
          · rw [decide_eq_true h1, decide_eq_true (by omega)]
          · rw [decide_eq_false h1, decide_eq_false (by omega)]
        simp [hqi, this]
  have k7 : K1 (b + 7) i = M 13 (8 * c + i) := by rw [k3 _ _ (by omega), ks_n (by omega), o1]
  refine ⟨ks K1 (b + 7) i w.toInt32, M', fun n => ?_, fun m => ?_, ?_, ?_, fun p hp => ?_, fun x k q1 q2 q3 => ?_, fun row k hr => ?_⟩
  · rw [f_X1_pass_L7, if_neg (c8_no hi), C_bit hi, ob, hon, ob]
    simp only [lt, i8, x8, if_true]
    rw [show b + 5 + 1 = b + 6 from rfl, tc, ob]
    simp only [st, ks_s]
    have e1 : (f_X8_bit (nI i) (ks K (b + 6) i (nI t))).bind (fun u16 => some (ks (ks K (b + 6) i (nI t)) (b + 5) 3 ((ks K (b + 6) i (nI t)) (b + 5) 3 ||| u16))) = some (ks (ks K (b + 6) i (nI t)) (b + 5) 3 ((ks K (b + 6) i (nI t)) (b + 5) 3 ||| jshl 1 (nI i))) := by rw [C_bit hi, ob]
    rw [e1, k1, ob, show b + 5 + 2 = b + 7 from rfl, k7]
    simp only [g1, g2, if_true]
    rw [oc1, ob, n_a1]
  · rw [f_X9_sense_L5, n_8, if_neg hn]
    simp only [i16, x16, if_true, lt, st]
    rw [tm, ob, (nar_s t (by omega)).1]
    have e13 : ks M 12 (8 * c + i) (nI t) 13 (8 * c + i) = M 13 (8 * c + i) := ks_n (by omega)
    simp only [e13, g1, if_true, ks_s, tu, g2]
    have e11 : ∀ v, ks (ks M 12 (8 * c + i) (nI t)) 13 (8 * c + i) v 11 (8 * c + i) = ks M 12 (8 * c + i) (nI t) 11 (8 * c + i) := fun v => ks_n (by omega)
    rw [e11, m1, ob, n_a1]
  · rw [ks_n (by omega)]
    refine mk_congr k2 (fun q hq => ?_)
    by_cases hqi : q = i
    · subst hqi
      rw [m3 12 _ (by omega), ks_s]
      simp
    · rw [m3 12 _ (by omega), ks_n (by omega)]
      simp [hqi]
  · rw [ks_n (by omega), k3 _ _ (by omega), ks_n (by omega)]
    refine mk_congr h2 (fun q hq => ?_)
    unfold one
    rw [m3 11 _ (by omega), ks_n (by omega)]
  · obtain ⟨a1, a2, a3, a4, a5⟩ := h3 p hp
    rw [m3 11 _ (by omega), m3 12 _ (by omega), ks_n (i := 12) (a := 11) (by omega)]
    by_cases hpi : p = i
    · subst hpi
      rw [ks_s, ks_s, m2, tu, ks_n (by omega), k3 _ _ (by omega), ks_s]
      exact ⟨a1, rfl, ⟨t, ht100, rfl⟩, rfl, hw⟩
    · rw [m3 13 _ (by omega), ks_n (i := 12) (a := 13) (by omega), ks_n (i := 12) (a := 12) (by omega), ks_n (i := b + 7) (a := b + 7) (by omega), ks_n (i := b + 7) (a := b + 6) (by omega), k3 _ _ (by omega), k3 _ _ (by omega), ks_n (by omega), ks_n (by omega)]
      exact ⟨a1, a2, a3, a4, a5⟩
  · rw [ks_n (by omega), k3 _ _ q3, ks_n (by omega)]
    exact h4 x k q1 q2 q3
  · rw [m3 _ _ (by omega), ks_n (by omega)]
    exact h5 row k hr
/-- (a), both sides: every clause stays -/
theorem s_sense (hc : c < 2) (h : RC b c K M) : ∃ K' M', f_X1_pass (b + 5) K = some K' ∧ f_X9_sense (nI c) M = some M' ∧ RC b c K' M' ∧ oK b K K' ∧ oM c M M' := by
  obtain ⟨hT, hU, hCl, hD, hL, hI, hS, hH, hg0, hg1, hMn⟩ := h
  have P0 : sP b c K M 0 (ks K (b + 5) 3 0) M := by
    refine ⟨by rw [ks_s]; exact mk_congr mk_0 (fun q hq => by simp), by rw [ks_n (by omega)]; exact hD.1, fun p hp => ?_, fun x k q1 q2 q3 => ks_n q3, fun _ _ _ => rfl⟩
    rw [ks_n (by omega), ks_n (by omega)]
    exact hD.2.2 p hp
  obtain ⟨K', M', e1, e2, P8⟩ := loop2 (fun n i K => f_X1_pass_L7 (b + 5) n i K) (fun n i M => f_X9_sense_L5 (nI c) n i M) 0 (8 * c) 8 (sP b c K M)
    (fun n K => by show f_X1_pass_L7 (b + 5) (n + 1) (nI 8) K = _; rw [f_X1_pass_L7, if_pos c8_yes])
    (fun n M => by show f_X9_sense_L5 (nI c) (n + 1) (nI (8 * c + 8)) M = _; rw [f_X9_sense_L5, n_8, n_a8, if_pos (Int32.le_refl _)])
    (fun n m i K2 M2 hi hP => by
      obtain ⟨K', M', a1, a2, a3⟩ := sense_step hc hi hP
      refine ⟨K', M', ?_, a2 m, a3⟩
      show f_X1_pass_L7 (b + 5) (n + 1) (nI (0 + i)) K2 = f_X1_pass_L7 (b + 5) n (nI (0 + i + 1)) K'
      rw [Nat.zero_add]
      exact a1 n) 8 0 70 70 _ _ rfl (by omega) (by omega) P0
  obtain ⟨p1, p2, p3, p4, p5⟩ := P8
  have kk : ∀ i k, i ≠ 5 → i ≠ 6 → i ≠ 7 → K' (b + i) k = K (b + i) k := fun i k q1 q2 q3 => p4 _ _ (by omega) (by omega) (by omega)
  have k0 : ∀ k, K' b k = K b k := fun k => p4 _ _ (by omega) (by omega) (by omega)
  have mm : ∀ row k, row ≠ 12 → row ≠ 13 → M' row k = M row k := fun row k q1 q2 => p5 _ _ (Or.inl ⟨q1, q2⟩)
  refine ⟨K', M', ?_, ?_, ⟨?_, ?_, ?_, ⟨p2, mk_congr p1 (fun q hq => by simp [hq]), p3⟩, ?_, ?_, ?_, ?_, ?_, ?_, ?_⟩, fun i k hi => p4 _ _ (by omega) (by omega) (by omega), fun row k hn => p5 _ _ (by unfold slc at hn; omega)⟩
  · unfold f_X1_pass
    show (f_X1_pass_L7 (b + 5) 70 (nI (0 + 0)) (ks K (b + 5) 3 0)).bind _ = _
    rw [e1, ob]
  · unfold f_X9_sense
    simp only [lt, n_8]
    show (f_X9_sense_L5 (nI c) 70 (nI (8 * c + 0)) M).bind _ = _
    rw [e2, ob]
  · exact rTab_f (fun k => kk 2 k (by omega) (by omega) (by omega)) (fun k => kk 4 k (by omega) (by omega) (by omega)) (fun i _ => mm 1 _ (by omega) (by omega)) (fun i _ => mm 2 _ (by omega) (by omega)) hT
  · exact rUse_f (k0 10) (fun i _ => mm 8 _ (by omega) (by omega)) (fun i _ => mm 2 _ (by omega) (by omega)) hU
  · exact rCal_f (k0 13) (k0 14) (fun i _ => mm 8 _ (by omega) (by omega)) (fun i _ => mm 9 _ (by omega) (by omega)) (fun i _ => mm 10 _ (by omega) (by omega)) hCl
  · exact rLnk_f (fun k => kk 8 k (by omega) (by omega) (by omega)) (fun j _ e => by rw [mm 29 _ (by omega) (by omega)]; exact e) (mm 32 _ (by omega) (by omega)) (mm 33 _ (by omega) (by omega)) (mm 34 _ (by omega) (by omega)) (mm 35 _ (by omega) (by omega)) hL
  · exact rInp_f (fun k => kk 10 k (by omega) (by omega) (by omega)) (fun k => kk 11 k (by omega) (by omega) (by omega)) (fun i _ => mm 27 _ (by omega) (by omega)) (fun i _ => mm 28 _ (by omega) (by omega)) hI
  · exact rSc_f (k0 9) (k0 10) (k0 11) (k0 12) (k0 15) (mm 3 _ (by omega) (by omega)) (mm 4 _ (by omega) (by omega)) (mm 5 _ (by omega) (by omega)) (mm 6 _ (by omega) (by omega)) (mm 7 _ (by omega) (by omega)) hS
  · exact rHad_f (k0 15) (mm 7 _ (by omega) (by omega)) (fun i _ => mm 8 _ (by omega) (by omega)) (fun i _ => mm 9 _ (by omega) (by omega)) (fun i _ => mm 19 _ (by omega) (by omega)) hH
  · exact rRing_f (by omega) (fun j => kk 16 j (by omega) (by omega) (by omega)) (fun i _ => mm 8 _ (by omega) (by omega)) (mm 6 _ (by omega) (by omega)) (fun row r1 r2 => mm row _ (by omega) (by omega)) hg0
  · exact rRing_f (by omega) (fun j => kk 17 j (by omega) (by omega) (by omega)) (fun i _ => mm 8 _ (by omega) (by omega)) (mm 6 _ (by omega) (by omega)) (fun row r1 r2 => mm row _ (by omega) (by omega)) hg1
  · exact rMon_f (kk 12 3 (by omega) (by omega) (by omega)) (fun k => kk 14 k (by omega) (by omega) (by omega)) (fun k => kk 15 k (by omega) (by omega) (by omega)) (fun k => kk 18 k (by omega) (by omega) (by omega)) (mm 5 _ (by omega) (by omega)) (fun i _ => mm 8 _ (by omega) (by omega)) (fun i _ => mm 14 _ (by omega) (by omega)) (fun i _ => mm 16 _ (by omega) (by omega)) (fun i _ => mm 17 _ (by omega) (by omega)) (fun i _ => mm 18 _ (by omega) (by omega)) hMn
end Se
