/-! STARTING a crossing: start, reset -/
section St
variable {T b c : Nat} {K M : Mem}
theorem M_stop {m : Nat} (hm : m < 4) : f_X9_stopRing (nI m) M = some (ks (ks (ks (ks M 19 m 0) 20 m (-1)) 21 m (-1)) 25 m 0) := by
  have i4 : inb (nI m) 4 = true := inb_t hm (by omega)
  have x4 : ix (nI m) = m := ix_nI (by omega)
  simp only [f_X9_stopRing, i4, x4, if_true, st]
theorem C_anewL (c0 : Nat) (K : Mem) : ∃ K', f_X4_beginAnew_L7 c0 70 0 K = some (nI 8, K') ∧ (∀ p, p < 8 → K' (c0 + 2) p = 0 ∧ K' (c0 + 3) p = 0) ∧ ∀ x k, x ≠ c0 + 2 → x ≠ c0 + 3 → K' x k = K x k := by
  have H := loop1 (fun n i K => f_X4_beginAnew_L7 c0 n i K) 0 8 (fun i K' => (∀ p, p < i → K' (c0 + 2) p = 0 ∧ K' (c0 + 3) p = 0) ∧ ∀ x k, x ≠ c0 + 2 → x ≠ c0 + 3 → K' x k = K x k) (fun r => ∃ K', r = some (nI 8, K') ∧ (∀ p, p < 8 → K' (c0 + 2) p = 0 ∧ K' (c0 + 3) p = 0) ∧ ∀ x k, x ≠ c0 + 2 → x ≠ c0 + 3 → K' x k = K x k)
    (fun n K' h => ⟨K', by show f_X4_beginAnew_L7 c0 (n + 1) (nI 8) K' = _; rw [f_X4_beginAnew_L7, if_pos c8_yes], h⟩)
    (fun n i K' hi h => by
      refine ⟨ks (ks K' (c0 + 2) i 0) (c0 + 3) i 0, ?_, fun p hp => ?_, fun x k h1 h2 => ?_⟩
      · show f_X4_beginAnew_L7 c0 (n + 1) (nI (0 + i)) K' = f_X4_beginAnew_L7 c0 n (nI (0 + i + 1)) _
        rw [Nat.zero_add, f_X4_beginAnew_L7, if_neg (c8_no hi), if_pos (inb_t hi (by omega)), ix_nI (by omega)]
        simp only [st, lt, n_a1]
        rw [if_pos (inb_t hi (by omega))]
      · by_cases hpi : p = i
        · subst hpi
          rw [ks_s, ks_n (by omega), ks_s]
          exact ⟨rfl, rfl⟩
        · have := h.1 p (by omega)
          rw [ks_n (by omega), ks_n (by omega), ks_n (by omega), ks_n (by omega)]
          exact this
      · rw [ks_i h2, ks_i h1]
        exact h.2 x k h1 h2) 8 0 70 K rfl (by omega) ⟨fun p hp => absurd hp (by omega), fun _ _ _ _ => rfl⟩
  exact H
theorem M_startL (hc : c < 2) (M : Mem) (hz : ∀ p, p < 8 → z01 (M 8 (8 * c + p))) : ∃ M', f_X9_start_L49 (nI c) 70 (nI (8 * c)) M = some (nI (8 * c + 8), M') ∧ (∀ p, p < 8 → M' 9 (8 * c + p) = M 8 (8 * c + p) ∧ M' 10 (8 * c + p) = 0 ∧ M' 16 (8 * c + p) = 0 ∧ M' 17 (8 * c + p) = 0 ∧ M' 18 (8 * c + p) = 0) ∧ ∀ row k, (¬ (row = 9 ∨ row = 10 ∨ row = 16 ∨ row = 17 ∨ row = 18) ∨ k < 8 * c ∨ 8 * c + 8 ≤ k) → M' row k = M row k := by
  have e8 : nI (8 * c) + 8 = nI (8 * c + 8) := n_a8 (8 * c)
  have H := loop1 (fun n i M => f_X9_start_L49 (nI c) n i M) (8 * c) 8
    (fun i M' => (∀ p, p < i → M' 9 (8 * c + p) = M 8 (8 * c + p) ∧ M' 10 (8 * c + p) = 0 ∧ M' 16 (8 * c + p) = 0 ∧ M' 17 (8 * c + p) = 0 ∧ M' 18 (8 * c + p) = 0) ∧ ∀ row k, (¬ (row = 9 ∨ row = 10 ∨ row = 16 ∨ row = 17 ∨ row = 18) ∨ k < 8 * c ∨ 8 * c + 8 ≤ k) → M' row k = M row k)
    (fun r => ∃ M', r = some (nI (8 * c + 8), M') ∧ (∀ p, p < 8 → M' 9 (8 * c + p) = M 8 (8 * c + p) ∧ M' 10 (8 * c + p) = 0 ∧ M' 16 (8 * c + p) = 0 ∧ M' 17 (8 * c + p) = 0 ∧ M' 18 (8 * c + p) = 0) ∧ ∀ row k, (¬ (row = 9 ∨ row = 10 ∨ row = 16 ∨ row = 17 ∨ row = 18) ∨ k < 8 * c ∨ 8 * c + 8 ≤ k) → M' row k = M row k)
    (fun n M' h => ⟨M', by
      show f_X9_start_L49 (nI c) (n + 1) (nI (8 * c + 8)) M' = _
      rw [f_X9_start_L49, n_8, e8, if_pos (Int32.le_refl _)], h⟩)
    (fun n i M' hi h => by
      have i16 : inb (nI (8 * c + i)) 16 = true := inb_t (by omega) (by omega)
      have x16 : ix (nI (8 * c + i)) = 8 * c + i := ix_nI (by omega)
      have hn : ¬ nI (8 * c + 8) ≤ nI (8 * c + i) := fun e => absurd ((le_nI (by omega) (by omega)).mp e) (by omega)
      have hu : M' 8 (8 * c + i) = M 8 (8 * c + i) := h.2 8 _ (Or.inl (by omega))
      refine ⟨ks (ks (ks (ks (ks M' 9 (8 * c + i) (M 8 (8 * c + i))) 10 (8 * c + i) 0) 16 (8 * c + i) 0) 17 (8 * c + i) 0) 18 (8 * c + i) 0, ?_, fun p hp => ?_, fun row k hr => ?_⟩
      · show f_X9_start_L49 (nI c) (n + 1) (nI (8 * c + i)) M' = _
        rw [f_X9_start_L49, n_8, e8, if_neg hn]
        simp only [i16, x16, if_true, st, lt, nar_0, n_a1, hu, z01_nar (hz i hi)]
      · by_cases hpi : p = i
        · subst hpi
          simp [ks]
        · obtain ⟨a1, a2, a3, a4, a5⟩ := h.1 p (by omega)
          refine ⟨?_, ?_, ?_, ?_, ?_⟩ <;> (repeat rw [ks_n (by omega)]) <;> assumption
      · (repeat rw [ks_n (by omega)])
        exact h.2 row k hr) 8 0 70 M rfl (by omega) ⟨fun p hp => absurd hp (by omega), fun _ _ _ => rfl⟩
  exact H
/-- what a start needs -/
def PS (b c : Nat) (K M : Mem) : Prop := rTab b c K M ∧ rUse b c K M ∧ rDet b c K M ∧ rLnk b c K M ∧ rInp b c K M ∧ K b 9 = M 3 c ∧ z01 (K b 15) ∧ (¬ K b 10 = 0) ∧ (∀ r, r < 2 → K (b + 16 + r) 5 = M 22 (2 * c + r) ∧ K (b + 16 + r) 6 = M 23 (2 * c + r) ∧ K (b + 16 + r) 7 = M 24 (2 * c + r) ∧ ∃ n, n ≤ 99 ∧ M 24 (2 * c + r) = nI n) ∧ ∀ p, p < 8 → K (b + 18) p = M 14 (8 * c + p) ∧ ∃ n, n < 4 ∧ M 14 (8 * c + p) = nI n
theorem PS_of (h : RC b c K M) (hu : ¬ K b 10 = 0) : PS b c K M := by
  obtain ⟨h1, h2, h3, h4, h5, h6, h7, h8, h9, h10, h11⟩ := h
  refine ⟨h1, h2, h4, h5, h6, h7.1, h7.2.2.2.2.2.2.1, hu, fun r hr => ?_, fun p hp => ⟨(h11.2 p hp).2.2.2.2.1, (h11.2 p hp).2.2.2.2.2⟩⟩
  rcases (show r = 0 ∨ r = 1 by omega) with rfl | rfl
  · exact ⟨h9.2.2.1, h9.2.2.2.1, h9.2.2.2.2.1, h9.2.2.2.2.2.1⟩
  · exact ⟨h10.2.2.1, h10.2.2.2.1, h10.2.2.2.2.1, h10.2.2.2.2.2.1⟩
theorem s_start (hbc : BC b c) (hc : c < 2) (h : PS b c K M) : ∃ K' M', f_X0_start b K = some K' ∧ f_X9_start (nI c) M = some M' ∧ RC b c K' M' ∧ oK b K K' ∧ oM c M M' ∧ K' b 10 = K b 10 ∧ M' 0 0 = M 0 0 := by
  obtain ⟨hT, hU, hD, hL, hI, h9, h15, hu, hRg, hF⟩ := h
  -- the class
  obtain ⟨K', eK, k1, k2⟩ := C_anewL (b + 12) (ks (ks (ks (ks (ks (ks (ks (ks (ks (ks (ks (ks (ks K b 11 0) (b + 16) 0 (-1)) (b + 16) 1 (-1)) (b + 16) 4 0) (b + 16) 8 0) (b + 17) 0 (-1)) (b + 17) 1 (-1)) (b + 17) 4 0) (b + 17) 8 0) b 12 1) b 13 (K b 10)) b 14 0) (b + 12) 3 0)
  have fK : f_X0_start b K = some K' := by
    have e10 : (ks (ks (ks (ks (ks (ks (ks (ks (ks (ks K b 11 0) (b + 16) 0 (-1)) (b + 16) 1 (-1)) (b + 16) 4 0) (b + 16) 8 0) (b + 17) 0 (-1)) (b + 17) 1 (-1)) (b + 17) 4 0) (b + 17) 8 0) b 12 1) b 10 = K b 10 := by
      (repeat rw [ks_n (by omega)])
    simp only [f_X0_start, st, f_X6_rest, ob, f_X4_beginAnew, lt, e10]
    rw [eK, ob]
    rfl
  -- the reference
  obtain ⟨M', eM, m1, m2⟩ := M_startL hc (ks (ks (ks (ks (ks (ks (ks (ks (ks (ks (ks (ks M 4 c 0) 5 c 0) 6 c 1) 7 c 0) 19 (2 * c) 0) 20 (2 * c) (-1)) 21 (2 * c) (-1)) 25 (2 * c) 0) 19 (2 * c + 1) 0) 20 (2 * c + 1) (-1)) 21 (2 * c + 1) (-1)) 25 (2 * c + 1) 0) (fun p hp => by
    (repeat rw [ks_n (by omega)])
    exact (hU.2 p hp).1)
  have fM : f_X9_start (nI c) M = some M' := by
    have i2 : inb (nI c) 2 = true := inb_t hc (by omega)
    have x2 : ix (nI c) = c := ix_nI (by omega)
    simp only [f_X9_start, i2, x2, if_true, st, lt, nar_0, n_2, n_a1, n_8, M_stop (show 2 * c < 4 by omega), M_stop (show 2 * c + 1 < 4 by omega), ob]
    rw [eM, ob]
  -- readings
  have kb : ∀ i k, i < 12 → i ≠ 0 → K' (b + i) k = K (b + i) k := fun i k hi h0 => by
    rw [k2 _ _ (by omega) (by omega)]
    (repeat rw [ks_n (by omega)])
  have kc : ∀ k, k ≠ 11 → k ≠ 12 → k ≠ 13 → k ≠ 14 → K' b k = K b k := fun k e1 e2 e3 e4 => by
    rw [k2 _ _ (by omega) (by omega)]
    (repeat rw [ks_n (by omega)])
  have k18 : ∀ k, K' (b + 18) k = K (b + 18) k := fun k => by
    rw [k2 _ _ (by omega) (by omega)]
    (repeat rw [ks_n (by omega)])
  have k11 : K' b 11 = 0 := by rw [k2 _ _ (by omega) (by omega)]; simp [ks]
  have k12 : K' b 12 = 1 := by rw [k2 _ _ (by omega) (by omega)]; simp [ks]
  have k13 : K' b 13 = K b 10 := by rw [k2 _ _ (by omega) (by omega)]; simp [ks]
  have k14 : K' b 14 = 0 := by rw [k2 _ _ (by omega) (by omega)]; simp [ks]
  have k123 : K' (b + 12) 3 = 0 := by rw [k2 _ _ (by omega) (by omega)]; simp [ks]
  have kr : ∀ r, r < 2 → K' (b + 16 + r) 0 = -1 ∧ K' (b + 16 + r) 1 = -1 ∧ K' (b + 16 + r) 4 = 0 ∧ K' (b + 16 + r) 8 = 0 ∧ K' (b + 16 + r) 5 = K (b + 16 + r) 5 ∧ K' (b + 16 + r) 6 = K (b + 16 + r) 6 ∧ K' (b + 16 + r) 7 = K (b + 16 + r) 7 := fun r hr => by
    rcases (show r = 0 ∨ r = 1 by omega) with rfl | rfl
    · refine ⟨?_, ?_, ?_, ?_, ?_, ?_, ?_⟩ <;> rw [k2 _ _ (by omega) (by omega)] <;> simp [ks]
    · show K' (b + 17) 0 = -1 ∧ K' (b + 17) 1 = -1 ∧ K' (b + 17) 4 = 0 ∧ K' (b + 17) 8 = 0 ∧ K' (b + 17) 5 = K (b + 17) 5 ∧ K' (b + 17) 6 = K (b + 17) 6 ∧ K' (b + 17) 7 = K (b + 17) 7
      refine ⟨?_, ?_, ?_, ?_, ?_, ?_, ?_⟩ <;> rw [k2 _ _ (by omega) (by omega)] <;> simp [ks]
  have mm : ∀ row k, row ≠ 9 → row ≠ 10 → row ≠ 16 → row ≠ 17 → row ≠ 18 → row ≠ 4 → row ≠ 5 → row ≠ 6 → row ≠ 7 → row ≠ 19 → row ≠ 20 → row ≠ 21 → row ≠ 25 → M' row k = M row k := fun row k _ _ _ _ _ _ _ _ _ _ _ _ _ => by
    rw [m2 _ _ (Or.inl (by omega))]
    (repeat rw [ks_n (by omega)])
  have m9 : ∀ p, p < 8 → M' 9 (8 * c + p) = M 8 (8 * c + p) := fun p hp => by
    rw [(m1 p hp).1]
    (repeat rw [ks_n (by omega)])
  have m4 : M' 4 c = 0 := by rw [m2 _ _ (Or.inl (by omega))]; simp [ks]
  have m5 : M' 5 c = 0 := by rw [m2 _ _ (Or.inl (by omega))]; simp [ks]
  have m6 : M' 6 c = 1 := by rw [m2 _ _ (Or.inl (by omega))]; simp [ks]
  have m7 : M' 7 c = 0 := by rw [m2 _ _ (Or.inl (by omega))]; simp [ks]
  have mr : ∀ r, r < 2 → M' 19 (2 * c + r) = 0 ∧ M' 20 (2 * c + r) = -1 ∧ M' 25 (2 * c + r) = 0 := fun r hr => by
    rcases (show r = 0 ∨ r = 1 by omega) with rfl | rfl
    · refine ⟨?_, ?_, ?_⟩ <;> rw [m2 _ _ (Or.inl (by omega))] <;> simp [ks]
    · refine ⟨?_, ?_, ?_⟩ <;> rw [m2 _ _ (Or.inl (by omega))] <;> simp [ks]
  have m8 : ∀ p, M' 8 p = M 8 p := fun p => mm 8 p (by omega) (by omega) (by omega) (by omega) (by omega) (by omega) (by omega) (by omega) (by omega) (by omega) (by omega) (by omega) (by omega)
  have ring : ∀ r, r < 2 → rRing b c r K' M' := fun r hr => by
    obtain ⟨a0, a1, a4, a8, a5, a6, a7⟩ := kr r hr
    obtain ⟨s19, s20, s25⟩ := mr r hr
    obtain ⟨q1, q2, q3, n, hn, q4⟩ := hRg r hr
    have e22 : M' 22 (2 * c + r) = M 22 (2 * c + r) := mm 22 _ (by omega) (by omega) (by omega) (by omega) (by omega) (by omega) (by omega) (by omega) (by omega) (by omega) (by omega) (by omega) (by omega)
    have e23 : M' 23 (2 * c + r) = M 23 (2 * c + r) := mm 23 _ (by omega) (by omega) (by omega) (by omega) (by omega) (by omega) (by omega) (by omega) (by omega) (by omega) (by omega) (by omega) (by omega)
    have e24 : M' 24 (2 * c + r) = M 24 (2 * c + r) := mm 24 _ (by omega) (by omega) (by omega) (by omega) (by omega) (by omega) (by omega) (by omega) (by omega) (by omega) (by omega) (by omega) (by omega)
    refine ⟨⟨0, by omega, s19, a4⟩, by rw [a0, s20], by rw [a5, e22, q1], by rw [a6, e23, q2], by rw [a7, e24, q3], ⟨n, hn, by rw [e24, q4]⟩, fun _ => s20, fun e => absurd s19 e, ⟨0, by omega, s25, a8⟩, fun e => absurd s25 e⟩
  refine ⟨K', M', fK, fM, ⟨?_, ?_, ?_, ?_, ?_, ?_, ?_, ?_, ring 0 (by omega), ring 1 (by omega), ?_⟩, ?_, ?_, kc 10 (by omega) (by omega) (by omega) (by omega), mm 0 0 (by omega) (by omega) (by omega) (by omega) (by omega) (by omega) (by omega) (by omega) (by omega) (by omega) (by omega) (by omega) (by omega)⟩
  · exact rTab_f (fun k => kb 2 k (by omega) (by omega)) (fun k => kb 4 k (by omega) (by omega)) (fun i _ => mm 1 _ (by omega) (by omega) (by omega) (by omega) (by omega) (by omega) (by omega) (by omega) (by omega) (by omega) (by omega) (by omega) (by omega)) (fun i _ => mm 2 _ (by omega) (by omega) (by omega) (by omega) (by omega) (by omega) (by omega) (by omega) (by omega) (by omega) (by omega) (by omega) (by omega)) hT
  · exact rUse_f (kc 10 (by omega) (by omega) (by omega) (by omega)) (fun i _ => m8 _) (fun i _ => mm 2 _ (by omega) (by omega) (by omega) (by omega) (by omega) (by omega) (by omega) (by omega) (by omega) (by omega) (by omega) (by omega) (by omega)) hU
  · refine ⟨?_, ?_, fun p hp => ?_⟩
    · rw [k13]
      exact mk_congr hU.1 (fun i hi => by unfold one; rw [m9 i hi])
    · rw [k14]
      exact mk_congr mk_0 (fun i hi => by unfold one; rw [(m1 i hi).2.1]; rfl)
    · rw [m9 p hp, (m1 p hp).2.1, m8]
      exact ⟨(hU.2 p hp).1, Or.inl rfl, fun e => e, fun e => absurd e (by decide)⟩
  · exact rDet_f (fun k => kb 5 k (by omega) (by omega)) (fun k => kb 6 k (by omega) (by omega)) (fun k => kb 7 k (by omega) (by omega)) (fun i _ => mm 11 _ (by omega) (by omega) (by omega) (by omega) (by omega) (by omega) (by omega) (by omega) (by omega) (by omega) (by omega) (by omega) (by omega)) (fun i _ => mm 12 _ (by omega) (by omega) (by omega) (by omega) (by omega) (by omega) (by omega) (by omega) (by omega) (by omega) (by omega) (by omega) (by omega)) (fun i _ => mm 13 _ (by omega) (by omega) (by omega) (by omega) (by omega) (by omega) (by omega) (by omega) (by omega) (by omega) (by omega) (by omega) (by omega)) hD
  · exact rLnk_f (fun k => kb 8 k (by omega) (by omega)) (fun j _ e => by rw [mm 29 _ (by omega) (by omega) (by omega) (by omega) (by omega) (by omega) (by omega) (by omega) (by omega) (by omega) (by omega) (by omega) (by omega)]; exact e) (mm 32 _ (by omega) (by omega) (by omega) (by omega) (by omega) (by omega) (by omega) (by omega) (by omega) (by omega) (by omega) (by omega) (by omega)) (mm 33 _ (by omega) (by omega) (by omega) (by omega) (by omega) (by omega) (by omega) (by omega) (by omega) (by omega) (by omega) (by omega) (by omega)) (mm 34 _ (by omega) (by omega) (by omega) (by omega) (by omega) (by omega) (by omega) (by omega) (by omega) (by omega) (by omega) (by omega) (by omega)) (mm 35 _ (by omega) (by omega) (by omega) (by omega) (by omega) (by omega) (by omega) (by omega) (by omega) (by omega) (by omega) (by omega) (by omega)) hL
  · exact rInp_f (fun k => kb 10 k (by omega) (by omega)) (fun k => kb 11 k (by omega) (by omega)) (fun i _ => mm 27 _ (by omega) (by omega) (by omega) (by omega) (by omega) (by omega) (by omega) (by omega) (by omega) (by omega) (by omega) (by omega) (by omega)) (fun i _ => mm 28 _ (by omega) (by omega) (by omega) (by omega) (by omega) (by omega) (by omega) (by omega) (by omega) (by omega) (by omega) (by omega) (by omega)) hI
  · refine ⟨?_, by rw [k11, m5], by rw [k12, m6], by rw [m6]; exact Or.inr rfl, ?_, by rw [m7]; exact Or.inl rfl, ?_, ⟨0, by omega, m5⟩, fun e => absurd m5 e⟩
    · rw [kc 9 (by omega) (by omega) (by omega) (by omega), h9]
      exact (mm 3 _ (by omega) (by omega) (by omega) (by omega) (by omega) (by omega) (by omega) (by omega) (by omega) (by omega) (by omega) (by omega) (by omega)).symm
    · rw [m4, kc 10 (by omega) (by omega) (by omega) (by omega), decide_eq_false hu]
      rfl
    · rw [kc 15 (by omega) (by omega) (by omega) (by omega)]
      exact h15
  · exact Or.inr ⟨m7, fun p hp e => by rw [m9 p hp]; rw [m8] at e; exact e, (mr 0 (by omega)).1, (mr 1 (by omega)).1⟩
  · refine ⟨by rw [k123]; exact Or.inl rfl, fun p hp => ?_⟩
    have e14 : K' (b + 14) p = 0 := (k1 p hp).1
    have e15 : K' (b + 15) p = 0 := (k1 p hp).2
    obtain ⟨-, -, q16, q17, q18⟩ := m1 p hp
    rw [e14, e15, k18, q16, q17, q18, k123]
    refine ⟨rfl, ⟨Or.inl rfl, fun _ => rfl⟩, by decide, fun _ => by simp [bi], ?_, ?_⟩
    · rw [mm 14 _ (by omega) (by omega) (by omega) (by omega) (by omega) (by omega) (by omega) (by omega) (by omega) (by omega) (by omega) (by omega) (by omega)]
      exact (hF p hp).1
    · rw [mm 14 _ (by omega) (by omega) (by omega) (by omega) (by omega) (by omega) (by omega) (by omega) (by omega) (by omega) (by omega) (by omega) (by omega)]
      exact (hF p hp).2
  · intro i k hi
    rw [k2 _ _ (by omega) (by omega)]
    (repeat rw [ks_n (by omega)])
  · intro row k hn
    rw [m2 _ _ (by unfold slc at hn; omega)]
    (repeat rw [ks_n (by unfold slc at hn; omega)])
theorem s_reset (h : RR T K M) (x : Int32) : ∃ r K' M', f_X8_reset x K = some (r, K') ∧ f_X9_reset x M = some (r, M') ∧ RR T K' M' := by
  have h0 := RR_code 0 h
  rcases cr_cases x with ⟨b, c, hbc, rfl, hc, hb⟩ | hn
  · have hR := RR_in hbc h0
    generalize hM0 : ks M 0 0 0 = M0 at h0 hR
    have i2 : inb (nI c) 2 = true := inb_t hc (by omega)
    have x2 : ix (nI c) = c := ix_nI (by omega)
    have e11 := hR.2.2.2.2.2.2.1.2.1
    by_cases hw : M0 5 c = 0
    · exact ⟨0, K, M0, by simp [f_X8_reset, hb, oc, e11, hw], by simp [f_X9_reset, st, hM0, M_isCr hc, i2, x2, hw], h0⟩
    · obtain ⟨K', M', e1, e2, h1, h2, h3, -, -⟩ := s_start hbc hc (PS_of hR (hR.2.2.2.2.2.2.1.2.2.2.2.2.2.2.2 hw))
      exact ⟨1, K', M', by simp [f_X8_reset, hb, oc, e11, hw, e1], by simp [f_X9_reset, st, hM0, M_isCr hc, i2, x2, hw, e2], RR_up hbc h0 h2 h3 h1⟩
  · exact ⟨0, K, ks M 0 0 0, by simp [f_X8_reset, (hn K M).1, oc], by simp [f_X9_reset, st, (hn K _).2], h0⟩
end St
