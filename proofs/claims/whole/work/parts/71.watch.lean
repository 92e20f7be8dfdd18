/-! A TICK, (g): the monitor of both -/
section Wb
variable {b c : Nat} {K K' M M' : Mem}
theorem mon_RC {v : Nat} (hv : v < 4) (h : RQ b c K M) (hu : ¬ K b 10 = 0) (hK : ∀ i k, i ≠ b + 13 → i ≠ b + 14 → i ≠ b + 15 → ¬ (i = b + 12 ∧ k = 3) → ¬ (i = b ∧ k = 11) → K' i k = K i k) (hM : ∀ row k, (row < 15 ∨ 18 < row) → ¬ (row = 5 ∧ k = c) → M' row k = M row k) (k11 : K' b 11 = nI v) (m5 : M' 5 c = nI v) (hm : rMon b c K' M') : RQ b c K' M' := by
  have k0 : ∀ i, i ≠ 0 → i ≠ 12 → i ≠ 13 → i ≠ 14 → i ≠ 15 → sK b i K K' := fun i _ _ _ _ _ k => hK _ k (by omega) (by omega) (by omega) (by omega) (by omega)
  have kb : ∀ k, k ≠ 11 → K' b k = K b k := fun k hk => hK b k (by omega) (by omega) (by omega) (by omega) (by omega)
  have m : ∀ row, (row < 15 ∨ 18 < row) → row ≠ 5 → ∀ k, M' row k = M row k := fun row h h5 k => hM row k h (by omega)
  obtain ⟨⟨a1, a2, a3, a4, a5, a6, a7, a8, a9, a10, a11⟩, hH⟩ := h
  have hH' : K' b 15 = M' 7 c := by rw [kb 15 (by omega), m 7 (by omega) (by omega)]; exact hH
  refine ⟨⟨rTab_f (k0 2 (by omega) (by omega) (by omega) (by omega) (by omega)) (k0 4 (by omega) (by omega) (by omega) (by omega) (by omega)) (fun i _ => m 1 (by omega) (by omega) _) (fun i _ => m 2 (by omega) (by omega) _) a1,
    rUse_f (kb 10 (by omega)) (fun i _ => m 8 (by omega) (by omega) _) (fun i _ => m 2 (by omega) (by omega) _) a2,
    rCal_f (kb 13 (by omega)) (kb 14 (by omega)) (fun i _ => m 8 (by omega) (by omega) _) (fun i _ => m 9 (by omega) (by omega) _) (fun i _ => m 10 (by omega) (by omega) _) a3,
    rDet_f (k0 5 (by omega) (by omega) (by omega) (by omega) (by omega)) (k0 6 (by omega) (by omega) (by omega) (by omega) (by omega)) (k0 7 (by omega) (by omega) (by omega) (by omega) (by omega)) (fun i _ => m 11 (by omega) (by omega) _) (fun i _ => m 12 (by omega) (by omega) _) (fun i _ => m 13 (by omega) (by omega) _) a4,
    rLnk_f (k0 8 (by omega) (by omega) (by omega) (by omega) (by omega)) (fun j _ e => by rw [m 29 (by omega) (by omega)]; exact e) (m 32 (by omega) (by omega) _) (m 33 (by omega) (by omega) _) (m 34 (by omega) (by omega) _) (m 35 (by omega) (by omega) _) a5,
    rInp_f (k0 10 (by omega) (by omega) (by omega) (by omega) (by omega)) (k0 11 (by omega) (by omega) (by omega) (by omega) (by omega)) (fun i _ => m 27 (by omega) (by omega) _) (fun i _ => m 28 (by omega) (by omega) _) a6, ?_, Or.inl hH',
    rRing_f (by omega) (fun j => k0 16 (by omega) (by omega) (by omega) (by omega) (by omega) j) (fun i _ => m 8 (by omega) (by omega) _) (m 6 (by omega) (by omega) _) (fun row h1 h2 => m row (by omega) (by omega) _) a9,
    rRing_f (by omega) (fun j => k0 17 (by omega) (by omega) (by omega) (by omega) (by omega) j) (fun i _ => m 8 (by omega) (by omega) _) (m 6 (by omega) (by omega) _) (fun row h1 h2 => m row (by omega) (by omega) _) a10, hm⟩, hH'⟩
  unfold rSc
  obtain ⟨e1, e2, e3, e4, e5, e6, e7, e8, e9⟩ := a7
  rw [kb 9 (by omega), kb 10 (by omega), k11, kb 12 (by omega), kb 15 (by omega), m 3 (by omega) (by omega), m 4 (by omega) (by omega), m5, m 6 (by omega) (by omega), m 7 (by omega) (by omega)]
  exact ⟨e1, rfl, e3, e4, e5, e6, e7, ⟨v, hv, rfl⟩, fun _ => hu⟩
theorem q_zero (h : RQ b c K M) (hM : ∀ row k, row ≠ 9 → row ≠ 10 → M' row k = M row k) (hz : ∀ p, p < 8 → M' 9 (8 * c + p) = 0 ∧ M' 10 (8 * c + p) = 0) : RQ b c (ks (ks K b 13 0) b 14 0) M' := by
  have kb : ∀ k, k ≠ 13 → k ≠ 14 → (ks (ks K b 13 0) b 14 0) b k = K b k := fun k h1 h2 => by rw [ks_k h2, ks_k h1]
  have k0 : ∀ i, 1 ≤ i → sK b i K (ks (ks K b 13 0) b 14 0) := fun i hi k => by rw [ks_i (by omega), ks_i (by omega)]
  have k13 : (ks (ks K b 13 0) b 14 0) b 13 = 0 := by rw [ks_k (by omega), ks_s]
  have k14 : (ks (ks K b 13 0) b 14 0) b 14 = 0 := ks_s _ _ _ _
  generalize ks (ks K b 13 0) b 14 0 = K2 at *
  have m : ∀ row, row ≠ 9 → row ≠ 10 → ∀ k, M' row k = M row k := fun row h1 h2 k => hM row k h1 h2
  obtain ⟨⟨a1, a2, a3, a4, a5, a6, a7, a8, a9, a10, a11⟩, hH⟩ := h
  have hH' : K2 b 15 = M' 7 c := by rw [kb 15 (by omega) (by omega), m 7 (by omega) (by omega)]; exact hH
  refine ⟨⟨rTab_f (k0 2 (by omega)) (k0 4 (by omega)) (fun i _ => m 1 (by omega) (by omega) _) (fun i _ => m 2 (by omega) (by omega) _) a1,
    rUse_f (kb 10 (by omega) (by omega)) (fun i _ => m 8 (by omega) (by omega) _) (fun i _ => m 2 (by omega) (by omega) _) a2, ⟨?_, ?_, fun p hp => ?_⟩,
    rDet_f (k0 5 (by omega)) (k0 6 (by omega)) (k0 7 (by omega)) (fun i _ => m 11 (by omega) (by omega) _) (fun i _ => m 12 (by omega) (by omega) _) (fun i _ => m 13 (by omega) (by omega) _) a4,
    rLnk_f (k0 8 (by omega)) (fun j _ e => by rw [m 29 (by omega) (by omega)]; exact e) (m 32 (by omega) (by omega) _) (m 33 (by omega) (by omega) _) (m 34 (by omega) (by omega) _) (m 35 (by omega) (by omega) _) a5,
    rInp_f (k0 10 (by omega)) (k0 11 (by omega)) (fun i _ => m 27 (by omega) (by omega) _) (fun i _ => m 28 (by omega) (by omega) _) a6,
    rSc_f (kb 9 (by omega) (by omega)) (kb 10 (by omega) (by omega)) (kb 11 (by omega) (by omega)) (kb 12 (by omega) (by omega)) (kb 15 (by omega) (by omega)) (m 3 (by omega) (by omega) _) (m 4 (by omega) (by omega) _) (m 5 (by omega) (by omega) _) (m 6 (by omega) (by omega) _) (m 7 (by omega) (by omega) _) a7,
    Or.inl hH',
    rRing_f (by omega) (fun j => k0 16 (by omega) j) (fun i _ => m 8 (by omega) (by omega) _) (m 6 (by omega) (by omega) _) (fun row h1 h2 => m row (by omega) (by omega) _) a9,
    rRing_f (by omega) (fun j => k0 17 (by omega) j) (fun i _ => m 8 (by omega) (by omega) _) (m 6 (by omega) (by omega) _) (fun row h1 h2 => m row (by omega) (by omega) _) a10,
    rMon_f (k0 12 (by omega) 3) (k0 14 (by omega)) (k0 15 (by omega)) (k0 18 (by omega)) (m 5 (by omega) (by omega) _) (fun i _ => m 8 (by omega) (by omega) _) (fun i _ => m 14 (by omega) (by omega) _) (fun i _ => m 16 (by omega) (by omega) _) (fun i _ => m 17 (by omega) (by omega) _) (fun i _ => m 18 (by omega) (by omega) _) a11⟩, hH'⟩
  · rw [k13]
    exact mk_congr mk_0 (fun i hi => by unfold one; rw [(hz i hi).1]; rfl)
  · rw [k14]
    exact mk_congr mk_0 (fun i hi => by unfold one; rw [(hz i hi).2]; rfl)
  · rw [(hz p hp).1, (hz p hp).2]
    exact ⟨Or.inl rfl, Or.inl rfl, fun e => absurd e (by decide), fun e => absurd e (by decide)⟩
theorem M_zeroL (hc : c < 2) {x y : Int32} : ∃ z M', f_X9_watch_L110 (nI c) x y 70 (nI (8 * c)) M = some (z, M') ∧ (∀ row k, row ≠ 9 → row ≠ 10 → M' row k = M row k) ∧ (∀ row k, (k < 8 * c ∨ 8 * c + 8 ≤ k) → M' row k = M row k) ∧ ∀ p, p < 8 → M' 9 (8 * c + p) = 0 ∧ M' 10 (8 * c + p) = 0 := by
  have key := loop1 (fun n i M => f_X9_watch_L110 (nI c) x y n i M) (8 * c) 8 (fun i M' => (∀ row k, row ≠ 9 → row ≠ 10 → M' row k = M row k) ∧ (∀ row k, (k < 8 * c ∨ 8 * c + 8 ≤ k) → M' row k = M row k) ∧ ∀ p, p < i → M' 9 (8 * c + p) = 0 ∧ M' 10 (8 * c + p) = 0)
    (fun o => ∃ z M', o = some (z, M') ∧ (∀ row k, row ≠ 9 → row ≠ 10 → M' row k = M row k) ∧ (∀ row k, (k < 8 * c ∨ 8 * c + 8 ≤ k) → M' row k = M row k) ∧ ∀ p, p < 8 → M' 9 (8 * c + p) = 0 ∧ M' 10 (8 * c + p) = 0)
    (fun n M' hP => ⟨_, M', by show f_X9_watch_L110 (nI c) x y (n + 1) (nI (8 * c + 8)) M' = _; rw [f_X9_watch_L110, n_8, n_a8, if_pos ((le_nI (by omega) (by omega)).mpr (by omega))], hP⟩)
    (fun n i M' hi hP => by
      obtain ⟨p1, p2, p3⟩ := hP
      have hle : ¬ nI (8 * c + 8) ≤ nI (8 * c + i) := fun e => absurd ((le_nI (by omega) (by omega)).mp e) (by omega)
      refine ⟨ks (ks M' 9 (8 * c + i) 0) 10 (8 * c + i) 0, ?_, fun row k h1 h2 => by rw [ks_i h2, ks_i h1]; exact p1 row k h1 h2, fun row k hk => by rw [ks_k (by omega), ks_k (by omega)]; exact p2 row k hk, fun p hp => ?_⟩
      · show f_X9_watch_L110 (nI c) x y (n + 1) (nI (8 * c + i)) M' = f_X9_watch_L110 (nI c) x y n (nI (8 * c + i + 1)) _
        rw [f_X9_watch_L110, n_8, n_a8, if_neg hle]
        simp only [inb_t (show 8 * c + i < 16 by omega) (show 16 < 2147483648 by omega), if_true, ix_nI (show 8 * c + i < 2147483648 by omega), st, lt, n_a1, nar_0]
      · rcases Nat.lt_or_ge p i with hlt | hge
        · rw [ks_k (by omega), ks_k (by omega), ks_k (by omega), ks_k (by omega)]
          exact p3 p hlt
        · have : p = i := by omega
          subst this
          exact ⟨by rw [ks_i (by omega), ks_s], ks_s _ _ _ _⟩)
    8 0 70 M rfl (by omega) ⟨fun _ _ _ _ => rfl, fun _ _ _ => rfl, fun p hp => absurd hp (by omega)⟩
  exact key
theorem s_watch (hc : c < 2) (h : RQ b c K M) (h5 : M 5 c = 0) (hu : ¬ K b 10 = 0) : ∃ K' M', f_X0_watch b K = some K' ∧ f_X9_watch (nI c) M = some M' ∧ RC b c K' M' ∧ oK b K K' ∧ oM c M M' := by
  have i2 : inb (nI c) 2 = true := inb_t hc (by omega)
  have x2 : ix (nI c) = c := ix_nI (by omega)
  have h11 : K b 11 = 0 := by rw [h.1.2.2.2.2.2.2.1.2.1]; exact h5
  have hF : ∀ p, p < 8 → ∃ n, n < 4 ∧ M 14 (8 * c + p) = nI n := fun p hp => (h.1.2.2.2.2.2.2.2.2.2.2.2 p hp).2.2.2.2.2
  have hMon := h.1.2.2.2.2.2.2.2.2.2.2
  -- they see
  obtain ⟨y1, K1, e1, a1, a2⟩ := C_seeL h.1 h11
  obtain ⟨y2, M1, e2, b1, b2, b3⟩ := M_seeL (M := M) hc hF
  -- the class looks
  have hU := h.1.2.1
  have k10 : K1 b 10 = K b 10 := a1 b 10 (by omega)
  have hlv : ∀ p, p < 8 → lampv (lam M c p) := fun p hp => lam_v (hF p hp)
  have s13 : ∀ p, p < 8 → K1 (b + 12 + 1) p = lam M c p := a2
  have s14 : ∀ p, p < 8 → K1 (b + 12 + 2) p = K (b + 14) p := fun p _ => a1 (b + 14) p (by omega)
  have s15 : ∀ p, p < 8 → K1 (b + 12 + 3) p = K (b + 15) p := fun p _ => a1 (b + 15) p (by omega)
  have s12 : K1 (b + 12) 3 = K (b + 12) 3 := a1 (b + 12) 3 (by omega)
  have c1 := C_conf hU.1 s13
  have c2 := C_dark hU.1 s12 s13 s14
  have c3 := C_short hU.1 s13 s14 s15
  obtain ⟨K2, c4, c5, c6, c7⟩ := C_rem s13 s15
  -- the reference looks
  obtain ⟨M2, d1, d2, d3, d4⟩ := M_dark (M := M1) hc
  obtain ⟨M3, f1, f2, f3, f4⟩ := M_short (M := M2) hc
  have g1 := M_conf (M := M3) hc
  have m15 : ∀ p, p < 8 → M3 15 (8 * c + p) = lam M c p := fun p hp => by rw [f2 15 _ (by omega) (by omega), d2 15 _ (by omega)]; exact b3 p hp
  have m15' : ∀ p, p < 8 → M2 15 (8 * c + p) = lam M c p := fun p hp => by rw [d2 15 _ (by omega)]; exact b3 p hp
  -- the three agree
  have hzU : ∀ p, p < 8 → one M 8 (8 * c + p) = false → lam M c p = 0 := fun p hp e => by
    unfold one at e
    rw [one_z (hU.2 p hp).1] at e
    have e0 : M 8 (8 * c + p) = 0 := by simpa using e
    unfold lam
    rw [if_pos e0]
  have q1 : anyf (fun p => anyf (Zc (fun p => M3 15 (8 * c + p)) p) p) 8 = anyf (fun p => anyf (fun q => decide (p + 1 ≤ q) && Yc (fun p => one M 8 (8 * c + p)) (fun p => lam M c p) p q) 8) 8 := by
    rw [cf_eq hlv hzU]
    refine anyf_congr 8 (fun p hp => anyf_congr p (fun q hq => ?_))
    unfold Zc
    simp only [m15 p hp, m15 q (by omega)]
  have dkv : ∀ p, p < 8 → dk M1 c p = if M 8 (8 * c + p) = 0 then 0 else if lam M c p = 0 then M 16 (8 * c + p) + 1 else 0 := fun p hp => by
    unfold dk
    rw [b1 8 _ (by omega), b3 p hp, b1 16 _ (by omega)]
  have q2 : anyf (fun p => !decide (dk M1 c p ≤ 1)) 8 = anyf (fun p => one M 8 (8 * c + p) && (!decide (K (b + 12) 3 = 0) && (decide (lam M c p = 0) && decide (K (b + 14) p = 0)))) 8 := by
    refine anyf_congr 8 (fun p hp => ?_)
    rw [dkv p hp]
    have h16 := (hMon.2 p hp).2.2.2.1 h5
    unfold one
    rcases (hU.2 p hp).1 with u | u
    · simp [u]
    · rw [h16, u]
      rcases hMon.1 with z | z
      · rw [z]
        by_cases l0 : lam M c p = 0 <;> simp [l0, bi]
      · rw [z]
        by_cases l0 : lam M c p = 0
        · by_cases k0 : K (b + 14) p = 0 <;> simp [l0, k0, bi]
        · simp [l0]
  have q3 : anyf (fun p => !decide (M2 17 (8 * c + p) = 0) && (decide (M2 15 (8 * c + p) ≤ 1) && !decide ((3 : Int32) ≤ yt (M2 15 (8 * c + p)) (M2 18 (8 * c + p))))) 8 = anyf (fun p => one M 8 (8 * c + p) && ((!decide (K (b + 14) p &&& 6 = 0) && decide (lam M c p &&& 6 = 0)) && !decide ((3 : Int32) ≤ K (b + 15) p))) 8 := by
    refine anyf_congr 8 (fun p hp => ?_)
    obtain ⟨r1, ⟨r2, r2'⟩, r3, -⟩ := hMon.2 p hp
    rw [d2 17 _ (by omega), b1 17 _ (by omega), m15' p hp, d2 18 _ (by omega), b1 18 _ (by omega), r3, r1]
    obtain ⟨l1, l2⟩ := lampv_gs (hlv p hp)
    unfold one
    rcases (hU.2 p hp).1 with u | u
    · have k0 := r2' u
      rw [k0, u]
      simp [bi]
    · rw [u]
      by_cases k6 : K (b + 14) p &&& 6 = 0
      · simp [k6, bi]
      · by_cases l6 : lam M c p &&& 6 = 0
        · have e1 := l1.mpr l6
          obtain ⟨l4, l22⟩ := l2 l6
          have ey : yt (lam M c p) (M 18 (8 * c + p)) = M 18 (8 * c + p) := by
            unfold yt
            rw [if_pos l4, if_pos l22]
          rw [ey]
          simp [k6, l6, e1, bi]
        · have e1 : ¬ lam M c p ≤ 1 := fun e => l6 (l1.mp e)
          simp [l6, e1]
  -- what is found
  generalize hCF : anyf (fun p => anyf (fun q => decide (p + 1 ≤ q) && Yc (fun p => one M 8 (8 * c + p)) (fun p => lam M c p) p q) 8) 8 = cf at c1 q1
  generalize hDK : anyf (fun p => one M 8 (8 * c + p) && (!decide (K (b + 12) 3 = 0) && (decide (lam M c p = 0) && decide (K (b + 14) p = 0)))) 8 = df at c2 q2
  generalize hSF : anyf (fun p => one M 8 (8 * c + p) && ((!decide (K (b + 14) p &&& 6 = 0) && decide (lam M c p &&& 6 = 0)) && !decide ((3 : Int32) ≤ K (b + 15) p))) 8 = sf at c3 q3
  rw [q1] at g1
  rw [q2] at d1
  rw [q3] at f1
  obtain ⟨v, hv, eC, eM, hdf⟩ : ∃ v, v < 4 ∧ (if bi cf = 0 then (if bi df = 0 then (if bi sf = 0 then some 0 else some 3) else some 2) else some 1 : Option Int32) = some (nI v) ∧ (if bi cf = 0 then (if bi df = 0 then (if bi sf = 0 then some 0 else some 3) else some 2) else some 1 : Option Int32) = some (nI v) ∧ (v = 0 → df = false) := by
    cases cf
    · cases df
      · cases sf
        · exact ⟨0, by omega, rfl, rfl, fun _ => rfl⟩
        · exact ⟨3, by omega, rfl, rfl, fun e => absurd e (by omega)⟩
      · exact ⟨2, by omega, rfl, rfl, fun e => absurd e (by omega)⟩
    · exact ⟨1, by omega, rfl, rfl, fun e => absurd e (by omega)⟩
  have look : f_X4_look (b + 12) (K1 b 10) K1 = some (nI v, K2) := by
    unfold f_X4_look
    simp only [lt]
    rw [k10, c1, ob, c2, ob, c3, ob, c4, eC, ob, ob]
  -- the relation once more
  have hKf : ∀ i k, i ≠ b + 13 → i ≠ b + 14 → i ≠ b + 15 → ¬ (i = b + 12 ∧ k = 3) → ¬ (i = b ∧ k = 11) → ks K2 b 11 (nI v) i k = K i k := fun i k h1 h2 h3 h4 h5 => by
    rw [ks_n (by omega), c7 i k (by omega) (by omega) (by omega)]
    exact a1 i k h1
  have hMf : ∀ row k, (row < 15 ∨ 18 < row) → ¬ (row = 5 ∧ k = c) → ks M3 5 c (nI v) row k = M row k := fun row k h1 h2 => by
    rw [ks_n (by omega), f2 row k (by omega) (by omega), d2 row k (by omega)]
    exact b1 row k (by omega)
  have k14 : ∀ p, p < 8 → ks K2 b 11 (nI v) (b + 14) p = lam M c p := fun p hp => by
    rw [ks_i (by omega)]
    exact (c6 p hp).1
  have k15 : ∀ p, p < 8 → ks K2 b 11 (nI v) (b + 15) p = yt (lam M c p) (K (b + 15) p) := fun p hp => by
    rw [ks_i (by omega)]
    exact (c6 p hp).2
  have k12 : ks K2 b 11 (nI v) (b + 12) 3 = 1 := by rw [ks_i (by omega)]; exact c5
  have Q1 : RQ b c (ks K2 b 11 (nI v)) (ks M3 5 c (nI v)) := by
    refine mon_RC hv h hu hKf hMf (ks_s _ _ _ _) (ks_s _ _ _ _) ⟨by rw [k12]; exact Or.inr rfl, fun p hp => ?_⟩
    obtain ⟨r1, ⟨r2, r2'⟩, r3, r4, r5, r6⟩ := hMon.2 p hp
    rw [k14 p hp, k15 p hp, k12, hKf (b + 18) p (by omega) (by omega) (by omega) (by omega) (by omega), hMf 14 _ (by omega) (by omega), hMf 8 _ (by omega) (by omega), ks_s, ks_i (show (18 : Nat) ≠ 5 by omega), ks_i (show (17 : Nat) ≠ 5 by omega), ks_i (show (16 : Nat) ≠ 5 by omega)]
    obtain ⟨l1, l2⟩ := lampv_gs (hlv p hp)
    refine ⟨?_, ⟨hlv p hp, fun e => ?_⟩, ?_, fun e => ?_, r5, r6⟩
    · rw [(f4 p hp).1, m15' p hp, d2 18 _ (by omega), b1 18 _ (by omega), r1]
    · unfold lam
      rw [if_pos e]
    · rw [(f4 p hp).2, m15' p hp]
      by_cases l6 : lam M c p &&& 6 = 0
      · have := l1.mpr l6
        simp [l6, this]
      · have : ¬ lam M c p ≤ 1 := fun e => l6 (l1.mp e)
        simp [l6, this]
    · rw [f2 16 _ (by omega) (by omega), d4 p hp, dkv p hp]
      have hv0 : v = 0 := (nI_eq0 (by omega)).mp e
      have hd := hdf hv0
      rw [← hDK] at hd
      have hdp := anyf_f hd hp
      have h16 := r4 h5
      unfold one at hdp
      rcases (hU.2 p hp).1 with u | u
      · simp [u, bi]
      · rw [u] at hdp
        rw [h16, u]
        by_cases l0 : lam M c p = 0
        · rcases hMon.1 with z | z
          · rw [z]
            simp [l0, bi]
          · rw [z]
            rw [z] at hdp
            by_cases k0 : K (b + 14) p = 0
            · simp [l0, k0] at hdp
            · simp [l0, k0, bi]
        · simp [l0, bi]
  have oK1 : oK b K (ks K2 b 11 (nI v)) := fun i k hi => hKf i k (by omega) (by omega) (by omega) (by omega) (by omega)
  have oM1 : oM c M (ks M3 5 c (nI v)) := by
    intro row k hn
    have hz : ¬ (row = 5 ∧ k = c) := fun e => hn (by unfold slc; omega)
    by_cases h15 : row < 15 ∨ 18 < row
    · exact hMf row k h15 hz
    · have hk : k < 8 * c ∨ 8 * c + 8 ≤ k := by
        unfold slc at hn
        omega
      rw [ks_n (by omega), f3 row k hk]
      by_cases r16 : row = 16
      · subst r16
        rw [d3 k hk, b1 16 k (by omega)]
      · rw [d2 row k r16]
        by_cases r15 : row = 15
        · subst r15
          exact b2 k hk
        · exact b1 row k r15
  have eW : f_X9_watch (nI c) M = if nI v = 0 then some (ks M3 5 c (nI v)) else ((f_X9_stopRing (nI (2 * c)) (ks M3 5 c (nI v))).bind fun u20 => (f_X9_stopRing (nI (2 * c + 1)) u20).bind fun u22 => (f_X9_watch_L110 (nI c) (bi df) (bi sf) 70 (nI (8 * c)) u22).bind fun v28 => some v28.2) := by
    unfold f_X9_watch
    have e2' : f_X9_watch_L2 (nI c) 70 0 M = some (y2, M1) := e2
    simp only [lt, n_2, n_a1, n_8, i2, x2, if_true, st]
    rw [e2', ob, d1, ob, f1, ob, g1, ob, eM, ob]
    dsimp only
    rw [ks_s]
  have eK : f_X0_watch b K = if nI v = 0 then some K2 else ((f_X6_rest (b + 16) (ks K2 b 11 (nI v))).bind fun u13 => (f_X6_rest (b + 17) u13).bind fun u15 => some (ks (ks u15 b 13 0) b 14 0)) := by
    unfold f_X0_watch
    simp only [lt, st]
    rw [e1, ob]
    dsimp only
    rw [look, ob]
  rw [eW, eK]
  by_cases hv0 : nI v = 0
  · rw [if_pos hv0, if_pos hv0]
    have k2 : ks K2 b 11 (nI v) = K2 := ks_self (by rw [c7 b 11 (by omega) (by omega) (by omega), a1 b 11 (by omega), h11, hv0])
    rw [k2] at Q1 oK1
    exact ⟨K2, _, rfl, rfl, Q1.1, oK1, oM1⟩
  · rw [if_neg hv0, if_neg hv0]
    obtain ⟨Q2, u1, u2⟩ := q_stop (r := 0) (by omega) Q1
    obtain ⟨Q3, u3, u4⟩ := q_stop (r := 1) (by omega) Q2
    have t0 : f_X9_stopRing (nI (2 * c)) (ks M3 5 c (nI v)) = some (ks (ks (ks (ks (ks M3 5 c (nI v)) 19 (2 * c + 0) 0) 20 (2 * c + 0) (-1)) 21 (2 * c + 0) (-1)) 25 (2 * c + 0) 0) := M_stop (by omega)
    have t1 := M_stop (M := ks (ks (ks (ks (ks M3 5 c (nI v)) 19 (2 * c + 0) 0) 20 (2 * c + 0) (-1)) 21 (2 * c + 0) (-1)) 25 (2 * c + 0) 0) (show 2 * c + 1 < 4 by omega)
    obtain ⟨z, M5, w1, w2, w3, w4⟩ := M_zeroL (x := bi df) (y := bi sf) (M := ks (ks (ks (ks (ks (ks (ks (ks (ks M3 5 c (nI v)) 19 (2 * c + 0) 0) 20 (2 * c + 0) (-1)) 21 (2 * c + 0) (-1)) 25 (2 * c + 0) 0) 19 (2 * c + 1) 0) 20 (2 * c + 1) (-1)) 21 (2 * c + 1) (-1)) 25 (2 * c + 1) 0) hc
    have Q4 := q_zero Q3 w2 w4
    refine ⟨_, M5, rfl, ?_, Q4.1, ?_, ?_⟩
    · rw [t0, ob, t1, ob, w1, ob]
    · exact oK_tr oK1 (oK_tr (uK_o (by omega) u1) (oK_tr (uK_o (by omega) u3) (oK_tr (oK_ks (i := 0) (by omega)) (oK_ks (i := 0) (by omega)))))
    · refine oM_tr oM1 (oM_tr (uM_o (by omega) u2) (oM_tr (uM_o (by omega) u4) (fun row k hn => ?_)))
      by_cases h9 : row = 9 ∨ row = 10
      · exact w3 row k (by unfold slc at hn; omega)
      · exact w2 row k (by omega) (by omega)
end Wb
