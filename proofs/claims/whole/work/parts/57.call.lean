/-! A TICK, (c): the calls -/
section Ca
variable {b c p : Nat} {K M : Mem}
theorem set_call (h : RC b c K M) (hp : p < 8) (hu : M 8 (8 * c + p) = 1) : RC b c (ks K b 13 (K b 13 ||| jshl 1 (nI p))) (ks M 9 (8 * c + p) 1) := by
  refine ⟨(rTab_f (by intro k; (repeat rw [ks_n (by omega)]) <;> rfl) (by intro k; (repeat rw [ks_n (by omega)]) <;> rfl) (by intro i hi; (repeat rw [ks_n (by omega)]) <;> rfl) (by intro i hi; (repeat rw [ks_n (by omega)]) <;> rfl) h.1), (rUse_f (by (repeat rw [ks_n (by omega)]) <;> rfl) (by intro i hi; (repeat rw [ks_n (by omega)]) <;> rfl) (by intro i hi; (repeat rw [ks_n (by omega)]) <;> rfl) h.2.1), ⟨?_, ?_, fun q hq => ?_⟩, (rDet_f (by intro k; (repeat rw [ks_n (by omega)]) <;> rfl) (by intro k; (repeat rw [ks_n (by omega)]) <;> rfl) (by intro k; (repeat rw [ks_n (by omega)]) <;> rfl) (by intro i hi; (repeat rw [ks_n (by omega)]) <;> rfl) (by intro i hi; (repeat rw [ks_n (by omega)]) <;> rfl) (by intro i hi; (repeat rw [ks_n (by omega)]) <;> rfl) h.2.2.2.1), (rLnk_f (by intro k; (repeat rw [ks_n (by omega)]) <;> rfl) (fun j _ e => by (repeat rw [ks_n (by omega)]) <;> exact e) (by (repeat rw [ks_n (by omega)]) <;> rfl) (by (repeat rw [ks_n (by omega)]) <;> rfl) (by (repeat rw [ks_n (by omega)]) <;> rfl) (by (repeat rw [ks_n (by omega)]) <;> rfl) h.2.2.2.2.1), (rInp_f (by intro k; (repeat rw [ks_n (by omega)]) <;> rfl) (by intro k; (repeat rw [ks_n (by omega)]) <;> rfl) (by intro i hi; (repeat rw [ks_n (by omega)]) <;> rfl) (by intro i hi; (repeat rw [ks_n (by omega)]) <;> rfl) h.2.2.2.2.2.1), (rSc_f (by (repeat rw [ks_n (by omega)]) <;> rfl) (by (repeat rw [ks_n (by omega)]) <;> rfl) (by (repeat rw [ks_n (by omega)]) <;> rfl) (by (repeat rw [ks_n (by omega)]) <;> rfl) (by (repeat rw [ks_n (by omega)]) <;> rfl) (by (repeat rw [ks_n (by omega)]) <;> rfl) (by (repeat rw [ks_n (by omega)]) <;> rfl) (by (repeat rw [ks_n (by omega)]) <;> rfl) (by (repeat rw [ks_n (by omega)]) <;> rfl) (by (repeat rw [ks_n (by omega)]) <;> rfl) h.2.2.2.2.2.2.1), ?_, (rRing_f (by omega) (by intro k; (repeat rw [ks_n (by omega)]) <;> rfl) (by intro i hi; (repeat rw [ks_n (by omega)]) <;> rfl) (by (repeat rw [ks_n (by omega)]) <;> rfl) (by intro row h19 h26; (repeat rw [ks_n (by omega)]) <;> rfl) h.2.2.2.2.2.2.2.2.1), (rRing_f (by omega) (by intro k; (repeat rw [ks_n (by omega)]) <;> rfl) (by intro i hi; (repeat rw [ks_n (by omega)]) <;> rfl) (by (repeat rw [ks_n (by omega)]) <;> rfl) (by intro row h19 h26; (repeat rw [ks_n (by omega)]) <;> rfl) h.2.2.2.2.2.2.2.2.2.1), (rMon_f (by (repeat rw [ks_n (by omega)]) <;> rfl) (by intro k; (repeat rw [ks_n (by omega)]) <;> rfl) (by intro k; (repeat rw [ks_n (by omega)]) <;> rfl) (by intro k; (repeat rw [ks_n (by omega)]) <;> rfl) (by (repeat rw [ks_n (by omega)]) <;> rfl) (by intro i hi; (repeat rw [ks_n (by omega)]) <;> rfl) (by intro i hi; (repeat rw [ks_n (by omega)]) <;> rfl) (by intro i hi; (repeat rw [ks_n (by omega)]) <;> rfl) (by intro i hi; (repeat rw [ks_n (by omega)]) <;> rfl) (by intro i hi; (repeat rw [ks_n (by omega)]) <;> rfl) h.2.2.2.2.2.2.2.2.2.2)⟩
  · rw [ks_s]
    refine mk_congr (mk_or h.2.2.1.1 (bit_lt p hp)) (fun i hi => ?_)
    unfold one
    by_cases hip : i = p
    · subst hip
      simp [ks_s]
    · rw [ks_k (by omega)]
      simp [hip]
  · rw [ks_k (by omega)]
    exact mk_congr h.2.2.1.2.1 (fun i hi => by unfold one; rw [ks_n (a := 10) (by omega)])
  · obtain ⟨a1, a2, a3, a4⟩ := h.2.2.1.2.2 q hq
    rw [ks_n (a := 10) (by omega), ks_n (a := 8) (by omega)]
    by_cases hqp : q = p
    · subst hqp
      rw [ks_s]
      exact ⟨Or.inr rfl, a2, fun _ => hu, a4⟩
    · rw [ks_k (by omega)]
      exact ⟨a1, a2, a3, a4⟩
  · unfold rHad
    rw [ks_k (by omega), ks_n (a := 7) (by omega), ks_n (a := 19) (by omega), ks_n (a := 19) (by omega)]
    refine h.2.2.2.2.2.2.2.1.imp id ?_
    rintro ⟨e1, e2, e3⟩
    refine ⟨e1, fun q hq e => ?_, e3⟩
    rw [ks_n (a := 8) (by omega)] at e
    by_cases hqp : q = p
    · subst hqp
      rw [ks_s]
    · rw [ks_k (by omega)]
      exact e2 q hq e
theorem set_walk (h : RC b c K M) (hp : p < 8) (hu : M 8 (8 * c + p) = 1) : RC b c (ks K b 14 (K b 14 ||| jshl 1 (nI p))) (ks M 10 (8 * c + p) 1) := by
  refine ⟨(rTab_f (by intro k; (repeat rw [ks_n (by omega)]) <;> rfl) (by intro k; (repeat rw [ks_n (by omega)]) <;> rfl) (by intro i hi; (repeat rw [ks_n (by omega)]) <;> rfl) (by intro i hi; (repeat rw [ks_n (by omega)]) <;> rfl) h.1), (rUse_f (by (repeat rw [ks_n (by omega)]) <;> rfl) (by intro i hi; (repeat rw [ks_n (by omega)]) <;> rfl) (by intro i hi; (repeat rw [ks_n (by omega)]) <;> rfl) h.2.1), ⟨?_, ?_, fun q hq => ?_⟩, (rDet_f (by intro k; (repeat rw [ks_n (by omega)]) <;> rfl) (by intro k; (repeat rw [ks_n (by omega)]) <;> rfl) (by intro k; (repeat rw [ks_n (by omega)]) <;> rfl) (by intro i hi; (repeat rw [ks_n (by omega)]) <;> rfl) (by intro i hi; (repeat rw [ks_n (by omega)]) <;> rfl) (by intro i hi; (repeat rw [ks_n (by omega)]) <;> rfl) h.2.2.2.1), (rLnk_f (by intro k; (repeat rw [ks_n (by omega)]) <;> rfl) (fun j _ e => by (repeat rw [ks_n (by omega)]) <;> exact e) (by (repeat rw [ks_n (by omega)]) <;> rfl) (by (repeat rw [ks_n (by omega)]) <;> rfl) (by (repeat rw [ks_n (by omega)]) <;> rfl) (by (repeat rw [ks_n (by omega)]) <;> rfl) h.2.2.2.2.1), (rInp_f (by intro k; (repeat rw [ks_n (by omega)]) <;> rfl) (by intro k; (repeat rw [ks_n (by omega)]) <;> rfl) (by intro i hi; (repeat rw [ks_n (by omega)]) <;> rfl) (by intro i hi; (repeat rw [ks_n (by omega)]) <;> rfl) h.2.2.2.2.2.1), (rSc_f (by (repeat rw [ks_n (by omega)]) <;> rfl) (by (repeat rw [ks_n (by omega)]) <;> rfl) (by (repeat rw [ks_n (by omega)]) <;> rfl) (by (repeat rw [ks_n (by omega)]) <;> rfl) (by (repeat rw [ks_n (by omega)]) <;> rfl) (by (repeat rw [ks_n (by omega)]) <;> rfl) (by (repeat rw [ks_n (by omega)]) <;> rfl) (by (repeat rw [ks_n (by omega)]) <;> rfl) (by (repeat rw [ks_n (by omega)]) <;> rfl) (by (repeat rw [ks_n (by omega)]) <;> rfl) h.2.2.2.2.2.2.1), (rHad_f (by (repeat rw [ks_n (by omega)]) <;> rfl) (by (repeat rw [ks_n (by omega)]) <;> rfl) (by intro i hi; (repeat rw [ks_n (by omega)]) <;> rfl) (by intro i hi; (repeat rw [ks_n (by omega)]) <;> rfl) (by intro i hi; (repeat rw [ks_n (by omega)]) <;> rfl) h.2.2.2.2.2.2.2.1), (rRing_f (by omega) (by intro k; (repeat rw [ks_n (by omega)]) <;> rfl) (by intro i hi; (repeat rw [ks_n (by omega)]) <;> rfl) (by (repeat rw [ks_n (by omega)]) <;> rfl) (by intro row h19 h26; (repeat rw [ks_n (by omega)]) <;> rfl) h.2.2.2.2.2.2.2.2.1), (rRing_f (by omega) (by intro k; (repeat rw [ks_n (by omega)]) <;> rfl) (by intro i hi; (repeat rw [ks_n (by omega)]) <;> rfl) (by (repeat rw [ks_n (by omega)]) <;> rfl) (by intro row h19 h26; (repeat rw [ks_n (by omega)]) <;> rfl) h.2.2.2.2.2.2.2.2.2.1), (rMon_f (by (repeat rw [ks_n (by omega)]) <;> rfl) (by intro k; (repeat rw [ks_n (by omega)]) <;> rfl) (by intro k; (repeat rw [ks_n (by omega)]) <;> rfl) (by intro k; (repeat rw [ks_n (by omega)]) <;> rfl) (by (repeat rw [ks_n (by omega)]) <;> rfl) (by intro i hi; (repeat rw [ks_n (by omega)]) <;> rfl) (by intro i hi; (repeat rw [ks_n (by omega)]) <;> rfl) (by intro i hi; (repeat rw [ks_n (by omega)]) <;> rfl) (by intro i hi; (repeat rw [ks_n (by omega)]) <;> rfl) (by intro i hi; (repeat rw [ks_n (by omega)]) <;> rfl) h.2.2.2.2.2.2.2.2.2.2)⟩
  · rw [ks_k (by omega)]
    exact mk_congr h.2.2.1.1 (fun i hi => by unfold one; rw [ks_n (a := 9) (by omega)])
  · rw [ks_s]
    refine mk_congr (mk_or h.2.2.1.2.1 (bit_lt p hp)) (fun i hi => ?_)
    unfold one
    by_cases hip : i = p
    · subst hip
      simp [ks_s]
    · rw [ks_k (by omega)]
      simp [hip]
  · obtain ⟨a1, a2, a3, a4⟩ := h.2.2.1.2.2 q hq
    rw [ks_n (a := 9) (by omega), ks_n (a := 8) (by omega)]
    by_cases hqp : q = p
    · subst hqp
      rw [ks_s]
      exact ⟨a1, Or.inr rfl, a3, fun _ => hu⟩
    · rw [ks_k (by omega)]
      exact ⟨a1, a2, a3, a4⟩
theorem ring_gap {r v : Nat} (hr : r < 2) (hv : v ≤ 99) (h : rRing b c r K M) : rRing b c r (ks K (b + 16 + r) 7 (nI v)) (ks M 24 (2 * c + r) (nI v)) := by
  obtain ⟨h1, h2, h3, h4, h5, h6, h7, h8, h9, h10⟩ := h
  unfold rRing
  have k : ∀ j, j ≠ 7 → ks K (b + 16 + r) 7 (nI v) (b + 16 + r) j = K (b + 16 + r) j := fun j hj => ks_k hj
  have m : ∀ row, row ≠ 24 → ∀ i, ks M 24 (2 * c + r) (nI v) row i = M row i := fun row hrow i => ks_i hrow
  rw [ks_s, ks_s, k 4 (by omega), k 0 (by omega), k 5 (by omega), k 6 (by omega), k 1 (by omega), k 8 (by omega), k 9 (by omega), m 19 (by omega), m 20 (by omega), m 22 (by omega), m 23 (by omega), m 21 (by omega), m 25 (by omega), m 26 (by omega)]
  refine ⟨h1, h2, h3, h4, rfl, ⟨v, hv, rfl⟩, h7, fun e => ?_, h9, h10⟩
  obtain ⟨a1, a2, a3⟩ := h8 e
  exact ⟨rPh_f (fun i _ => m 8 (by omega) _) (m 6 (by omega) _) hr a1, a2, a3.imp id (rPh_f (fun i _ => m 8 (by omega) _) (m 6 (by omega) _) hr)⟩
theorem set_gap {r v : Nat} (hr : r < 2) (hv : v ≤ 99) (h : RC b c K M) : RC b c (ks K (b + 16 + r) 7 (nI v)) (ks M 24 (2 * c + r) (nI v)) := by
  have q0 : rRing b c 0 (ks K (b + 16 + r) 7 (nI v)) (ks M 24 (2 * c + r) (nI v)) := by
    rcases (show r = 0 ∨ r = 1 by omega) with rfl | rfl
    · exact ring_gap (by omega) hv h.2.2.2.2.2.2.2.2.1
    · exact (rRing_f (by omega) (by intro k; (repeat rw [ks_n (by omega)]) <;> rfl) (by intro i hi; (repeat rw [ks_n (by omega)]) <;> rfl) (by (repeat rw [ks_n (by omega)]) <;> rfl) (by intro row h19 h26; (repeat rw [ks_n (by omega)]) <;> rfl) h.2.2.2.2.2.2.2.2.1)
  have q1 : rRing b c 1 (ks K (b + 16 + r) 7 (nI v)) (ks M 24 (2 * c + r) (nI v)) := by
    rcases (show r = 0 ∨ r = 1 by omega) with rfl | rfl
    · exact (rRing_f (by omega) (by intro k; (repeat rw [ks_n (by omega)]) <;> rfl) (by intro i hi; (repeat rw [ks_n (by omega)]) <;> rfl) (by (repeat rw [ks_n (by omega)]) <;> rfl) (by intro row h19 h26; (repeat rw [ks_n (by omega)]) <;> rfl) h.2.2.2.2.2.2.2.2.2.1)
    · exact ring_gap (by omega) hv h.2.2.2.2.2.2.2.2.2.1
  exact ⟨(rTab_f (by intro k; (repeat rw [ks_n (by omega)]) <;> rfl) (by intro k; (repeat rw [ks_n (by omega)]) <;> rfl) (by intro i hi; (repeat rw [ks_n (by omega)]) <;> rfl) (by intro i hi; (repeat rw [ks_n (by omega)]) <;> rfl) h.1), (rUse_f (by (repeat rw [ks_n (by omega)]) <;> rfl) (by intro i hi; (repeat rw [ks_n (by omega)]) <;> rfl) (by intro i hi; (repeat rw [ks_n (by omega)]) <;> rfl) h.2.1), (rCal_f (by (repeat rw [ks_n (by omega)]) <;> rfl) (by (repeat rw [ks_n (by omega)]) <;> rfl) (by intro i hi; (repeat rw [ks_n (by omega)]) <;> rfl) (by intro i hi; (repeat rw [ks_n (by omega)]) <;> rfl) (by intro i hi; (repeat rw [ks_n (by omega)]) <;> rfl) h.2.2.1), (rDet_f (by intro k; (repeat rw [ks_n (by omega)]) <;> rfl) (by intro k; (repeat rw [ks_n (by omega)]) <;> rfl) (by intro k; (repeat rw [ks_n (by omega)]) <;> rfl) (by intro i hi; (repeat rw [ks_n (by omega)]) <;> rfl) (by intro i hi; (repeat rw [ks_n (by omega)]) <;> rfl) (by intro i hi; (repeat rw [ks_n (by omega)]) <;> rfl) h.2.2.2.1), (rLnk_f (by intro k; (repeat rw [ks_n (by omega)]) <;> rfl) (fun j _ e => by (repeat rw [ks_n (by omega)]) <;> exact e) (by (repeat rw [ks_n (by omega)]) <;> rfl) (by (repeat rw [ks_n (by omega)]) <;> rfl) (by (repeat rw [ks_n (by omega)]) <;> rfl) (by (repeat rw [ks_n (by omega)]) <;> rfl) h.2.2.2.2.1), (rInp_f (by intro k; (repeat rw [ks_n (by omega)]) <;> rfl) (by intro k; (repeat rw [ks_n (by omega)]) <;> rfl) (by intro i hi; (repeat rw [ks_n (by omega)]) <;> rfl) (by intro i hi; (repeat rw [ks_n (by omega)]) <;> rfl) h.2.2.2.2.2.1), (rSc_f (by (repeat rw [ks_n (by omega)]) <;> rfl) (by (repeat rw [ks_n (by omega)]) <;> rfl) (by (repeat rw [ks_n (by omega)]) <;> rfl) (by (repeat rw [ks_n (by omega)]) <;> rfl) (by (repeat rw [ks_n (by omega)]) <;> rfl) (by (repeat rw [ks_n (by omega)]) <;> rfl) (by (repeat rw [ks_n (by omega)]) <;> rfl) (by (repeat rw [ks_n (by omega)]) <;> rfl) (by (repeat rw [ks_n (by omega)]) <;> rfl) (by (repeat rw [ks_n (by omega)]) <;> rfl) h.2.2.2.2.2.2.1), (rHad_f (by (repeat rw [ks_n (by omega)]) <;> rfl) (by (repeat rw [ks_n (by omega)]) <;> rfl) (by intro i hi; (repeat rw [ks_n (by omega)]) <;> rfl) (by intro i hi; (repeat rw [ks_n (by omega)]) <;> rfl) (by intro i hi; (repeat rw [ks_n (by omega)]) <;> rfl) h.2.2.2.2.2.2.2.1), q0, q1, (rMon_f (by (repeat rw [ks_n (by omega)]) <;> rfl) (by intro k; (repeat rw [ks_n (by omega)]) <;> rfl) (by intro k; (repeat rw [ks_n (by omega)]) <;> rfl) (by intro k; (repeat rw [ks_n (by omega)]) <;> rfl) (by (repeat rw [ks_n (by omega)]) <;> rfl) (by intro i hi; (repeat rw [ks_n (by omega)]) <;> rfl) (by intro i hi; (repeat rw [ks_n (by omega)]) <;> rfl) (by intro i hi; (repeat rw [ks_n (by omega)]) <;> rfl) (by intro i hi; (repeat rw [ks_n (by omega)]) <;> rfl) (by intro i hi; (repeat rw [ks_n (by omega)]) <;> rfl) h.2.2.2.2.2.2.2.2.2.2)⟩
theorem at_M (h : rTab b c K M) {i : Nat} (hi : i < 64) : K (b + 3 + 1) i = M 2 (64 * c + i) := (h i hi).2.1
/-- nothing but the calls and gaps of crossing c has changed -/
def oX (c : Nat) (M M' : Mem) : Prop := oM c M M' ∧ ∀ row k, row ≠ 9 → row ≠ 10 → row ≠ 24 → M' row k = M row k
theorem oX_rf {M : Mem} : oX c M M := ⟨oM_rf, fun _ _ _ _ _ => rfl⟩
theorem oX_tr {M M' M'' : Mem} (h : oX c M M') (h2 : oX c M' M'') : oX c M M'' := ⟨oM_tr h.1 h2.1, fun row k a d e => (h2.2 row k a d e).trans (h.2 row k a d e)⟩
theorem oX_ks {row k : Nat} {M : Mem} {v : Int32} (h : slc c row k) (hw : row = 9 ∨ row = 10 ∨ row = 24) : oX c M (ks M row k v) := ⟨oM_ks h, fun r2 k2 a d e => ks_i (by omega)⟩
theorem call_step (hc : c < 2) (hp : p < 8) (h : RC b c K M) : ∃ K' M', (∀ n, f_X0_passCalls_L2 b (n + 1) (nI p) K = f_X0_passCalls_L2 b n (nI (p + 1)) K') ∧ (∀ n, f_X9_call_L2 (nI c) (n + 1) (nI p) M = f_X9_call_L2 (nI c) n (nI (p + 1)) M') ∧ RC b c K' M' ∧ oK b K K' ∧ oX c M M' := by
  have i16 : inb (nI (8 * c + p)) 16 = true := inb_t (by omega) (by omega)
  have x16 : ix (nI (8 * c + p)) = 8 * c + p := ix_nI (by omega)
  have i4 : inb (nI (2 * c + p / 4)) 4 = true := inb_t (by omega) (by omega)
  have x4 : ix (nI (2 * c + p / 4)) = 2 * c + p / 4 := ix_nI (by omega)
  have hr : p / 4 < 2 := by omega
  have hrg := rRing_at hp h.2.2.2.2.2.2.2.2.1 h.2.2.2.2.2.2.2.2.2.1
  have hU := h.2.1
  have hD := h.2.2.2.1
  have hT := h.1
  have ht := mk_tst hU.1 hp
  unfold one at ht
  rw [one_z (hU.2 p hp).1] at ht
  have a7 : f_X7_at (b + 3) (nI p) 7 K = some (M 2 (64 * c + (8 * p + 7))) := by rw [C_at7 hp, at_M hT (by omega)]
  have a1 : f_X7_at (b + 3) (nI p) 1 K = some (M 2 (64 * c + (8 * p + 1))) := by rw [C_at1 hp, at_M hT (by omega)]
  obtain ⟨rc, hrc, er⟩ := (hT (8 * p + 7) (by omega)).2.2.2
  obtain ⟨ps, hps, ep⟩ := (hT (8 * p + 1) (by omega)).2.2.2
  -- whether the ring is green at p
  have hgr : ∀ n, f_X0_passCalls_L2 b (n + 1) (nI p) K = ((if grn M c p = true then f_X0_passGap b (b + 16 + p / 4) K else (if M 8 (8 * c + p) = 0 then some K else f_X0_noteCalls b (nI p) K)) : Option Mem).bind fun v9 => f_X0_passCalls_L2 b n (nI (p + 1)) v9 := by
    intro n
    have eb : ∀ X : Option Mem, (X.bind fun u => some u) = X := fun X => by cases X <;> rfl
    rw [f_X0_passCalls_L2, if_neg (c8_no hp), C_ringOf hp, ob, C_ring hr, ob, C_isGreen, ob]
    simp only [lt, n_a1, C_bit hp, ob, eb]
    have hgg := rg_green hrg
    have h20 := hrg.2.1
    unfold grn
    by_cases g1 : M 19 (2 * c + p / 4) = 1
    · rw [decide_eq_true (hgg.mpr g1), bi_t, if_neg n10, h20]
      by_cases g2 : M 20 (2 * c + p / 4) = nI p
      · simp [g1, g2]
      · by_cases hu : M 8 (8 * c + p) = 0
        · have := ht.mpr (by simp [hu])
          simp [g1, g2, hu, this]
        · have : ¬ K b 10 &&& jshl 1 (nI p) = 0 := fun e => by have := ht.mp e; simp [hu] at this
          simp [g1, g2, hu, this]
    · rw [decide_eq_false (fun e => g1 (hgg.mp e)), bi_f, if_pos rfl]
      by_cases hu : M 8 (8 * c + p) = 0
      · have := ht.mpr (by simp [hu])
        simp [g1, hu, this]
      · have : ¬ K b 10 &&& jshl 1 (nI p) = 0 := fun e => by have := ht.mp e; simp [hu] at this
        simp [g1, hu, this]
  by_cases hg : grn M c p = true
  · -- green: the gap
    have hg2 := hg
    unfold grn at hg2
    have hg3 := of_decide_eq_true hg2
    obtain ⟨⟨q, hq, e1, e2, e3⟩, -⟩ := hrg.2.2.2.2.2.2.2.1 (by rw [hg3.1]; decide)
    have hqp : 4 * (p / 4) + q = p := by
      rw [hg3.2] at e1
      exact ((eq_nI (by omega) (by omega)).mp e1).symm
    rw [hqp] at e2
    have hu : ¬ M 8 (8 * c + p) = 0 := by rw [e2]; decide
    obtain ⟨g, hgl, eg⟩ := hrg.2.2.2.2.2.1
    have h20 : K (b + 16 + p / 4) 0 = nI p := by rw [hrg.2.1]; exact hg3.2
    have h24 : K (b + 16 + p / 4) 7 = nI g := by rw [hrg.2.2.2.2.1]; exact eg
    have hx := C_ext (p := p) hD hp
    have hm := M_passes (M := M) hc hp
    generalize (!decide (M 11 (8 * c + p) = 0) && !decide ((60 : Int32) ≤ M 12 (8 * c + p))) = pa at hx hm
    -- the new gap
    obtain ⟨v, hv, fc, fm⟩ : ∃ v, v ≤ 99 ∧ (f_X0_passGap b (b + 16 + p / 4) K = some (ks K (b + 16 + p / 4) 7 (nI v)) ∨ (v = g ∧ f_X0_passGap b (b + 16 + p / 4) K = some K)) ∧ (∀ n, (f_X9_call_L2 (nI c) (n + 1) (nI p) M = f_X9_call_L2 (nI c) n (nI (p + 1)) (ks M 24 (2 * c + p / 4) (nI v))) ∨ (v = g ∧ f_X9_call_L2 (nI c) (n + 1) (nI p) M = f_X9_call_L2 (nI c) n (nI (p + 1)) M)) := by
      have eM : ∀ n, f_X9_call_L2 (nI c) (n + 1) (nI p) M = ((if bi pa = 0 then (if nI rc = 2 then some (ks M 24 (2 * c + p / 4) (nI ps)) else (if nI g ≤ 0 then some M else some (ks M 24 (2 * c + p / 4) (nI g - 1)))) else some (ks M 24 (2 * c + p / 4) (nI ps))) : Option Mem).bind fun v => f_X9_call_L2 (nI c) n (nI (p + 1)) v := by
        intro n
        rw [f_X9_call_L2, if_neg (c8_no hp)]
        simp only [lt, n_8, n_ak, M_entry7 hc hp, M_entry1 hc hp, ob, i16, x16, if_true, hu, if_false, M_isGreen hc hp, hg, bi_t, n10, M_ringOf hp, hm, er, ep, i4, x4, st, n_a1, eg]
        cases pa <;> simp only [bi_t, bi_f, n10, if_true, if_false, ob]
        by_cases r2 : nI rc = 2
        · simp only [r2, if_true, ob]
        · simp only [r2, if_false]
          by_cases g0 : nI g ≤ 0 <;> simp only [g0, if_true, if_false, ob]
      have eC : f_X0_passGap b (b + 16 + p / 4) K = (if bi pa = 0 then (if nI rc = 2 then some (ks K (b + 16 + p / 4) 7 (nI ps)) else (if nI g = 0 then some K else some (ks K (b + 16 + p / 4) 7 (nI g - 1)))) else some (ks K (b + 16 + p / 4) 7 (nI ps)) : Option Mem) := by
        simp only [f_X0_passGap, lt, h20, hx, ob, a7, a1, er, ep, st, h24]
      rw [eC]
      cases pa
      · by_cases r2 : nI rc = 2
        · exact ⟨ps, hps, Or.inl (by simp [bi, r2]), fun n => Or.inl (by rw [eM n]; simp [bi, r2])⟩
        · by_cases g0 : g = 0
          · subst g0
            exact ⟨0, by omega, Or.inr ⟨rfl, by simp [bi, r2, nI_0]⟩, fun n => Or.inr ⟨rfl, by rw [eM n]; simp [bi, r2, nI_0]⟩⟩
          · have q1 : ¬ nI g = 0 := nI_ne0 (by omega) (by omega)
            have q2 : ¬ nI g ≤ 0 := nI_nle (by omega) (by omega)
            have q3 : nI g - 1 = nI (g - 1) := pk_sub (a := g) (b := 1) (by omega)
            exact ⟨g - 1, by omega, Or.inl (by simp [bi, r2, q1, q3]), fun n => Or.inl (by rw [eM n]; simp [bi, r2, q2, q3])⟩
      · exact ⟨ps, hps, Or.inl (by simp [bi]), fun n => Or.inl (by rw [eM n]; simp [bi])⟩
    have hRC := set_gap hr hv h
    rcases fc with fc | ⟨vg, fc⟩
    · refine ⟨ks K (b + 16 + p / 4) 7 (nI v), ks M 24 (2 * c + p / 4) (nI v), fun n => by rw [hgr n, if_pos hg, fc, ob], fun n => ?_, hRC, by rw [Nat.add_assoc]; exact oK_ks (by omega), oX_ks (by unfold slc; omega) (by omega)⟩
      rcases fm n with e | ⟨vg, e⟩
      · exact e
      · rw [e, vg, ← eg]
        congr 1
        funext x y
        simp only [ks]
        by_cases hx : x = 24 <;> by_cases hy : y = 2 * c + p / 4 <;> simp [hx, hy]
    · refine ⟨K, M, fun n => by rw [hgr n, if_pos hg, fc, ob], fun n => ?_, h, oK_rf, oX_rf⟩
      rcases fm n with e | ⟨-, e⟩
      · rw [e, vg, ← eg]
        congr 1
        funext x y
        simp only [ks]
        by_cases hx : x = 24 <;> by_cases hy : y = 2 * c + p / 4 <;> simp [hx, hy]
      · exact e
  · have hgf : grn M c p = false := by cases hx : grn M c p <;> simp_all
    by_cases hu : M 8 (8 * c + p) = 0
    · refine ⟨K, M, fun n => by rw [hgr n, if_neg hg, if_pos hu, ob], fun n => ?_, h, oK_rf, oX_rf⟩
      rw [f_X9_call_L2, if_neg (c8_no hp)]
      simp only [lt, n_8, n_ak, M_entry7 hc hp, ob, i16, x16, if_true, hu, n_a1]
    · have hu1 := z01_one (hU.2 p hp).1 hu
      have hx := C_calls (p := p) hD hp
      have hmf := M_failed (M := M) hc hp
      have eC : f_X0_noteCalls b (nI p) K = ((if (!decide (M 11 (8 * c + p) = 0) || decide ((60 : Int32) ≤ M 12 (8 * c + p))) = true ∨ nI rc = 1 ∨ nI rc = 2 then some (ks K b 13 (K b 13 ||| jshl 1 (nI p))) else some K) : Option Mem).bind fun v6 => if nI rc = 3 then some (ks v6 b 14 (v6 b 14 ||| jshl 1 (nI p))) else some v6 := by
        simp only [f_X0_noteCalls, a7, er, ob, lt, hx, C_bit hp, st]
        cases (!decide (M 11 (8 * c + p) = 0) || decide ((60 : Int32) ≤ M 12 (8 * c + p)))
        · by_cases r1 : nI rc = 1
          · simp [bi, r1]
          · by_cases r2 : nI rc = 2 <;> simp [bi, r1, r2]
        · simp [bi]
      have eM : ∀ n, f_X9_call_L2 (nI c) (n + 1) (nI p) M = (((if (!decide (M 11 (8 * c + p) = 0) || decide ((60 : Int32) ≤ M 12 (8 * c + p))) = true ∨ nI rc = 1 ∨ nI rc = 2 then some (ks M 9 (8 * c + p) 1) else some M) : Option Mem).bind fun v11 => if nI rc = 3 then some (ks v11 10 (8 * c + p) 1) else some v11).bind fun v => f_X9_call_L2 (nI c) n (nI (p + 1)) v := by
        intro n
        rw [f_X9_call_L2, if_neg (c8_no hp)]
        simp only [lt, n_8, n_ak, M_entry7 hc hp, ob, i16, x16, if_true, hu, if_false, M_isGreen hc hp, hgf, bi_f, hmf, er, st, n_a1, nar_1]
        by_cases d1 : M 11 (8 * c + p) = 0
        · by_cases d2 : (60 : Int32) ≤ M 12 (8 * c + p)
          · by_cases r3 : nI rc = 3 <;> simp [d1, d2, bi, r3]
          · by_cases r1 : nI rc = 1
            · simp [d1, d2, bi, r1]
            · by_cases r2 : nI rc = 2
              · simp [d1, d2, bi, r2]
              · by_cases r3 : nI rc = 3 <;> simp [d1, d2, bi, r1, r2, r3]
        · by_cases r3 : nI rc = 3 <;> simp [d1, r3]
      obtain ⟨K1, M1, f1, f2, f3, f4, f5, f6⟩ : ∃ K1 M1, ((if (!decide (M 11 (8 * c + p) = 0) || decide ((60 : Int32) ≤ M 12 (8 * c + p))) = true ∨ nI rc = 1 ∨ nI rc = 2 then some (ks K b 13 (K b 13 ||| jshl 1 (nI p))) else some K) : Option Mem) = some K1 ∧ ((if (!decide (M 11 (8 * c + p) = 0) || decide ((60 : Int32) ≤ M 12 (8 * c + p))) = true ∨ nI rc = 1 ∨ nI rc = 2 then some (ks M 9 (8 * c + p) 1) else some M) : Option Mem) = some M1 ∧ RC b c K1 M1 ∧ oK b K K1 ∧ oX c M M1 ∧ M1 8 (8 * c + p) = 1 := by
        by_cases cd : (!decide (M 11 (8 * c + p) = 0) || decide ((60 : Int32) ≤ M 12 (8 * c + p))) = true ∨ nI rc = 1 ∨ nI rc = 2
        · exact ⟨_, _, if_pos cd, if_pos cd, set_call h hp hu1, oK_ks (i := 0) (by omega), oX_ks (by unfold slc; omega) (by omega), by rw [ks_n (by omega)]; exact hu1⟩
        · exact ⟨_, _, if_neg cd, if_neg cd, h, oK_rf, oX_rf, hu1⟩
      rw [f1, ob] at eC
      by_cases r3 : nI rc = 3
      · refine ⟨_, ks M1 10 (8 * c + p) 1, fun n => by rw [hgr n, if_neg hg, if_neg hu, eC, if_pos r3, ob], fun n => by rw [eM n, f2, ob, if_pos r3, ob], set_walk f3 hp f6, oK_tr f4 (oK_ks (i := 0) (by omega)), oX_tr f5 (oX_ks (by unfold slc; omega) (by omega))⟩
      · exact ⟨K1, M1, fun n => by rw [hgr n, if_neg hg, if_neg hu, eC, if_neg r3, ob], fun n => by rw [eM n, f2, ob, if_neg r3, ob], f3, f4, f5⟩
theorem s_call (hc : c < 2) (h : RC b c K M) : ∃ K' M', f_X0_passCalls b K = some K' ∧ f_X9_call (nI c) M = some M' ∧ RC b c K' M' ∧ oK b K K' ∧ oX c M M' := by
  obtain ⟨K', M', e1, e2, e3, e4, e5⟩ := loop2 (fun n i K => f_X0_passCalls_L2 b n i K) (fun n i M => f_X9_call_L2 (nI c) n i M) 0 0 8 (fun _ K' M' => RC b c K' M' ∧ oK b K K' ∧ oX c M M')
    (fun n K => by show f_X0_passCalls_L2 b (n + 1) (nI 8) K = _; rw [f_X0_passCalls_L2, if_pos c8_yes])
    (fun n M => by show f_X9_call_L2 (nI c) (n + 1) (nI 8) M = _; rw [f_X9_call_L2, if_pos c8_yes])
    (fun n m i K2 M2 hi hP => by
      obtain ⟨K3, M3, a1, a2, a3, a4, a5⟩ := call_step hc hi hP.1
      refine ⟨K3, M3, ?_, ?_, a3, oK_tr hP.2.1 a4, oX_tr hP.2.2 a5⟩
      · show f_X0_passCalls_L2 b (n + 1) (nI (0 + i)) K2 = f_X0_passCalls_L2 b n (nI (0 + i + 1)) K3
        rw [Nat.zero_add]
        exact a1 n
      · show f_X9_call_L2 (nI c) (m + 1) (nI (0 + i)) M2 = f_X9_call_L2 (nI c) m (nI (0 + i + 1)) M3
        rw [Nat.zero_add]
        exact a2 m) 8 0 70 70 K M rfl (by omega) (by omega) ⟨h, oK_rf, oX_rf⟩
  refine ⟨K', M', ?_, ?_, e3, e4, e5⟩
  · unfold f_X0_passCalls
    show (f_X0_passCalls_L2 b 70 (nI (0 + 0)) K).bind _ = _
    rw [e1, ob]
  · unfold f_X9_call
    show (f_X9_call_L2 (nI c) 70 (nI (0 + 0)) M).bind _ = _
    rw [e2, ob]
end Ca
