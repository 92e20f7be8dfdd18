/-! THE FACE, one call: put, place, detect, press, target, preempt, fault -/
section Fc
variable {T : Nat} {K M : Mem}
theorem n10 : ¬ (1 : Int32) = 0 := by decide
theorem C_write {b p w : Nat} {v : Int32} (hp : p < 8) (hw : w < 8) : f_X7_write b (nI p) (nI w) v K = some (ks K (b + 1) (8 * p + w) v) := by
  unfold f_X7_write
  rw [n_8r, n_ak]
  show (if nI (8 * p + w) < 0 then _ else _) = _
  have h64 : ¬ (64 : Int32) ≤ nI (8 * p + w) := fun e => absurd ((q_le 64 (8 * p + w) (by omega) (by omega)).mp e) (by omega)
  rw [if_neg (nI_ge0 (by omega)), if_neg h64, if_pos (inb_t (by omega) (by omega)), ix_nI (by omega)]
theorem s_put (h : RR T K M) (x y z v : Int32) : ∃ r K' M', f_X8_put x y z v K = some (r, K') ∧ f_X9_put x y z v M = some (r, M') ∧ RR T K' M' := by
  have h0 := RR_code 0 h
  rcases cr_cases x with ⟨b, c, hbc, rfl, hc, hb⟩ | hn
  · rcases ph_cases y with ⟨p, hp, rfl⟩ | hy
    · rcases i_cases z 8 (by omega) with hz | ⟨hz, hz8⟩ | ⟨w, hw, rfl⟩
      · exact ⟨0, K, ks M 0 0 0, by simp [f_X8_put, hb, oc, C_isPh hp, hz], by simp [f_X9_put, st, M_isPh hc hp, hz], h0⟩
      · have h8 : (8 : Int32) ≤ z := hz8
        have h7 : (7 : Int32) < z := Int32.lt_of_lt_of_le (by decide) h8
        exact ⟨0, K, ks M 0 0 0, by simp [f_X8_put, hb, oc, C_isPh hp, hz, h8], by simp [f_X9_put, st, M_isPh hc hp, hz, h7], h0⟩
      · have h7 : ¬ (7 : Int32) < nI w := fun e => absurd ((lt_nI (a := 7) (by omega) (by omega)).mp e) (by omega)
        have hz : ¬ nI w < 0 := nI_ge0 (by omega)
        have h8 := c8_no hw
        rcases i_cases v 100 (by omega) with hv | ⟨hv, hv1⟩ | ⟨n, hn, rfl⟩
        · exact ⟨0, K, ks M 0 0 0, by simp [f_X8_put, hb, oc, C_isPh hp, hz, h8, hv], by simp [f_X9_put, st, M_isPh hc hp, hz, h7, hv], h0⟩
        · have h9 : ¬ v ≤ (99 : Int32) := Int32.not_le.mpr (Int32.lt_of_lt_of_le (by decide) (show (100 : Int32) ≤ v from hv1))
          exact ⟨0, K, ks M 0 0 0, by simp [f_X8_put, hb, oc, C_isPh hp, hz, h8, hv, h9], by simp [f_X9_put, st, M_isPh hc hp, hz, h7, hv, h9], h0⟩
        · have h9 : nI n ≤ (99 : Int32) := (le_nI (b := 99) (by omega) (by omega)).mpr (by omega)
          have hv : ¬ nI n < 0 := nI_ge0 (by omega)
          refine ⟨1, ks K (b + 2) (8 * p + w) (nI n), ks (ks M 0 0 0) 1 (64 * c + (8 * p + w)) (nI n), ?_, ?_, RR_up hbc h0 (oK_ks (i := 2) (by omega)) (oM_ks (by unfold slc; omega)) ?_⟩
          · simp [f_X8_put, hb, oc, C_isPh hp, hz, h8, hv, h9, C_write hp hw]
          · have hi : inb (nI (64 * c + (8 * p + w))) 128 = true := inb_t (by omega) (by omega)
            simp only [f_X9_put, st, M_isPh hc hp, ob, n10, hz, h7, hv, h9, if_false, if_true, n_64, n_8, n_ak, Nat.add_assoc, hi]
            rw [ix_nI (by omega), (nar_s n (by omega)).1]
          · have h := RR_in hbc h0
            generalize ks M 0 0 0 = M at h ⊢
            refine ⟨(fun i hi => ?_), (rUse_f (by (repeat rw [ks_n (by omega)]) <;> rfl) (by intro i hi; (repeat rw [ks_n (by omega)]) <;> rfl) (by intro i hi; (repeat rw [ks_n (by omega)]) <;> rfl) h.2.1), (rCal_f (by (repeat rw [ks_n (by omega)]) <;> rfl) (by (repeat rw [ks_n (by omega)]) <;> rfl) (by intro i hi; (repeat rw [ks_n (by omega)]) <;> rfl) (by intro i hi; (repeat rw [ks_n (by omega)]) <;> rfl) (by intro i hi; (repeat rw [ks_n (by omega)]) <;> rfl) h.2.2.1), (rDet_f (by intro k; (repeat rw [ks_n (by omega)]) <;> rfl) (by intro k; (repeat rw [ks_n (by omega)]) <;> rfl) (by intro k; (repeat rw [ks_n (by omega)]) <;> rfl) (by intro i hi; (repeat rw [ks_n (by omega)]) <;> rfl) (by intro i hi; (repeat rw [ks_n (by omega)]) <;> rfl) (by intro i hi; (repeat rw [ks_n (by omega)]) <;> rfl) h.2.2.2.1), (rLnk_f (by intro k; (repeat rw [ks_n (by omega)]) <;> rfl) (fun j _ e => by (repeat rw [ks_n (by omega)]) <;> exact e) (by (repeat rw [ks_n (by omega)]) <;> rfl) (by (repeat rw [ks_n (by omega)]) <;> rfl) (by (repeat rw [ks_n (by omega)]) <;> rfl) (by (repeat rw [ks_n (by omega)]) <;> rfl) h.2.2.2.2.1), (rInp_f (by intro k; (repeat rw [ks_n (by omega)]) <;> rfl) (by intro k; (repeat rw [ks_n (by omega)]) <;> rfl) (by intro i hi; (repeat rw [ks_n (by omega)]) <;> rfl) (by intro i hi; (repeat rw [ks_n (by omega)]) <;> rfl) h.2.2.2.2.2.1), (rSc_f (by (repeat rw [ks_n (by omega)]) <;> rfl) (by (repeat rw [ks_n (by omega)]) <;> rfl) (by (repeat rw [ks_n (by omega)]) <;> rfl) (by (repeat rw [ks_n (by omega)]) <;> rfl) (by (repeat rw [ks_n (by omega)]) <;> rfl) (by (repeat rw [ks_n (by omega)]) <;> rfl) (by (repeat rw [ks_n (by omega)]) <;> rfl) (by (repeat rw [ks_n (by omega)]) <;> rfl) (by (repeat rw [ks_n (by omega)]) <;> rfl) (by (repeat rw [ks_n (by omega)]) <;> rfl) h.2.2.2.2.2.2.1), (rHad_f (by (repeat rw [ks_n (by omega)]) <;> rfl) (by (repeat rw [ks_n (by omega)]) <;> rfl) (by intro i hi; (repeat rw [ks_n (by omega)]) <;> rfl) (by intro i hi; (repeat rw [ks_n (by omega)]) <;> rfl) (by intro i hi; (repeat rw [ks_n (by omega)]) <;> rfl) h.2.2.2.2.2.2.2.1), (rRing_f (by omega) (by intro k; (repeat rw [ks_n (by omega)]) <;> rfl) (by intro i hi; (repeat rw [ks_n (by omega)]) <;> rfl) (by (repeat rw [ks_n (by omega)]) <;> rfl) (by intro row h19 h26; (repeat rw [ks_n (by omega)]) <;> rfl) h.2.2.2.2.2.2.2.2.1), (rRing_f (by omega) (by intro k; (repeat rw [ks_n (by omega)]) <;> rfl) (by intro i hi; (repeat rw [ks_n (by omega)]) <;> rfl) (by (repeat rw [ks_n (by omega)]) <;> rfl) (by intro row h19 h26; (repeat rw [ks_n (by omega)]) <;> rfl) h.2.2.2.2.2.2.2.2.2.1), (rMon_f (by (repeat rw [ks_n (by omega)]) <;> rfl) (by intro k; (repeat rw [ks_n (by omega)]) <;> rfl) (by intro k; (repeat rw [ks_n (by omega)]) <;> rfl) (by intro k; (repeat rw [ks_n (by omega)]) <;> rfl) (by (repeat rw [ks_n (by omega)]) <;> rfl) (by intro i hi; (repeat rw [ks_n (by omega)]) <;> rfl) (by intro i hi; (repeat rw [ks_n (by omega)]) <;> rfl) (by intro i hi; (repeat rw [ks_n (by omega)]) <;> rfl) (by intro i hi; (repeat rw [ks_n (by omega)]) <;> rfl) (by intro i hi; (repeat rw [ks_n (by omega)]) <;> rfl) h.2.2.2.2.2.2.2.2.2.2)⟩
            obtain ⟨a1, a2, a3, a4⟩ := h.1 i hi
            rw [ks_n (i := b + 2) (a := b + 4) (by omega), ks_n (i := 1) (a := 2) (by omega)]
            by_cases hi2 : i = 8 * p + w
            · subst hi2
              rw [ks_s, ks_s]
              exact ⟨rfl, a2, ⟨n, by omega, rfl⟩, a4⟩
            · rw [ks_k hi2, ks_k (by omega)]
              exact ⟨a1, a2, a3, a4⟩
    · exact ⟨0, K, ks M 0 0 0, by simp [f_X8_put, hb, oc, hy.1], by simp [f_X9_put, st, hy.2 _ _ ⟨c, hc, rfl⟩], h0⟩
  · exact ⟨0, K, ks M 0 0 0, by simp [f_X8_put, (hn K M).1, oc], by simp [f_X9_put, st, M_isPh0 (hn K _).2], h0⟩
theorem s_place (h : RR T K M) (x : Int32) : ∃ r M', f_X8_place x K = some r ∧ f_X9_place x M = some (r, M') ∧ RR T K M' := by
  have h0 := RR_code 0 h
  rcases cr_cases x with ⟨b, c, hbc, rfl, hc, hb⟩ | hn
  · refine ⟨K b 9, ks M 0 0 0, by simp [f_X8_place, hb, oc], ?_, h0⟩
    have e := (RR_in hbc h0).2.2.2.2.2.2.1.1
    simp [f_X9_place, st, M_isCr hc, inb_t hc, ix_nI (show c < 2147483648 by omega), e]
  · exact ⟨-1, ks M 0 0 0, by simp [f_X8_place, (hn K M).1, oc], by simp [f_X9_place, st, (hn K _).2], h0⟩
theorem s_fault (h : RR T K M) (x y z : Int32) : ∃ r K' M', f_X8_fault x y z K = some (r, K') ∧ f_X9_fault x y z M = some (r, M') ∧ RR T K' M' := by
  have h0 := RR_code 0 h
  rcases cr_cases x with ⟨b, c, hbc, rfl, hc, hb⟩ | hn
  · rcases ph_cases y with ⟨p, hp, rfl⟩ | hy
    · rcases i_cases z 4 (by omega) with hz | ⟨hz, hz8⟩ | ⟨w, hw, rfl⟩
      · exact ⟨0, K, ks M 0 0 0, by simp [f_X8_fault, hb, oc, C_isPh hp, hz], by simp [f_X9_fault, st, M_isPh hc hp, hz], h0⟩
      · have h9 : ¬ z ≤ (3 : Int32) := Int32.not_le.mpr (Int32.lt_of_lt_of_le (by decide) (show (4 : Int32) ≤ z from hz8))
        exact ⟨0, K, ks M 0 0 0, by simp [f_X8_fault, hb, oc, C_isPh hp, hz, h9], by simp [f_X9_fault, st, M_isPh hc hp, hz, h9], h0⟩
      · have h9 : nI w ≤ (3 : Int32) := (le_nI (b := 3) (by omega) (by omega)).mpr (by omega)
        have hz : ¬ nI w < 0 := nI_ge0 (by omega)
        refine ⟨1, ks K (b + 18) p (nI w), ks (ks M 0 0 0) 14 (8 * c + p) (nI w), ?_, ?_, RR_up hbc h0 (oK_ks (i := 18) (by omega)) (oM_ks (by unfold slc; omega)) ?_⟩
        · simp [f_X8_fault, st, hb, oc, C_isPh hp, hz, h9, inb_t hp, ix_nI (show p < 2147483648 by omega)]
        · have hi : inb (nI (8 * c + p)) 16 = true := inb_t (by omega) (by omega)
          simp only [f_X9_fault, st, M_isPh hc hp, ob, n10, hz, h9, if_false, if_true, n_8, n_ak, hi]
          rw [ix_nI (by omega)]
        · have h := RR_in hbc h0
          generalize ks M 0 0 0 = M at h ⊢
          refine ⟨(rTab_f (by intro k; (repeat rw [ks_n (by omega)]) <;> rfl) (by intro k; (repeat rw [ks_n (by omega)]) <;> rfl) (by intro i hi; (repeat rw [ks_n (by omega)]) <;> rfl) (by intro i hi; (repeat rw [ks_n (by omega)]) <;> rfl) h.1), (rUse_f (by (repeat rw [ks_n (by omega)]) <;> rfl) (by intro i hi; (repeat rw [ks_n (by omega)]) <;> rfl) (by intro i hi; (repeat rw [ks_n (by omega)]) <;> rfl) h.2.1), (rCal_f (by (repeat rw [ks_n (by omega)]) <;> rfl) (by (repeat rw [ks_n (by omega)]) <;> rfl) (by intro i hi; (repeat rw [ks_n (by omega)]) <;> rfl) (by intro i hi; (repeat rw [ks_n (by omega)]) <;> rfl) (by intro i hi; (repeat rw [ks_n (by omega)]) <;> rfl) h.2.2.1), (rDet_f (by intro k; (repeat rw [ks_n (by omega)]) <;> rfl) (by intro k; (repeat rw [ks_n (by omega)]) <;> rfl) (by intro k; (repeat rw [ks_n (by omega)]) <;> rfl) (by intro i hi; (repeat rw [ks_n (by omega)]) <;> rfl) (by intro i hi; (repeat rw [ks_n (by omega)]) <;> rfl) (by intro i hi; (repeat rw [ks_n (by omega)]) <;> rfl) h.2.2.2.1), (rLnk_f (by intro k; (repeat rw [ks_n (by omega)]) <;> rfl) (fun j _ e => by (repeat rw [ks_n (by omega)]) <;> exact e) (by (repeat rw [ks_n (by omega)]) <;> rfl) (by (repeat rw [ks_n (by omega)]) <;> rfl) (by (repeat rw [ks_n (by omega)]) <;> rfl) (by (repeat rw [ks_n (by omega)]) <;> rfl) h.2.2.2.2.1), (rInp_f (by intro k; (repeat rw [ks_n (by omega)]) <;> rfl) (by intro k; (repeat rw [ks_n (by omega)]) <;> rfl) (by intro i hi; (repeat rw [ks_n (by omega)]) <;> rfl) (by intro i hi; (repeat rw [ks_n (by omega)]) <;> rfl) h.2.2.2.2.2.1), (rSc_f (by (repeat rw [ks_n (by omega)]) <;> rfl) (by (repeat rw [ks_n (by omega)]) <;> rfl) (by (repeat rw [ks_n (by omega)]) <;> rfl) (by (repeat rw [ks_n (by omega)]) <;> rfl) (by (repeat rw [ks_n (by omega)]) <;> rfl) (by (repeat rw [ks_n (by omega)]) <;> rfl) (by (repeat rw [ks_n (by omega)]) <;> rfl) (by (repeat rw [ks_n (by omega)]) <;> rfl) (by (repeat rw [ks_n (by omega)]) <;> rfl) (by (repeat rw [ks_n (by omega)]) <;> rfl) h.2.2.2.2.2.2.1), (rHad_f (by (repeat rw [ks_n (by omega)]) <;> rfl) (by (repeat rw [ks_n (by omega)]) <;> rfl) (by intro i hi; (repeat rw [ks_n (by omega)]) <;> rfl) (by intro i hi; (repeat rw [ks_n (by omega)]) <;> rfl) (by intro i hi; (repeat rw [ks_n (by omega)]) <;> rfl) h.2.2.2.2.2.2.2.1), (rRing_f (by omega) (by intro k; (repeat rw [ks_n (by omega)]) <;> rfl) (by intro i hi; (repeat rw [ks_n (by omega)]) <;> rfl) (by (repeat rw [ks_n (by omega)]) <;> rfl) (by intro row h19 h26; (repeat rw [ks_n (by omega)]) <;> rfl) h.2.2.2.2.2.2.2.2.1), (rRing_f (by omega) (by intro k; (repeat rw [ks_n (by omega)]) <;> rfl) (by intro i hi; (repeat rw [ks_n (by omega)]) <;> rfl) (by (repeat rw [ks_n (by omega)]) <;> rfl) (by intro row h19 h26; (repeat rw [ks_n (by omega)]) <;> rfl) h.2.2.2.2.2.2.2.2.2.1), ⟨?_, fun q hq => ?_⟩⟩
          · rw [ks_n (by omega)]
            exact h.2.2.2.2.2.2.2.2.2.2.1
          · obtain ⟨a1, a2, a3, a4, a5, a6⟩ := h.2.2.2.2.2.2.2.2.2.2.2 q hq
            rw [ks_n (a := b + 15) (by omega), ks_n (a := b + 14) (by omega), ks_n (a := b + 12) (by omega), ks_n (a := 18) (by omega), ks_n (a := 17) (by omega), ks_n (a := 16) (by omega), ks_n (a := 8) (by omega), ks_n (a := 5) (by omega)]
            refine ⟨a1, a2, a3, a4, ?_⟩
            by_cases hqp : q = p
            · subst hqp
              rw [ks_s, ks_s]
              exact ⟨rfl, w, hw, rfl⟩
            · rw [ks_k hqp, ks_k (by omega)]
              exact ⟨a5, a6⟩
    · exact ⟨0, K, ks M 0 0 0, by simp [f_X8_fault, hb, oc, hy.1], by simp [f_X9_fault, st, hy.2 _ _ ⟨c, hc, rfl⟩], h0⟩
  · exact ⟨0, K, ks M 0 0 0, by simp [f_X8_fault, (hn K M).1, oc], by simp [f_X9_fault, st, M_isPh0 (hn K _).2], h0⟩
end Fc
