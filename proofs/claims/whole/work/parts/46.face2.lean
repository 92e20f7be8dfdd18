/-! THE FACE: detect, press, target, preempt -/
section Fd
variable {T : Nat} {K M : Mem}
theorem z01_one {x : Int32} (h : z01 x) (h0 : ¬ x = 0) : x = 1 := h.elim (fun e => absurd e h0) id
theorem s_detect (h : RR T K M) (x y z : Int32) (hz : z01 z) : ∃ r K' M', f_X8_detect x y z K = some (r, K') ∧ f_X9_detect x y z M = some (r, M') ∧ RR T K' M' := by
  have h0 := RR_code 0 h
  rcases cr_cases x with ⟨b, c, hbc, rfl, hc, hb⟩ | hn
  · rcases ph_cases y with ⟨p, hp, rfl⟩ | hy
    · obtain ⟨m, e1, e2⟩ : ∃ m, f_X1_turn (b + 5) (nI p) z K = some (ks K (b + 5) 2 m) ∧ mk m (fun q => if q = p then decide (z = 1) else one M 11 (8 * c + q)) := by
        have hD := (RR_in hbc h).2.2.2.1.1
        unfold f_X1_turn
        by_cases hz0 : z = 0
        · refine ⟨K (b + 5) 2 &&& (jshl 1 (nI p) ^^^ (-1)), by simp [hz0, C_bit hp, st], mk_congr (mk_andn hD (bit_lt p hp)) (fun i hi => ?_)⟩
          by_cases hip : i = p
          · simp [hip, hz0]
          · simp [hip]
        · have hz1 := z01_one hz hz0
          refine ⟨K (b + 5) 2 ||| jshl 1 (nI p), by simp [hz0, C_bit hp, st], mk_congr (mk_or hD (bit_lt p hp)) (fun i hi => ?_)⟩
          by_cases hip : i = p
          · simp [hip, hz1]
          · simp [hip]
      refine ⟨1, ks K (b + 5) 2 m, ks (ks M 0 0 0) 11 (8 * c + p) z, ?_, ?_, RR_up hbc h0 (oK_ks (i := 5) (by omega)) (oM_ks (by unfold slc; omega)) ?_⟩
      · simp [f_X8_detect, hb, oc, C_isPh hp, e1]
      · have hi : inb (nI (8 * c + p)) 16 = true := inb_t (by omega) (by omega)
        simp only [f_X9_detect, st, M_isPh hc hp, ob, n10, if_false, if_true, n_8, n_ak, hi, z01_nar hz]
        rw [ix_nI (by omega)]
      · have h := RR_in hbc h0
        have e2 : mk m (fun q => if q = p then decide (z = 1) else one (ks M 0 0 0) 11 (8 * c + q)) := mk_congr e2 (fun i hi => by unfold one; rw [ks_n (a := 11) (by omega)])
        generalize ks M 0 0 0 = M at h e2 ⊢
        refine ⟨(rTab_f (by intro k; (repeat rw [ks_n (by omega)]) <;> rfl) (by intro k; (repeat rw [ks_n (by omega)]) <;> rfl) (by intro i hi; (repeat rw [ks_n (by omega)]) <;> rfl) (by intro i hi; (repeat rw [ks_n (by omega)]) <;> rfl) h.1), (rUse_f (by (repeat rw [ks_n (by omega)]) <;> rfl) (by intro i hi; (repeat rw [ks_n (by omega)]) <;> rfl) (by intro i hi; (repeat rw [ks_n (by omega)]) <;> rfl) h.2.1), (rCal_f (by (repeat rw [ks_n (by omega)]) <;> rfl) (by (repeat rw [ks_n (by omega)]) <;> rfl) (by intro i hi; (repeat rw [ks_n (by omega)]) <;> rfl) (by intro i hi; (repeat rw [ks_n (by omega)]) <;> rfl) (by intro i hi; (repeat rw [ks_n (by omega)]) <;> rfl) h.2.2.1), ⟨?_, ?_, fun q hq => ?_⟩, (rLnk_f (by intro k; (repeat rw [ks_n (by omega)]) <;> rfl) (fun j _ e => by (repeat rw [ks_n (by omega)]) <;> exact e) (by (repeat rw [ks_n (by omega)]) <;> rfl) (by (repeat rw [ks_n (by omega)]) <;> rfl) (by (repeat rw [ks_n (by omega)]) <;> rfl) (by (repeat rw [ks_n (by omega)]) <;> rfl) h.2.2.2.2.1), (rInp_f (by intro k; (repeat rw [ks_n (by omega)]) <;> rfl) (by intro k; (repeat rw [ks_n (by omega)]) <;> rfl) (by intro i hi; (repeat rw [ks_n (by omega)]) <;> rfl) (by intro i hi; (repeat rw [ks_n (by omega)]) <;> rfl) h.2.2.2.2.2.1), (rSc_f (by (repeat rw [ks_n (by omega)]) <;> rfl) (by (repeat rw [ks_n (by omega)]) <;> rfl) (by (repeat rw [ks_n (by omega)]) <;> rfl) (by (repeat rw [ks_n (by omega)]) <;> rfl) (by (repeat rw [ks_n (by omega)]) <;> rfl) (by (repeat rw [ks_n (by omega)]) <;> rfl) (by (repeat rw [ks_n (by omega)]) <;> rfl) (by (repeat rw [ks_n (by omega)]) <;> rfl) (by (repeat rw [ks_n (by omega)]) <;> rfl) (by (repeat rw [ks_n (by omega)]) <;> rfl) h.2.2.2.2.2.2.1), (rHad_f (by (repeat rw [ks_n (by omega)]) <;> rfl) (by (repeat rw [ks_n (by omega)]) <;> rfl) (by intro i hi; (repeat rw [ks_n (by omega)]) <;> rfl) (by intro i hi; (repeat rw [ks_n (by omega)]) <;> rfl) (by intro i hi; (repeat rw [ks_n (by omega)]) <;> rfl) h.2.2.2.2.2.2.2.1), (rRing_f (by omega) (by intro k; (repeat rw [ks_n (by omega)]) <;> rfl) (by intro i hi; (repeat rw [ks_n (by omega)]) <;> rfl) (by (repeat rw [ks_n (by omega)]) <;> rfl) (by intro row h19 h26; (repeat rw [ks_n (by omega)]) <;> rfl) h.2.2.2.2.2.2.2.2.1), (rRing_f (by omega) (by intro k; (repeat rw [ks_n (by omega)]) <;> rfl) (by intro i hi; (repeat rw [ks_n (by omega)]) <;> rfl) (by (repeat rw [ks_n (by omega)]) <;> rfl) (by intro row h19 h26; (repeat rw [ks_n (by omega)]) <;> rfl) h.2.2.2.2.2.2.2.2.2.1), (rMon_f (by (repeat rw [ks_n (by omega)]) <;> rfl) (by intro k; (repeat rw [ks_n (by omega)]) <;> rfl) (by intro k; (repeat rw [ks_n (by omega)]) <;> rfl) (by intro k; (repeat rw [ks_n (by omega)]) <;> rfl) (by (repeat rw [ks_n (by omega)]) <;> rfl) (by intro i hi; (repeat rw [ks_n (by omega)]) <;> rfl) (by intro i hi; (repeat rw [ks_n (by omega)]) <;> rfl) (by intro i hi; (repeat rw [ks_n (by omega)]) <;> rfl) (by intro i hi; (repeat rw [ks_n (by omega)]) <;> rfl) (by intro i hi; (repeat rw [ks_n (by omega)]) <;> rfl) h.2.2.2.2.2.2.2.2.2.2)⟩
        · rw [ks_s]
          refine mk_congr e2 (fun i hi => ?_)
          unfold one
          by_cases hip : i = p
          · subst hip
            rw [ks_s, if_pos rfl]
          · rw [if_neg hip, ks_k (by omega)]
        · rw [ks_k (by omega)]
          refine mk_congr h.2.2.2.1.2.1 (fun i hi => ?_)
          rw [ks_n (a := 12) (by omega)]
        · obtain ⟨a1, a2⟩ := h.2.2.2.1.2.2 q hq
          rw [ks_n (a := b + 6) (by omega), ks_n (a := b + 7) (by omega), ks_n (a := 12) (by omega), ks_n (a := 13) (by omega)]
          refine ⟨?_, a2⟩
          by_cases hqp : q = p
          · subst hqp
            rw [ks_s]
            exact hz
          · rw [ks_k (by omega)]
            exact a1
    · exact ⟨0, K, ks M 0 0 0, by simp [f_X8_detect, hb, oc, hy.1], by simp [f_X9_detect, st, hy.2 _ _ ⟨c, hc, rfl⟩], h0⟩
  · exact ⟨0, K, ks M 0 0 0, by simp [f_X8_detect, (hn K M).1, oc], by simp [f_X9_detect, st, M_isPh0 (hn K _).2], h0⟩
theorem s_press (h : RR T K M) (x y : Int32) : ∃ r K' M', f_X8_press x y K = some (r, K') ∧ f_X9_press x y M = some (r, M') ∧ RR T K' M' := by
  have h0 := RR_code 0 h
  rcases cr_cases x with ⟨b, c, hbc, rfl, hc, hb⟩ | hn
  · rcases ph_cases y with ⟨p, hp, rfl⟩ | hy
    · have hR := RR_in hbc h0
      generalize hM0 : ks M 0 0 0 = M0 at h0 hR
      have hU := hR.2.1
      have hS := hR.2.2.2.2.2.2.1
      have ht := mk_tst hU.1 hp
      have hi16 : inb (nI (8 * c + p)) 16 = true := inb_t (by omega) (by omega)
      have hix : ix (nI (8 * c + p)) = 8 * c + p := ix_nI (by omega)
      have hat : f_X7_at (b + 3) (nI p) 5 K = some (M0 2 (64 * c + (8 * p + 5))) := by
        rw [C_at5 hp, show b + 3 + 1 = b + 4 from rfl, (hR.1 (8 * p + 5) (by omega)).2.1]
      by_cases hu : M0 8 (8 * c + p) = 0
      · have hu1 : K b 10 &&& jshl 1 (nI p) = 0 := ht.mpr (by unfold one; rw [hu]; decide)
        refine ⟨0, K, M0, ?_, ?_, h0⟩
        · by_cases hw : K b 11 = 0 <;> simp [f_X8_press, hb, oc, C_isPh hp, f_X0_takeButton, C_bit hp, hu1, hw, lt]
        · simp only [f_X9_press, st, hM0, M_isPh hc hp, ob, n10, if_false, M_runs hc, n_8, n_ak, hi16, hix, hu, if_true]
          cases decide (M0 4 c = 0 ∧ M0 5 c = 0) <;> simp [bi]
      · have hu8 : M0 8 (8 * c + p) = 1 := z01_one (hU.2 p hp).1 hu
        have hu1 : ¬ K b 10 &&& jshl 1 (nI p) = 0 := fun e => by have := ht.mp e; unfold one at this; rw [hu8] at this; cases this
        have hne : ¬ K b 10 = 0 := fun e => by
          have := (mk_eq0 hU.1).mp e p hp
          unfold one at this; rw [hu8] at this; cases this
        have h4 : M0 4 c = 0 := by rw [hS.2.2.2.2.1, decide_eq_false hne]; rfl
        have h5 := hS.2.1
        by_cases hw : M0 2 (64 * c + (8 * p + 5)) = 0
        · refine ⟨0, K, M0, ?_, ?_, h0⟩
          · by_cases hf : K b 11 = 0 <;> simp [f_X8_press, hb, oc, C_isPh hp, f_X0_takeButton, C_bit hp, hu1, hat, hw, hf, lt]
          · simp only [f_X9_press, st, hM0, M_isPh hc hp, ob, n10, if_false, M_runs hc, n_8, n_ak, hi16, hix, hu, if_true, M_entry5 hc hp, hw]
            cases decide (M0 4 c = 0 ∧ M0 5 c = 0) <;> simp [bi]
        · by_cases hf : K b 11 = 0
          · have hr : decide (M0 4 c = 0 ∧ M0 5 c = 0) = true := decide_eq_true ⟨h4, by rw [← h5]; exact hf⟩
            refine ⟨1, ks K b 14 (K b 14 ||| jshl 1 (nI p)), ks M0 10 (8 * c + p) 1, ?_, ?_, RR_up hbc h0 (oK_ks (i := 0) (by omega)) (oM_ks (by unfold slc; omega)) ?_⟩
            · simp [f_X8_press, hb, oc, C_isPh hp, f_X0_takeButton, C_bit hp, hu1, hat, hw, hf, lt, st]
            · simp only [f_X9_press, st, hM0, M_isPh hc hp, ob, n10, if_false, M_runs hc, n_8, n_ak, hi16, hix, hu, if_true, M_entry5 hc hp, hw, hr, bi_t, nar_1]
            · have h := hR
              refine ⟨(rTab_f (by intro k; (repeat rw [ks_n (by omega)]) <;> rfl) (by intro k; (repeat rw [ks_n (by omega)]) <;> rfl) (by intro i hi; (repeat rw [ks_n (by omega)]) <;> rfl) (by intro i hi; (repeat rw [ks_n (by omega)]) <;> rfl) h.1), (rUse_f (by (repeat rw [ks_n (by omega)]) <;> rfl) (by intro i hi; (repeat rw [ks_n (by omega)]) <;> rfl) (by intro i hi; (repeat rw [ks_n (by omega)]) <;> rfl) h.2.1), ⟨?_, ?_, fun q hq => ?_⟩, (rDet_f (by intro k; (repeat rw [ks_n (by omega)]) <;> rfl) (by intro k; (repeat rw [ks_n (by omega)]) <;> rfl) (by intro k; (repeat rw [ks_n (by omega)]) <;> rfl) (by intro i hi; (repeat rw [ks_n (by omega)]) <;> rfl) (by intro i hi; (repeat rw [ks_n (by omega)]) <;> rfl) (by intro i hi; (repeat rw [ks_n (by omega)]) <;> rfl) h.2.2.2.1), (rLnk_f (by intro k; (repeat rw [ks_n (by omega)]) <;> rfl) (fun j _ e => by (repeat rw [ks_n (by omega)]) <;> exact e) (by (repeat rw [ks_n (by omega)]) <;> rfl) (by (repeat rw [ks_n (by omega)]) <;> rfl) (by (repeat rw [ks_n (by omega)]) <;> rfl) (by (repeat rw [ks_n (by omega)]) <;> rfl) h.2.2.2.2.1), (rInp_f (by intro k; (repeat rw [ks_n (by omega)]) <;> rfl) (by intro k; (repeat rw [ks_n (by omega)]) <;> rfl) (by intro i hi; (repeat rw [ks_n (by omega)]) <;> rfl) (by intro i hi; (repeat rw [ks_n (by omega)]) <;> rfl) h.2.2.2.2.2.1), (rSc_f (by (repeat rw [ks_n (by omega)]) <;> rfl) (by (repeat rw [ks_n (by omega)]) <;> rfl) (by (repeat rw [ks_n (by omega)]) <;> rfl) (by (repeat rw [ks_n (by omega)]) <;> rfl) (by (repeat rw [ks_n (by omega)]) <;> rfl) (by (repeat rw [ks_n (by omega)]) <;> rfl) (by (repeat rw [ks_n (by omega)]) <;> rfl) (by (repeat rw [ks_n (by omega)]) <;> rfl) (by (repeat rw [ks_n (by omega)]) <;> rfl) (by (repeat rw [ks_n (by omega)]) <;> rfl) h.2.2.2.2.2.2.1), (rHad_f (by (repeat rw [ks_n (by omega)]) <;> rfl) (by (repeat rw [ks_n (by omega)]) <;> rfl) (by intro i hi; (repeat rw [ks_n (by omega)]) <;> rfl) (by intro i hi; (repeat rw [ks_n (by omega)]) <;> rfl) (by intro i hi; (repeat rw [ks_n (by omega)]) <;> rfl) h.2.2.2.2.2.2.2.1), (rRing_f (by omega) (by intro k; (repeat rw [ks_n (by omega)]) <;> rfl) (by intro i hi; (repeat rw [ks_n (by omega)]) <;> rfl) (by (repeat rw [ks_n (by omega)]) <;> rfl) (by intro row h19 h26; (repeat rw [ks_n (by omega)]) <;> rfl) h.2.2.2.2.2.2.2.2.1), (rRing_f (by omega) (by intro k; (repeat rw [ks_n (by omega)]) <;> rfl) (by intro i hi; (repeat rw [ks_n (by omega)]) <;> rfl) (by (repeat rw [ks_n (by omega)]) <;> rfl) (by intro row h19 h26; (repeat rw [ks_n (by omega)]) <;> rfl) h.2.2.2.2.2.2.2.2.2.1), (rMon_f (by (repeat rw [ks_n (by omega)]) <;> rfl) (by intro k; (repeat rw [ks_n (by omega)]) <;> rfl) (by intro k; (repeat rw [ks_n (by omega)]) <;> rfl) (by intro k; (repeat rw [ks_n (by omega)]) <;> rfl) (by (repeat rw [ks_n (by omega)]) <;> rfl) (by intro i hi; (repeat rw [ks_n (by omega)]) <;> rfl) (by intro i hi; (repeat rw [ks_n (by omega)]) <;> rfl) (by intro i hi; (repeat rw [ks_n (by omega)]) <;> rfl) (by intro i hi; (repeat rw [ks_n (by omega)]) <;> rfl) (by intro i hi; (repeat rw [ks_n (by omega)]) <;> rfl) h.2.2.2.2.2.2.2.2.2.2)⟩
              · rw [ks_k (by omega)]
                exact mk_congr h.2.2.1.1 (fun i hi => by unfold one; rw [ks_n (a := 9) (by omega)])
              · rw [ks_s]
                refine mk_congr (mk_or h.2.2.1.2.1 (bit_lt p hp)) (fun i hi => ?_)
                unfold one
                by_cases hip : i = p
                · subst hip
                  simp [ks_s]
                · rw [ks_k (by omega)]
                  simp [hip]
              · obtain ⟨a1, a2, a3, a4⟩ := h.2.2.1.2.2 q hq
                rw [ks_n (a := 9) (by omega), ks_n (a := 8) (by omega)]
                refine ⟨a1, ?_, a3, ?_⟩
                · by_cases hqp : q = p
                  · subst hqp
                    rw [ks_s]
                    exact Or.inr rfl
                  · rw [ks_k (by omega)]
                    exact a2
                · by_cases hqp : q = p
                  · subst hqp
                    exact fun _ => hu8
                  · rw [ks_k (by omega)]
                    exact a4
          · have hr : decide (M0 4 c = 0 ∧ M0 5 c = 0) = false := decide_eq_false (fun e => hf (by rw [h5]; exact e.2))
            refine ⟨0, K, M0, ?_, ?_, h0⟩
            · simp [f_X8_press, hb, oc, C_isPh hp, f_X0_takeButton, C_bit hp, hu1, hat, hw, hf, lt]
            · simp only [f_X9_press, st, hM0, M_isPh hc hp, ob, n10, if_false, M_runs hc, hr, bi_f, if_true]
    · exact ⟨0, K, ks M 0 0 0, by simp [f_X8_press, hb, oc, hy.1], by simp [f_X9_press, st, hy.2 _ _ ⟨c, hc, rfl⟩], h0⟩
  · exact ⟨0, K, ks M 0 0 0, by simp [f_X8_press, (hn K M).1, oc], by simp [f_X9_press, st, M_isPh0 (hn K _).2], h0⟩
theorem in_cases (x : Int32) : (∃ i, i < 2 ∧ x = nI i ∧ ¬ x < 0 ∧ x ≤ 1 ∧ ∀ K, f_X8_isInput x K = some 1) ∨ ((∀ K, f_X8_isInput x K = some 0) ∧ (x < 0 ∨ (¬ x < 0 ∧ ¬ x ≤ 1))) := by
  rcases i_cases x 2 (by omega) with h | ⟨h, h2⟩ | ⟨i, hi, rfl⟩
  · exact Or.inr ⟨fun K => by rw [f_X8_isInput, if_pos h], Or.inl h⟩
  · have h2 : (2 : Int32) ≤ x := h2
    exact Or.inr ⟨fun K => by rw [f_X8_isInput, if_neg h, if_pos h2], Or.inr ⟨h, Int32.not_le.mpr (Int32.lt_of_lt_of_le (by decide) h2)⟩⟩
  · have h2 : ¬ (2 : Int32) ≤ nI i := fun e => absurd ((q_le 2 i (by omega) (by omega)).mp e) (by omega)
    exact Or.inl ⟨i, hi, rfl, nI_ge0 (by omega), (le_nI (b := 1) (by omega) (by omega)).mpr (by omega), fun K => by rw [f_X8_isInput, if_neg (nI_ge0 (by omega)), if_neg h2]⟩
theorem s_target (h : RR T K M) (x y z : Int32) : ∃ r K' M', f_X8_target x y z K = some (r, K') ∧ f_X9_target x y z M = some (r, M') ∧ RR T K' M' := by
  have h0 := RR_code 0 h
  rcases cr_cases x with ⟨b, c, hbc, rfl, hc, hb⟩ | hn
  · rcases ph_cases z with ⟨p, hp, rfl⟩ | hy
    · rcases in_cases y with ⟨i, hi, rfl, n1, n2, n3⟩ | ⟨n3, n1⟩
      · refine ⟨1, ks K (b + 11) i (nI p), ks (ks M 0 0 0) 27 (2 * c + i) (nI p), ?_, ?_, RR_up hbc h0 (oK_ks (i := 11) (by omega)) (oM_ks (by unfold slc; omega)) ?_⟩
        · simp [f_X8_target, hb, oc, C_isPh hp, n3, f_X2_aim, inb_t hi, ix_nI (show i < 2147483648 by omega), st]
        · have hi4 : inb (nI (2 * c + i)) 4 = true := inb_t (by omega) (by omega)
          simp only [f_X9_target, st, M_isPh hc hp, ob, n10, if_false, n1, n2, if_true, n_2, n_ak, hi4]
          rw [ix_nI (by omega)]
        · have h := RR_in hbc h0
          generalize ks M 0 0 0 = M at h ⊢
          refine ⟨(rTab_f (by intro k; (repeat rw [ks_n (by omega)]) <;> rfl) (by intro k; (repeat rw [ks_n (by omega)]) <;> rfl) (by intro i hi; (repeat rw [ks_n (by omega)]) <;> rfl) (by intro i hi; (repeat rw [ks_n (by omega)]) <;> rfl) h.1), (rUse_f (by (repeat rw [ks_n (by omega)]) <;> rfl) (by intro i hi; (repeat rw [ks_n (by omega)]) <;> rfl) (by intro i hi; (repeat rw [ks_n (by omega)]) <;> rfl) h.2.1), (rCal_f (by (repeat rw [ks_n (by omega)]) <;> rfl) (by (repeat rw [ks_n (by omega)]) <;> rfl) (by intro i hi; (repeat rw [ks_n (by omega)]) <;> rfl) (by intro i hi; (repeat rw [ks_n (by omega)]) <;> rfl) (by intro i hi; (repeat rw [ks_n (by omega)]) <;> rfl) h.2.2.1), (rDet_f (by intro k; (repeat rw [ks_n (by omega)]) <;> rfl) (by intro k; (repeat rw [ks_n (by omega)]) <;> rfl) (by intro k; (repeat rw [ks_n (by omega)]) <;> rfl) (by intro i hi; (repeat rw [ks_n (by omega)]) <;> rfl) (by intro i hi; (repeat rw [ks_n (by omega)]) <;> rfl) (by intro i hi; (repeat rw [ks_n (by omega)]) <;> rfl) h.2.2.2.1), (rLnk_f (by intro k; (repeat rw [ks_n (by omega)]) <;> rfl) (fun j _ e => by (repeat rw [ks_n (by omega)]) <;> exact e) (by (repeat rw [ks_n (by omega)]) <;> rfl) (by (repeat rw [ks_n (by omega)]) <;> rfl) (by (repeat rw [ks_n (by omega)]) <;> rfl) (by (repeat rw [ks_n (by omega)]) <;> rfl) h.2.2.2.2.1), (fun q hq => ?_), (rSc_f (by (repeat rw [ks_n (by omega)]) <;> rfl) (by (repeat rw [ks_n (by omega)]) <;> rfl) (by (repeat rw [ks_n (by omega)]) <;> rfl) (by (repeat rw [ks_n (by omega)]) <;> rfl) (by (repeat rw [ks_n (by omega)]) <;> rfl) (by (repeat rw [ks_n (by omega)]) <;> rfl) (by (repeat rw [ks_n (by omega)]) <;> rfl) (by (repeat rw [ks_n (by omega)]) <;> rfl) (by (repeat rw [ks_n (by omega)]) <;> rfl) (by (repeat rw [ks_n (by omega)]) <;> rfl) h.2.2.2.2.2.2.1), (rHad_f (by (repeat rw [ks_n (by omega)]) <;> rfl) (by (repeat rw [ks_n (by omega)]) <;> rfl) (by intro i hi; (repeat rw [ks_n (by omega)]) <;> rfl) (by intro i hi; (repeat rw [ks_n (by omega)]) <;> rfl) (by intro i hi; (repeat rw [ks_n (by omega)]) <;> rfl) h.2.2.2.2.2.2.2.1), (rRing_f (by omega) (by intro k; (repeat rw [ks_n (by omega)]) <;> rfl) (by intro i hi; (repeat rw [ks_n (by omega)]) <;> rfl) (by (repeat rw [ks_n (by omega)]) <;> rfl) (by intro row h19 h26; (repeat rw [ks_n (by omega)]) <;> rfl) h.2.2.2.2.2.2.2.2.1), (rRing_f (by omega) (by intro k; (repeat rw [ks_n (by omega)]) <;> rfl) (by intro i hi; (repeat rw [ks_n (by omega)]) <;> rfl) (by (repeat rw [ks_n (by omega)]) <;> rfl) (by intro row h19 h26; (repeat rw [ks_n (by omega)]) <;> rfl) h.2.2.2.2.2.2.2.2.2.1), (rMon_f (by (repeat rw [ks_n (by omega)]) <;> rfl) (by intro k; (repeat rw [ks_n (by omega)]) <;> rfl) (by intro k; (repeat rw [ks_n (by omega)]) <;> rfl) (by intro k; (repeat rw [ks_n (by omega)]) <;> rfl) (by (repeat rw [ks_n (by omega)]) <;> rfl) (by intro i hi; (repeat rw [ks_n (by omega)]) <;> rfl) (by intro i hi; (repeat rw [ks_n (by omega)]) <;> rfl) (by intro i hi; (repeat rw [ks_n (by omega)]) <;> rfl) (by intro i hi; (repeat rw [ks_n (by omega)]) <;> rfl) (by intro i hi; (repeat rw [ks_n (by omega)]) <;> rfl) h.2.2.2.2.2.2.2.2.2.2)⟩
          obtain ⟨a1, a2, a3, a4⟩ := h.2.2.2.2.2.1 q hq
          rw [ks_n (a := b + 10) (by omega), ks_n (a := 28) (by omega)]
          refine ⟨a1, a2, ?_⟩
          by_cases hqp : q = i
          · subst hqp
            rw [ks_s, ks_s]
            exact ⟨rfl, Or.inr ⟨p, hp, rfl⟩⟩
          · rw [ks_k hqp, ks_k (by omega)]
            exact ⟨a3, a4⟩
      · refine ⟨0, K, ks M 0 0 0, by simp [f_X8_target, hb, oc, n3], ?_, h0⟩
        rcases n1 with n1 | ⟨n1, n2⟩ <;> simp [f_X9_target, st, M_isPh hc hp, *]
    · refine ⟨0, K, ks M 0 0 0, ?_, by simp [f_X9_target, st, hy.2 _ _ ⟨c, hc, rfl⟩], h0⟩
      rcases in_cases y with ⟨i, hi, rfl, n1, n2, n3⟩ | ⟨n3, n1⟩
      · simp [f_X8_target, hb, oc, n3, hy.1]
      · simp [f_X8_target, hb, oc, n3]
  · exact ⟨0, K, ks M 0 0 0, by simp [f_X8_target, (hn K M).1, oc], by simp [f_X9_target, st, M_isPh0 (hn K _).2], h0⟩
theorem s_preempt (h : RR T K M) (x y z : Int32) (hz : z01 z) : ∃ r K' M', f_X8_preempt x y z K = some (r, K') ∧ f_X9_preempt x y z M = some (r, M') ∧ RR T K' M' := by
  have h0 := RR_code 0 h
  rcases cr_cases x with ⟨b, c, hbc, rfl, hc, hb⟩ | hn
  · rcases in_cases y with ⟨i, hi, rfl, n1, n2, n3⟩ | ⟨n3, n1⟩
    · refine ⟨1, ks K (b + 10) i z, ks (ks M 0 0 0) 28 (2 * c + i) z, ?_, ?_, RR_up hbc h0 (oK_ks (i := 10) (by omega)) (oM_ks (by unfold slc; omega)) ?_⟩
      · simp [f_X8_preempt, hb, oc, n3, f_X2_turn, inb_t hi, ix_nI (show i < 2147483648 by omega), st, z01_nar hz]
      · have hi4 : inb (nI (2 * c + i)) 4 = true := inb_t (by omega) (by omega)
        simp only [f_X9_preempt, st, M_isCr hc, ob, n10, if_false, n1, n2, if_true, n_2, n_ak, hi4, z01_nar hz]
        rw [ix_nI (by omega)]
      · have h := RR_in hbc h0
        generalize ks M 0 0 0 = M at h ⊢
        refine ⟨(rTab_f (by intro k; (repeat rw [ks_n (by omega)]) <;> rfl) (by intro k; (repeat rw [ks_n (by omega)]) <;> rfl) (by intro i hi; (repeat rw [ks_n (by omega)]) <;> rfl) (by intro i hi; (repeat rw [ks_n (by omega)]) <;> rfl) h.1), (rUse_f (by (repeat rw [ks_n (by omega)]) <;> rfl) (by intro i hi; (repeat rw [ks_n (by omega)]) <;> rfl) (by intro i hi; (repeat rw [ks_n (by omega)]) <;> rfl) h.2.1), (rCal_f (by (repeat rw [ks_n (by omega)]) <;> rfl) (by (repeat rw [ks_n (by omega)]) <;> rfl) (by intro i hi; (repeat rw [ks_n (by omega)]) <;> rfl) (by intro i hi; (repeat rw [ks_n (by omega)]) <;> rfl) (by intro i hi; (repeat rw [ks_n (by omega)]) <;> rfl) h.2.2.1), (rDet_f (by intro k; (repeat rw [ks_n (by omega)]) <;> rfl) (by intro k; (repeat rw [ks_n (by omega)]) <;> rfl) (by intro k; (repeat rw [ks_n (by omega)]) <;> rfl) (by intro i hi; (repeat rw [ks_n (by omega)]) <;> rfl) (by intro i hi; (repeat rw [ks_n (by omega)]) <;> rfl) (by intro i hi; (repeat rw [ks_n (by omega)]) <;> rfl) h.2.2.2.1), (rLnk_f (by intro k; (repeat rw [ks_n (by omega)]) <;> rfl) (fun j _ e => by (repeat rw [ks_n (by omega)]) <;> exact e) (by (repeat rw [ks_n (by omega)]) <;> rfl) (by (repeat rw [ks_n (by omega)]) <;> rfl) (by (repeat rw [ks_n (by omega)]) <;> rfl) (by (repeat rw [ks_n (by omega)]) <;> rfl) h.2.2.2.2.1), (fun q hq => ?_), (rSc_f (by (repeat rw [ks_n (by omega)]) <;> rfl) (by (repeat rw [ks_n (by omega)]) <;> rfl) (by (repeat rw [ks_n (by omega)]) <;> rfl) (by (repeat rw [ks_n (by omega)]) <;> rfl) (by (repeat rw [ks_n (by omega)]) <;> rfl) (by (repeat rw [ks_n (by omega)]) <;> rfl) (by (repeat rw [ks_n (by omega)]) <;> rfl) (by (repeat rw [ks_n (by omega)]) <;> rfl) (by (repeat rw [ks_n (by omega)]) <;> rfl) (by (repeat rw [ks_n (by omega)]) <;> rfl) h.2.2.2.2.2.2.1), (rHad_f (by (repeat rw [ks_n (by omega)]) <;> rfl) (by (repeat rw [ks_n (by omega)]) <;> rfl) (by intro i hi; (repeat rw [ks_n (by omega)]) <;> rfl) (by intro i hi; (repeat rw [ks_n (by omega)]) <;> rfl) (by intro i hi; (repeat rw [ks_n (by omega)]) <;> rfl) h.2.2.2.2.2.2.2.1), (rRing_f (by omega) (by intro k; (repeat rw [ks_n (by omega)]) <;> rfl) (by intro i hi; (repeat rw [ks_n (by omega)]) <;> rfl) (by (repeat rw [ks_n (by omega)]) <;> rfl) (by intro row h19 h26; (repeat rw [ks_n (by omega)]) <;> rfl) h.2.2.2.2.2.2.2.2.1), (rRing_f (by omega) (by intro k; (repeat rw [ks_n (by omega)]) <;> rfl) (by intro i hi; (repeat rw [ks_n (by omega)]) <;> rfl) (by (repeat rw [ks_n (by omega)]) <;> rfl) (by intro row h19 h26; (repeat rw [ks_n (by omega)]) <;> rfl) h.2.2.2.2.2.2.2.2.2.1), (rMon_f (by (repeat rw [ks_n (by omega)]) <;> rfl) (by intro k; (repeat rw [ks_n (by omega)]) <;> rfl) (by intro k; (repeat rw [ks_n (by omega)]) <;> rfl) (by intro k; (repeat rw [ks_n (by omega)]) <;> rfl) (by (repeat rw [ks_n (by omega)]) <;> rfl) (by intro i hi; (repeat rw [ks_n (by omega)]) <;> rfl) (by intro i hi; (repeat rw [ks_n (by omega)]) <;> rfl) (by intro i hi; (repeat rw [ks_n (by omega)]) <;> rfl) (by intro i hi; (repeat rw [ks_n (by omega)]) <;> rfl) (by intro i hi; (repeat rw [ks_n (by omega)]) <;> rfl) h.2.2.2.2.2.2.2.2.2.2)⟩
        obtain ⟨a1, a2, a3, a4⟩ := h.2.2.2.2.2.1 q hq
        rw [ks_n (a := b + 11) (by omega), ks_n (a := 27) (by omega)]
        by_cases hqp : q = i
        · subst hqp
          rw [ks_s, ks_s]
          exact ⟨rfl, hz, a3, a4⟩
        · rw [ks_k hqp, ks_k (by omega)]
          exact ⟨a1, a2, a3, a4⟩
    · refine ⟨0, K, ks M 0 0 0, by simp [f_X8_preempt, hb, oc, n3], ?_, h0⟩
      rcases n1 with n1 | ⟨n1, n2⟩ <;> simp [f_X9_preempt, st, M_isCr hc, *]
  · exact ⟨0, K, ks M 0 0 0, by simp [f_X8_preempt, (hn K M).1, oc], by simp [f_X9_preempt, st, (hn K _).2], h0⟩
end Fd
