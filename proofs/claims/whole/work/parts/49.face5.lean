/-! THE FACE: message, plan -/
section Fg
variable {T b c : Nat} {K M : Mem}
theorem pl_cases (x : Int32) : (∃ j, j < 4 ∧ x = nI j) ∨ (x < 0 ∨ (¬ x < 0 ∧ (4 : Int32) ≤ x ∧ (3 : Int32) < x)) := by
  rcases i_cases x 4 (by omega) with h | ⟨h, h2⟩ | h
  · exact Or.inr (Or.inl h)
  · have h2 : (4 : Int32) ≤ x := h2
    exact Or.inr (Or.inr ⟨h, h2, Int32.lt_of_lt_of_le (by decide) h2⟩)
  · exact Or.inl h
theorem C_made {j : Nat} (hj : j < 4) (h : rPl K M) : f_X5_isMade (nI j) K = some (bi (!decide (M 29 j = 0))) := by
  have h4 : ¬ (4 : Int32) ≤ nI j := fun e => absurd ((q_le 4 j (by omega) (by omega)).mp e) (by omega)
  unfold f_X5_isMade
  rw [if_neg (nI_ge0 (by omega)), if_neg h4, if_pos (inb_t hj (by omega)), ix_nI (by omega), (h j hj).1]
  by_cases e : M 29 j = 0 <;> simp [e, bi]
theorem C_cycle {j : Nat} (hj : j < 4) (h : rPl K M) (h0 : ¬ M 29 j = 0) : f_X5_cycleOf (nI j) K = some (M 29 j) := by
  unfold f_X5_cycleOf
  rw [C_made hj h, ob, decide_eq_false h0, if_pos (inb_t hj (by omega)), ix_nI (by omega), (h j hj).1]
  rfl
theorem C_offset {j : Nat} (hj : j < 4) (h : rPl K M) (h0 : ¬ M 29 j = 0) : f_X5_offsetOf (nI j) K = some (M 30 j) := by
  unfold f_X5_offsetOf
  rw [C_made hj h, ob, decide_eq_false h0, if_pos (inb_t hj (by omega)), ix_nI (by omega), (h j hj).2.1]
  rfl
theorem C_split {j : Nat} (hj : j < 4) (h : rPl K M) (h0 : ¬ M 29 j = 0) : f_X5_splitOf (nI j) K = some (M 31 j) := by
  unfold f_X5_splitOf
  rw [C_made hj h, ob, decide_eq_false h0, if_pos (inb_t hj (by omega)), ix_nI (by omega), (h j hj).2.2.1]
  rfl
theorem s_message (h : RR T K M) (x y z : Int32) : ∃ r K' M', f_X8_message x y z K = some (r, K') ∧ f_X9_message x y z M = some (r, M') ∧ RR T K' M' := by
  have h0 := RR_code 0 h
  rcases cr_cases x with ⟨b, c, hbc, rfl, hc, hb⟩ | hn
  · have hR := RR_in hbc h0
    have hPl := h0.1.2.2
    generalize hM0 : ks M 0 0 0 = M0 at h0 hR hPl
    have i2 : inb (nI c) 2 = true := inb_t hc (by omega)
    have x2 : ix (nI c) = c := ix_nI (by omega)
    obtain ⟨l0, l1, l2, l3, l5, ⟨n, hn, l6⟩, l7⟩ := hR.2.2.2.2.1
    -- the number
    have hy : (∃ k, k < 8 ∧ y = nI k) ∨ (y < 0 ∨ (¬ y < 0 ∧ ¬ y < 8 ∧ (7 : Int32) < y)) := by
      rcases i_cases y 8 (by omega) with h | ⟨h, h2⟩ | h
      · exact Or.inr (Or.inl h)
      · have h2 : (8 : Int32) ≤ y := h2
        exact Or.inr (Or.inr ⟨h, Int32.not_lt.mpr h2, Int32.lt_of_lt_of_le (by decide) h2⟩)
      · exact Or.inl h
    rcases pl_cases z with ⟨j, hj, rfl⟩ | hz
    · have j3 : ¬ (3 : Int32) < nI j := fun e => absurd ((lt_nI (a := 3) (by omega) (by omega)).mp e) (by omega)
      have j0 : ¬ nI j < 0 := nI_ge0 (by omega)
      have ij : inb (nI j) 4 = true := inb_t hj (by omega)
      have xj : ix (nI j) = j := ix_nI (by omega)
      by_cases hm : M0 29 j = 0
      · refine ⟨0, K, M0, ?_, ?_, h0⟩
        · simp [f_X8_message, hb, oc, C_made hj hPl, hm, bi]
        · rcases hy with ⟨k, hk, rfl⟩ | hy | ⟨hy, hy2, hy3⟩
          · have k7 : ¬ (7 : Int32) < nI k := fun e => absurd ((lt_nI (a := 7) (by omega) (by omega)).mp e) (by omega)
            simp [f_X9_message, st, hM0, M_isCr hc, nI_ge0 (show k < 2147483648 by omega), k7, j0, j3, ij, xj, hm]
          · simp [f_X9_message, st, hM0, M_isCr hc, hy]
          · simp [f_X9_message, st, hM0, M_isCr hc, hy, hy3]
      · obtain ⟨cy, oo, ss, q1, q2, q3, q4, q5, q6, q7, q8⟩ := ((hPl j hj).2.2.2).resolve_left hm
        rcases hy with ⟨k, hk, rfl⟩ | hy
        · have k7 : ¬ (7 : Int32) < nI k := fun e => absurd ((lt_nI (a := 7) (by omega) (by omega)).mp e) (by omega)
          have k8 : nI k < (8 : Int32) := (lt_nI (b := 8) (by omega) (by omega)).mpr hk
          have k0 : ¬ nI k < 0 := nI_ge0 (by omega)
          -- whether the number is the next one
          by_cases hx : M0 33 c = -1 ∨ nI k = jrem (M0 33 c + 1) 8
          · have ex : f_X3_expects (b + 8) (nI k) K = some 1 := by
              unfold f_X3_expects
              rw [if_neg k0, if_pos k8, l3]
              rcases hx with e | e
              · rw [if_pos e]
              · by_cases e1 : M0 33 c = -1
                · rw [if_pos e1]
                · rw [if_neg e1, if_pos e]
            -- the local clock behind it
            obtain ⟨lc, hlc, et, em⟩ : ∃ lc, lc < 120 ∧ f_X3_take (b + 8) (nI k) (nI j) (M0 29 j) K = some (ks (ks (ks (ks K (b + 8) 1 (nI lc)) (b + 8) 0 (nI j)) (b + 8) 3 (nI k)) (b + 8) 2 0) ∧ (if 0 ≤ M0 32 c then (if M0 29 j = 0 then none else some (jrem (M0 35 c) (M0 29 j))) else some 0 : Option Int32) = some (nI lc) := by
              by_cases hp : M0 32 c = -1
              · have hn2 : ¬ (0 : Int32) ≤ M0 32 c := by rw [hp]; decide
                exact ⟨0, by omega, by simp [f_X3_take, l0, hp, st, nI_0], by rw [if_neg hn2, nI_0]⟩
              · obtain ⟨j2, hj2, e2, -⟩ := l5.resolve_left hp
                have hn2 : (0 : Int32) ≤ M0 32 c := by rw [e2]; exact nI_0le (by omega)
                refine ⟨n % cy, Nat.lt_of_lt_of_le (Nat.mod_lt _ (by omega)) (by omega), ?_, ?_⟩
                · simp [f_X3_take, l0, hp, l1, l6, q6, C_wrap (show n < 1048576 by omega) (show 0 < cy by omega) (by omega), st]
                · rw [if_pos hn2, if_neg hm, l6, q6, n_rem (by omega) (by omega) (by omega)]
            refine ⟨1, ks (ks (ks (ks K (b + 8) 1 (nI lc)) (b + 8) 0 (nI j)) (b + 8) 3 (nI k)) (b + 8) 2 0, ks (ks (ks (ks M0 35 c (nI lc)) 32 c (nI j)) 33 c (nI k)) 34 c 0, ?_, ?_, RR_up hbc h0 (fun i k hi => by (repeat rw [ks_n (by omega)]) <;> rfl) (fun row k hn => by (repeat rw [ks_n (by unfold slc at hn; omega)]) <;> rfl) ?_⟩
            · simp only [f_X8_message, hb, ob, oc, C_made hj hPl, decide_eq_false hm, Bool.not_false, bi_t, n10, if_false, ex, C_cycle hj hPl hm, et]
            · have hlast : M0 33 c < 0 ∨ (¬ M0 33 c < 0 ∧ nI k = jrem (M0 33 c + 1) 8) := by
                by_cases e : M0 33 c < 0
                · exact Or.inl e
                · refine Or.inr ⟨e, hx.resolve_left (fun q => e (by rw [q]; decide))⟩
              rcases hlast with e | ⟨e, e2⟩
              · simp only [f_X9_message, st, hM0, M_isCr hc, ob, n10, if_false, k0, k7, j0, j3, ij, xj, if_true, i2, x2, e]
                simp only [hm, if_false]
                simp only [hm, if_false] at em
                rw [em, ob]
              · simp only [f_X9_message, st, hM0, M_isCr hc, ob, n10, if_false, k0, k7, j0, j3, ij, xj, if_true, i2, x2, e]
                rw [if_pos e2]
                simp only [hm, if_false]
                simp only [hm, if_false] at em
                rw [em, ob]
            · have h := hR
              refine ⟨(rTab_f (by intro k; (repeat rw [ks_n (by omega)]) <;> rfl) (by intro k; (repeat rw [ks_n (by omega)]) <;> rfl) (by intro i hi; (repeat rw [ks_n (by omega)]) <;> rfl) (by intro i hi; (repeat rw [ks_n (by omega)]) <;> rfl) h.1), (rUse_f (by (repeat rw [ks_n (by omega)]) <;> rfl) (by intro i hi; (repeat rw [ks_n (by omega)]) <;> rfl) (by intro i hi; (repeat rw [ks_n (by omega)]) <;> rfl) h.2.1), (rCal_f (by (repeat rw [ks_n (by omega)]) <;> rfl) (by (repeat rw [ks_n (by omega)]) <;> rfl) (by intro i hi; (repeat rw [ks_n (by omega)]) <;> rfl) (by intro i hi; (repeat rw [ks_n (by omega)]) <;> rfl) (by intro i hi; (repeat rw [ks_n (by omega)]) <;> rfl) h.2.2.1), (rDet_f (by intro k; (repeat rw [ks_n (by omega)]) <;> rfl) (by intro k; (repeat rw [ks_n (by omega)]) <;> rfl) (by intro k; (repeat rw [ks_n (by omega)]) <;> rfl) (by intro i hi; (repeat rw [ks_n (by omega)]) <;> rfl) (by intro i hi; (repeat rw [ks_n (by omega)]) <;> rfl) (by intro i hi; (repeat rw [ks_n (by omega)]) <;> rfl) h.2.2.2.1), ?_, (rInp_f (by intro k; (repeat rw [ks_n (by omega)]) <;> rfl) (by intro k; (repeat rw [ks_n (by omega)]) <;> rfl) (by intro i hi; (repeat rw [ks_n (by omega)]) <;> rfl) (by intro i hi; (repeat rw [ks_n (by omega)]) <;> rfl) h.2.2.2.2.2.1), (rSc_f (by (repeat rw [ks_n (by omega)]) <;> rfl) (by (repeat rw [ks_n (by omega)]) <;> rfl) (by (repeat rw [ks_n (by omega)]) <;> rfl) (by (repeat rw [ks_n (by omega)]) <;> rfl) (by (repeat rw [ks_n (by omega)]) <;> rfl) (by (repeat rw [ks_n (by omega)]) <;> rfl) (by (repeat rw [ks_n (by omega)]) <;> rfl) (by (repeat rw [ks_n (by omega)]) <;> rfl) (by (repeat rw [ks_n (by omega)]) <;> rfl) (by (repeat rw [ks_n (by omega)]) <;> rfl) h.2.2.2.2.2.2.1), (rHad_f (by (repeat rw [ks_n (by omega)]) <;> rfl) (by (repeat rw [ks_n (by omega)]) <;> rfl) (by intro i hi; (repeat rw [ks_n (by omega)]) <;> rfl) (by intro i hi; (repeat rw [ks_n (by omega)]) <;> rfl) (by intro i hi; (repeat rw [ks_n (by omega)]) <;> rfl) h.2.2.2.2.2.2.2.1), (rRing_f (by omega) (by intro k; (repeat rw [ks_n (by omega)]) <;> rfl) (by intro i hi; (repeat rw [ks_n (by omega)]) <;> rfl) (by (repeat rw [ks_n (by omega)]) <;> rfl) (by intro row h19 h26; (repeat rw [ks_n (by omega)]) <;> rfl) h.2.2.2.2.2.2.2.2.1), (rRing_f (by omega) (by intro k; (repeat rw [ks_n (by omega)]) <;> rfl) (by intro i hi; (repeat rw [ks_n (by omega)]) <;> rfl) (by (repeat rw [ks_n (by omega)]) <;> rfl) (by intro row h19 h26; (repeat rw [ks_n (by omega)]) <;> rfl) h.2.2.2.2.2.2.2.2.2.1), (rMon_f (by (repeat rw [ks_n (by omega)]) <;> rfl) (by intro k; (repeat rw [ks_n (by omega)]) <;> rfl) (by intro k; (repeat rw [ks_n (by omega)]) <;> rfl) (by intro k; (repeat rw [ks_n (by omega)]) <;> rfl) (by (repeat rw [ks_n (by omega)]) <;> rfl) (by intro i hi; (repeat rw [ks_n (by omega)]) <;> rfl) (by intro i hi; (repeat rw [ks_n (by omega)]) <;> rfl) (by intro i hi; (repeat rw [ks_n (by omega)]) <;> rfl) (by intro i hi; (repeat rw [ks_n (by omega)]) <;> rfl) (by intro i hi; (repeat rw [ks_n (by omega)]) <;> rfl) h.2.2.2.2.2.2.2.2.2.2)⟩
              unfold rLnk
              refine ⟨?_, ?_, ?_, ?_, Or.inr ⟨j, hj, ?_, ?_, 0, by omega, ?_⟩, ⟨lc, hlc, ?_⟩, Or.inr ⟨k, hk, ?_⟩⟩ <;> simp [ks, nI_0, hm]
          · have ex : f_X3_expects (b + 8) (nI k) K = some 0 := by
              unfold f_X3_expects
              rw [if_neg k0, if_pos k8, l3, if_neg (fun e => hx (Or.inl e)), if_neg (fun e => hx (Or.inr e))]
            have e : ¬ M0 33 c < 0 := by
              rcases l7 with e | ⟨k2, hk2, e⟩
              · exact absurd (Or.inl e) hx
              · rw [e]
                exact nI_ge0 (by omega)
            refine ⟨0, K, M0, ?_, ?_, h0⟩
            · simp only [f_X8_message, hb, ob, oc, C_made hj hPl, decide_eq_false hm, Bool.not_false, bi_t, n10, if_false, ex, if_true]
            · simp only [f_X9_message, st, hM0, M_isCr hc, ob, n10, if_false, k0, k7, j0, j3, ij, xj, if_true, i2, x2, e, hm]
              rw [if_neg (fun q => hx (Or.inr q))]
        · refine ⟨0, K, M0, ?_, ?_, h0⟩
          · have ex : f_X3_expects (b + 8) y K = some 0 := by
              unfold f_X3_expects
              rcases hy with hy | ⟨hy, hy2, hy3⟩
              · rw [if_pos hy]
              · rw [if_neg hy, if_neg hy2]
            simp only [f_X8_message, hb, ob, oc, C_made hj hPl, decide_eq_false hm, Bool.not_false, bi_t, n10, if_false, ex, if_true]
          · rcases hy with hy | ⟨hy, hy2, hy3⟩
            · simp [f_X9_message, st, hM0, M_isCr hc, hy]
            · simp [f_X9_message, st, hM0, M_isCr hc, hy, hy3]
    · refine ⟨0, K, M0, ?_, ?_, h0⟩
      · have em : f_X5_isMade z K = some 0 := by
          unfold f_X5_isMade
          rcases hz with hz | ⟨hz, hz2, hz3⟩
          · rw [if_pos hz]
          · rw [if_neg hz, if_pos hz2]
        simp [f_X8_message, hb, oc, em]
      · rcases hy with ⟨k, hk, rfl⟩ | hy | ⟨hy, hy2, hy3⟩
        · have k7 : ¬ (7 : Int32) < nI k := fun e => absurd ((lt_nI (a := 7) (by omega) (by omega)).mp e) (by omega)
          rcases hz with hz | ⟨hz, hz2, hz3⟩
          · simp [f_X9_message, st, hM0, M_isCr hc, nI_ge0 (show k < 2147483648 by omega), k7, hz]
          · simp [f_X9_message, st, hM0, M_isCr hc, nI_ge0 (show k < 2147483648 by omega), k7, hz, hz3]
        · simp [f_X9_message, st, hM0, M_isCr hc, hy]
        · simp [f_X9_message, st, hM0, M_isCr hc, hy, hy3]
  · exact ⟨0, K, ks M 0 0 0, by simp [f_X8_message, (hn K M).1, oc], by simp [f_X9_message, st, (hn K _).2], h0⟩
/-- a plan's new cycle: one crossing's local clock -/
theorem s_fit (hbc : BC b c) (hc : c < 2) {j y : Nat} (hj : j < 4) (hy0 : 20 ≤ y) (hy : y ≤ 120) (h : RR T K M) : ∃ K' M', f_X3_fitTo (b + 8) (nI j) (nI y) K = some K' ∧ (if M 32 c = nI j then some (ks M 35 c (jrem (M 35 c) (nI y))) else some M : Option Mem) = some M' ∧ RR T K' M' := by
  have hR := RR_in hbc h
  obtain ⟨l0, l1, l2, l3, l5, ⟨n, hn, l6⟩, l7⟩ := hR.2.2.2.2.1
  by_cases e : M 32 c = nI j
  · refine ⟨ks K (b + 8) 1 (nI (n % y)), ks M 35 c (nI (n % y)), ?_, ?_, RR_up hbc h (fun i k hi => by (repeat rw [ks_n (by omega)]) <;> rfl) (fun row k hn => by (repeat rw [ks_n (by unfold slc at hn; omega)]) <;> rfl) ?_⟩
    · simp [f_X3_fitTo, l0, e, l1, l6, C_wrap (show n < 1048576 by omega) (show 0 < y by omega) (by omega), st]
    · rw [if_pos e, l6, n_rem (by omega) (by omega) (by omega)]
    · have h := hR
      refine ⟨(rTab_f (by intro k; (repeat rw [ks_n (by omega)]) <;> rfl) (by intro k; (repeat rw [ks_n (by omega)]) <;> rfl) (by intro i hi; (repeat rw [ks_n (by omega)]) <;> rfl) (by intro i hi; (repeat rw [ks_n (by omega)]) <;> rfl) h.1), (rUse_f (by (repeat rw [ks_n (by omega)]) <;> rfl) (by intro i hi; (repeat rw [ks_n (by omega)]) <;> rfl) (by intro i hi; (repeat rw [ks_n (by omega)]) <;> rfl) h.2.1), (rCal_f (by (repeat rw [ks_n (by omega)]) <;> rfl) (by (repeat rw [ks_n (by omega)]) <;> rfl) (by intro i hi; (repeat rw [ks_n (by omega)]) <;> rfl) (by intro i hi; (repeat rw [ks_n (by omega)]) <;> rfl) (by intro i hi; (repeat rw [ks_n (by omega)]) <;> rfl) h.2.2.1), (rDet_f (by intro k; (repeat rw [ks_n (by omega)]) <;> rfl) (by intro k; (repeat rw [ks_n (by omega)]) <;> rfl) (by intro k; (repeat rw [ks_n (by omega)]) <;> rfl) (by intro i hi; (repeat rw [ks_n (by omega)]) <;> rfl) (by intro i hi; (repeat rw [ks_n (by omega)]) <;> rfl) (by intro i hi; (repeat rw [ks_n (by omega)]) <;> rfl) h.2.2.2.1), ?_, (rInp_f (by intro k; (repeat rw [ks_n (by omega)]) <;> rfl) (by intro k; (repeat rw [ks_n (by omega)]) <;> rfl) (by intro i hi; (repeat rw [ks_n (by omega)]) <;> rfl) (by intro i hi; (repeat rw [ks_n (by omega)]) <;> rfl) h.2.2.2.2.2.1), (rSc_f (by (repeat rw [ks_n (by omega)]) <;> rfl) (by (repeat rw [ks_n (by omega)]) <;> rfl) (by (repeat rw [ks_n (by omega)]) <;> rfl) (by (repeat rw [ks_n (by omega)]) <;> rfl) (by (repeat rw [ks_n (by omega)]) <;> rfl) (by (repeat rw [ks_n (by omega)]) <;> rfl) (by (repeat rw [ks_n (by omega)]) <;> rfl) (by (repeat rw [ks_n (by omega)]) <;> rfl) (by (repeat rw [ks_n (by omega)]) <;> rfl) (by (repeat rw [ks_n (by omega)]) <;> rfl) h.2.2.2.2.2.2.1), (rHad_f (by (repeat rw [ks_n (by omega)]) <;> rfl) (by (repeat rw [ks_n (by omega)]) <;> rfl) (by intro i hi; (repeat rw [ks_n (by omega)]) <;> rfl) (by intro i hi; (repeat rw [ks_n (by omega)]) <;> rfl) (by intro i hi; (repeat rw [ks_n (by omega)]) <;> rfl) h.2.2.2.2.2.2.2.1), (rRing_f (by omega) (by intro k; (repeat rw [ks_n (by omega)]) <;> rfl) (by intro i hi; (repeat rw [ks_n (by omega)]) <;> rfl) (by (repeat rw [ks_n (by omega)]) <;> rfl) (by intro row h19 h26; (repeat rw [ks_n (by omega)]) <;> rfl) h.2.2.2.2.2.2.2.2.1), (rRing_f (by omega) (by intro k; (repeat rw [ks_n (by omega)]) <;> rfl) (by intro i hi; (repeat rw [ks_n (by omega)]) <;> rfl) (by (repeat rw [ks_n (by omega)]) <;> rfl) (by intro row h19 h26; (repeat rw [ks_n (by omega)]) <;> rfl) h.2.2.2.2.2.2.2.2.2.1), (rMon_f (by (repeat rw [ks_n (by omega)]) <;> rfl) (by intro k; (repeat rw [ks_n (by omega)]) <;> rfl) (by intro k; (repeat rw [ks_n (by omega)]) <;> rfl) (by intro k; (repeat rw [ks_n (by omega)]) <;> rfl) (by (repeat rw [ks_n (by omega)]) <;> rfl) (by intro i hi; (repeat rw [ks_n (by omega)]) <;> rfl) (by intro i hi; (repeat rw [ks_n (by omega)]) <;> rfl) (by intro i hi; (repeat rw [ks_n (by omega)]) <;> rfl) (by intro i hi; (repeat rw [ks_n (by omega)]) <;> rfl) (by intro i hi; (repeat rw [ks_n (by omega)]) <;> rfl) h.2.2.2.2.2.2.2.2.2.2)⟩
      unfold rLnk
      have e0 : ks K (b + 8) 1 (nI (n % y)) (b + 8) 0 = K (b + 8) 0 := ks_k (by omega)
      have e2 : ks K (b + 8) 1 (nI (n % y)) (b + 8) 2 = K (b + 8) 2 := ks_k (by omega)
      have e3 : ks K (b + 8) 1 (nI (n % y)) (b + 8) 3 = K (b + 8) 3 := ks_k (by omega)
      rw [ks_s, ks_s, e0, e2, e3, ks_n (a := 32) (by omega), ks_n (a := 34) (by omega), ks_n (a := 33) (by omega)]
      refine ⟨l0, rfl, l2, l3, l5.imp id ?_, ⟨n % y, Nat.lt_of_lt_of_le (Nat.mod_lt _ (by omega)) hy, rfl⟩, l7⟩
      rintro ⟨i, hi, e1, e2, e3⟩
      exact ⟨i, hi, e1, by rw [ks_n (by omega)]; exact e2, e3⟩
  · exact ⟨K, M, by simp [f_X3_fitTo, l0, e], by rw [if_neg e], h⟩
theorem s_plan (h : RR T K M) (x y z v : Int32) : ∃ r K' M', f_X8_plan x y z v K = some (r, K') ∧ f_X9_plan x y z v M = some (r, M') ∧ RR T K' M' := by
  have h0 := RR_code 0 h
  by_cases ok : ¬ x < 0 ∧ ¬ (4 : Int32) ≤ x ∧ ¬ y < 20 ∧ ¬ (120 : Int32) < y ∧ ¬ z < 0 ∧ ¬ y ≤ z ∧ ¬ v < 1 ∧ ¬ y ≤ v
  · obtain ⟨o1, o2, o3, o4, o5, o6, o7, o8⟩ := ok
    obtain ⟨j, hj, rfl⟩ : ∃ j, j < 4 ∧ x = nI j := by
      rcases pl_cases x with e | e | ⟨-, e, -⟩
      · exact e
      · exact absurd e o1
      · exact absurd e o2
    have j3 : ¬ (3 : Int32) < nI j := fun e => absurd ((lt_nI (a := 3) (by omega) (by omega)).mp e) (by omega)
    obtain ⟨cy, hcy, rfl⟩ : ∃ k, k < 2147483648 ∧ y = nI k := nI_of (fun e => o3 (Int32.lt_trans e (by decide)))
    obtain ⟨oo, hoo, rfl⟩ : ∃ k, k < 2147483648 ∧ z = nI k := nI_of o5
    obtain ⟨ss, hss, rfl⟩ : ∃ k, k < 2147483648 ∧ v = nI k := nI_of (fun e => o7 (Int32.lt_trans e (by decide)))
    have c20 : 20 ≤ cy := by
      rcases Nat.lt_or_ge cy 20 with q | q
      · exact absurd ((lt_nI (b := 20) hcy (by omega)).mpr q) o3
      · exact q
    have c120 : cy ≤ 120 := by
      rcases Nat.lt_or_ge 120 cy with q | q
      · exact absurd ((lt_nI (a := 120) (by omega) hcy).mpr q) o4
      · exact q
    have co : oo < cy := by
      rcases Nat.lt_or_ge oo cy with q | q
      · exact q
      · exact absurd ((le_nI hcy hoo).mpr q) o6
    have cs : ss < cy := by
      rcases Nat.lt_or_ge ss cy with q | q
      · exact q
      · exact absurd ((le_nI hcy hss).mpr q) o8
    have s1 : 1 ≤ ss := by
      rcases Nat.lt_or_ge ss 1 with q | q
      · exact absurd ((lt_nI (b := 1) hss (by omega)).mpr q) o7
      · exact q
    have o8' : nI ss < nI cy := Int32.not_le.mp o8
    have ij : inb (nI j) 4 = true := inb_t hj (by omega)
    have xj : ix (nI j) = j := ix_nI (by omega)
    have cz : ¬ nI cy = 0 := nI_ne0 (by omega) (by omega)
    -- the plans
    have h1 : RR T (ks (ks (ks K 2 j (nI cy)) 3 j (nI oo)) 4 j (nI ss)) (ks (ks (ks (ks M 0 0 0) 29 j (nI cy)) 30 j (nI oo)) 31 j (nI ss)) := by
      generalize ks M 0 0 0 = M at h0 ⊢
      obtain ⟨⟨g1, g2, g3⟩, r0, r1⟩ := h0
      have m29 : ∀ i, i < 4 → ¬ M 29 i = 0 → ¬ (ks (ks (ks M 29 j (nI cy)) 30 j (nI oo)) 31 j (nI ss)) 29 i = 0 := by
        intro i hi e
        rw [ks_n (by omega), ks_n (by omega)]
        by_cases hij : i = j
        · subst hij
          rw [ks_s]
          exact cz
        · rw [ks_k hij]
          exact e
      refine ⟨⟨?_, ?_, fun i hi => ?_⟩, ?_, ?_⟩
      · rw [ks_n (by omega), ks_n (by omega), ks_n (by omega), ks_n (by omega), ks_n (by omega), ks_n (by omega)]
        exact g1
      · rw [ks_n (by omega), ks_n (by omega), ks_n (by omega)]
        exact g2
      · by_cases hij : i = j
        · subst hij
          refine ⟨?_, ?_, ?_, Or.inr ⟨cy, oo, ss, c20, c120, co, s1, cs, ?_, ?_, ?_⟩⟩ <;> simp [ks]
        · obtain ⟨a1, a2, a3, a4⟩ := g3 i hi
          have e29 : (ks (ks (ks M 29 j (nI cy)) 30 j (nI oo)) 31 j (nI ss)) 29 i = M 29 i := by rw [ks_n (by omega), ks_n (by omega), ks_n (by omega)]
          have e30 : (ks (ks (ks M 29 j (nI cy)) 30 j (nI oo)) 31 j (nI ss)) 30 i = M 30 i := by rw [ks_n (by omega), ks_n (by omega), ks_n (by omega)]
          have e31 : (ks (ks (ks M 29 j (nI cy)) 30 j (nI oo)) 31 j (nI ss)) 31 i = M 31 i := by rw [ks_n (by omega), ks_n (by omega), ks_n (by omega)]
          rw [e29, e30, e31, ks_n (by omega), ks_n (by omega), ks_n (by omega), ks_n (by omega), ks_n (by omega), ks_n (by omega), ks_n (by omega), ks_n (by omega), ks_n (by omega)]
          exact ⟨a1, a2, a3, a4⟩
      · have h := r0
        exact ⟨(rTab_f (by intro k; (repeat rw [ks_n (by omega)]) <;> rfl) (by intro k; (repeat rw [ks_n (by omega)]) <;> rfl) (by intro i hi; (repeat rw [ks_n (by omega)]) <;> rfl) (by intro i hi; (repeat rw [ks_n (by omega)]) <;> rfl) h.1), (rUse_f (by (repeat rw [ks_n (by omega)]) <;> rfl) (by intro i hi; (repeat rw [ks_n (by omega)]) <;> rfl) (by intro i hi; (repeat rw [ks_n (by omega)]) <;> rfl) h.2.1), (rCal_f (by (repeat rw [ks_n (by omega)]) <;> rfl) (by (repeat rw [ks_n (by omega)]) <;> rfl) (by intro i hi; (repeat rw [ks_n (by omega)]) <;> rfl) (by intro i hi; (repeat rw [ks_n (by omega)]) <;> rfl) (by intro i hi; (repeat rw [ks_n (by omega)]) <;> rfl) h.2.2.1), (rDet_f (by intro k; (repeat rw [ks_n (by omega)]) <;> rfl) (by intro k; (repeat rw [ks_n (by omega)]) <;> rfl) (by intro k; (repeat rw [ks_n (by omega)]) <;> rfl) (by intro i hi; (repeat rw [ks_n (by omega)]) <;> rfl) (by intro i hi; (repeat rw [ks_n (by omega)]) <;> rfl) (by intro i hi; (repeat rw [ks_n (by omega)]) <;> rfl) h.2.2.2.1), (rLnk_f (by intro k; (repeat rw [ks_n (by omega)]) <;> rfl) m29 (by (repeat rw [ks_n (by omega)]) <;> rfl) (by (repeat rw [ks_n (by omega)]) <;> rfl) (by (repeat rw [ks_n (by omega)]) <;> rfl) (by (repeat rw [ks_n (by omega)]) <;> rfl) h.2.2.2.2.1), (rInp_f (by intro k; (repeat rw [ks_n (by omega)]) <;> rfl) (by intro k; (repeat rw [ks_n (by omega)]) <;> rfl) (by intro i hi; (repeat rw [ks_n (by omega)]) <;> rfl) (by intro i hi; (repeat rw [ks_n (by omega)]) <;> rfl) h.2.2.2.2.2.1), (rSc_f (by (repeat rw [ks_n (by omega)]) <;> rfl) (by (repeat rw [ks_n (by omega)]) <;> rfl) (by (repeat rw [ks_n (by omega)]) <;> rfl) (by (repeat rw [ks_n (by omega)]) <;> rfl) (by (repeat rw [ks_n (by omega)]) <;> rfl) (by (repeat rw [ks_n (by omega)]) <;> rfl) (by (repeat rw [ks_n (by omega)]) <;> rfl) (by (repeat rw [ks_n (by omega)]) <;> rfl) (by (repeat rw [ks_n (by omega)]) <;> rfl) (by (repeat rw [ks_n (by omega)]) <;> rfl) h.2.2.2.2.2.2.1), (rHad_f (by (repeat rw [ks_n (by omega)]) <;> rfl) (by (repeat rw [ks_n (by omega)]) <;> rfl) (by intro i hi; (repeat rw [ks_n (by omega)]) <;> rfl) (by intro i hi; (repeat rw [ks_n (by omega)]) <;> rfl) (by intro i hi; (repeat rw [ks_n (by omega)]) <;> rfl) h.2.2.2.2.2.2.2.1), (rRing_f (by omega) (by intro k; (repeat rw [ks_n (by omega)]) <;> rfl) (by intro i hi; (repeat rw [ks_n (by omega)]) <;> rfl) (by (repeat rw [ks_n (by omega)]) <;> rfl) (by intro row h19 h26; (repeat rw [ks_n (by omega)]) <;> rfl) h.2.2.2.2.2.2.2.2.1), (rRing_f (by omega) (by intro k; (repeat rw [ks_n (by omega)]) <;> rfl) (by intro i hi; (repeat rw [ks_n (by omega)]) <;> rfl) (by (repeat rw [ks_n (by omega)]) <;> rfl) (by intro row h19 h26; (repeat rw [ks_n (by omega)]) <;> rfl) h.2.2.2.2.2.2.2.2.2.1), (rMon_f (by (repeat rw [ks_n (by omega)]) <;> rfl) (by intro k; (repeat rw [ks_n (by omega)]) <;> rfl) (by intro k; (repeat rw [ks_n (by omega)]) <;> rfl) (by intro k; (repeat rw [ks_n (by omega)]) <;> rfl) (by (repeat rw [ks_n (by omega)]) <;> rfl) (by intro i hi; (repeat rw [ks_n (by omega)]) <;> rfl) (by intro i hi; (repeat rw [ks_n (by omega)]) <;> rfl) (by intro i hi; (repeat rw [ks_n (by omega)]) <;> rfl) (by intro i hi; (repeat rw [ks_n (by omega)]) <;> rfl) (by intro i hi; (repeat rw [ks_n (by omega)]) <;> rfl) h.2.2.2.2.2.2.2.2.2.2)⟩
      · have h := r1
        exact ⟨(rTab_f (by intro k; (repeat rw [ks_n (by omega)]) <;> rfl) (by intro k; (repeat rw [ks_n (by omega)]) <;> rfl) (by intro i hi; (repeat rw [ks_n (by omega)]) <;> rfl) (by intro i hi; (repeat rw [ks_n (by omega)]) <;> rfl) h.1), (rUse_f (by (repeat rw [ks_n (by omega)]) <;> rfl) (by intro i hi; (repeat rw [ks_n (by omega)]) <;> rfl) (by intro i hi; (repeat rw [ks_n (by omega)]) <;> rfl) h.2.1), (rCal_f (by (repeat rw [ks_n (by omega)]) <;> rfl) (by (repeat rw [ks_n (by omega)]) <;> rfl) (by intro i hi; (repeat rw [ks_n (by omega)]) <;> rfl) (by intro i hi; (repeat rw [ks_n (by omega)]) <;> rfl) (by intro i hi; (repeat rw [ks_n (by omega)]) <;> rfl) h.2.2.1), (rDet_f (by intro k; (repeat rw [ks_n (by omega)]) <;> rfl) (by intro k; (repeat rw [ks_n (by omega)]) <;> rfl) (by intro k; (repeat rw [ks_n (by omega)]) <;> rfl) (by intro i hi; (repeat rw [ks_n (by omega)]) <;> rfl) (by intro i hi; (repeat rw [ks_n (by omega)]) <;> rfl) (by intro i hi; (repeat rw [ks_n (by omega)]) <;> rfl) h.2.2.2.1), (rLnk_f (by intro k; (repeat rw [ks_n (by omega)]) <;> rfl) m29 (by (repeat rw [ks_n (by omega)]) <;> rfl) (by (repeat rw [ks_n (by omega)]) <;> rfl) (by (repeat rw [ks_n (by omega)]) <;> rfl) (by (repeat rw [ks_n (by omega)]) <;> rfl) h.2.2.2.2.1), (rInp_f (by intro k; (repeat rw [ks_n (by omega)]) <;> rfl) (by intro k; (repeat rw [ks_n (by omega)]) <;> rfl) (by intro i hi; (repeat rw [ks_n (by omega)]) <;> rfl) (by intro i hi; (repeat rw [ks_n (by omega)]) <;> rfl) h.2.2.2.2.2.1), (rSc_f (by (repeat rw [ks_n (by omega)]) <;> rfl) (by (repeat rw [ks_n (by omega)]) <;> rfl) (by (repeat rw [ks_n (by omega)]) <;> rfl) (by (repeat rw [ks_n (by omega)]) <;> rfl) (by (repeat rw [ks_n (by omega)]) <;> rfl) (by (repeat rw [ks_n (by omega)]) <;> rfl) (by (repeat rw [ks_n (by omega)]) <;> rfl) (by (repeat rw [ks_n (by omega)]) <;> rfl) (by (repeat rw [ks_n (by omega)]) <;> rfl) (by (repeat rw [ks_n (by omega)]) <;> rfl) h.2.2.2.2.2.2.1), (rHad_f (by (repeat rw [ks_n (by omega)]) <;> rfl) (by (repeat rw [ks_n (by omega)]) <;> rfl) (by intro i hi; (repeat rw [ks_n (by omega)]) <;> rfl) (by intro i hi; (repeat rw [ks_n (by omega)]) <;> rfl) (by intro i hi; (repeat rw [ks_n (by omega)]) <;> rfl) h.2.2.2.2.2.2.2.1), (rRing_f (by omega) (by intro k; (repeat rw [ks_n (by omega)]) <;> rfl) (by intro i hi; (repeat rw [ks_n (by omega)]) <;> rfl) (by (repeat rw [ks_n (by omega)]) <;> rfl) (by intro row h19 h26; (repeat rw [ks_n (by omega)]) <;> rfl) h.2.2.2.2.2.2.2.2.1), (rRing_f (by omega) (by intro k; (repeat rw [ks_n (by omega)]) <;> rfl) (by intro i hi; (repeat rw [ks_n (by omega)]) <;> rfl) (by (repeat rw [ks_n (by omega)]) <;> rfl) (by intro row h19 h26; (repeat rw [ks_n (by omega)]) <;> rfl) h.2.2.2.2.2.2.2.2.2.1), (rMon_f (by (repeat rw [ks_n (by omega)]) <;> rfl) (by intro k; (repeat rw [ks_n (by omega)]) <;> rfl) (by intro k; (repeat rw [ks_n (by omega)]) <;> rfl) (by intro k; (repeat rw [ks_n (by omega)]) <;> rfl) (by (repeat rw [ks_n (by omega)]) <;> rfl) (by intro i hi; (repeat rw [ks_n (by omega)]) <;> rfl) (by intro i hi; (repeat rw [ks_n (by omega)]) <;> rfl) (by intro i hi; (repeat rw [ks_n (by omega)]) <;> rfl) (by intro i hi; (repeat rw [ks_n (by omega)]) <;> rfl) (by intro i hi; (repeat rw [ks_n (by omega)]) <;> rfl) h.2.2.2.2.2.2.2.2.2.2)⟩
    obtain ⟨K2, M2, e1, e2, h2⟩ := s_fit (b := 5) (c := 0) (Or.inl ⟨rfl, rfl⟩) (by omega) hj c20 c120 h1
    obtain ⟨K3, M3, e3, e4, h3⟩ := s_fit (b := 24) (c := 1) (Or.inr ⟨rfl, rfl⟩) (by omega) hj c20 c120 h2
    refine ⟨1, K3, M3, ?_, ?_, h3⟩
    · have em : f_X5_make (nI j) (nI cy) (nI oo) (nI ss) K = some (1, ks (ks (ks K 2 j (nI cy)) 3 j (nI oo)) 4 j (nI ss)) := by
        unfold f_X5_make
        rw [if_neg o1, if_neg o2, if_neg o3, if_neg o4, if_neg o5, if_neg o6, if_neg o7, if_neg o8, ob]
        simp only [lt, st, n10, if_false, ij, xj, if_true]
        rfl
      unfold f_X8_plan
      rw [em, ob]
      show (if (1 : Int32) = 0 then _ else _) = _
      rw [if_neg n10]
      show (f_X3_fitTo (5 + 8) (nI j) (nI cy) _).bind _ = _
      rw [e1, ob, e3, ob]
    · have L : ∀ n c M, c < 2 → f_X9_plan_L74 (nI j) (nI cy) (nI oo) (nI ss) (n + 1) (nI c) M = ((if M 32 c = nI j then some (ks M 35 c (jrem (M 35 c) (nI cy))) else some M : Option Mem)).bind fun v => f_X9_plan_L74 (nI j) (nI cy) (nI oo) (nI ss) n (nI (c + 1)) v := by
        intro n c M hc
        have i2 : inb (nI c) 2 = true := inb_t hc (by omega)
        have x2 : ix (nI c) = c := ix_nI (by omega)
        have hh : ¬ (2 : Int32) ≤ nI c := fun e => absurd ((q_le 2 c (by omega) (by omega)).mp e) (by omega)
        rw [f_X9_plan_L74, if_neg hh]
        simp only [i2, x2, if_true, cz, if_false, lt, st, n_a1]
      have e5 : f_X9_plan_L74 (nI j) (nI cy) (nI oo) (nI ss) 70 0 (ks (ks (ks (ks M 0 0 0) 29 j (nI cy)) 30 j (nI oo)) 31 j (nI ss)) = some (2, M3) := by
        have := L 69 0 (ks (ks (ks (ks M 0 0 0) 29 j (nI cy)) 30 j (nI oo)) 31 j (nI ss)) (by omega)
        rw [e2, ob, L 68 1 M2 (by omega), e4, ob] at this
        refine Eq.trans this ?_
        rw [f_X9_plan_L74, if_pos (by decide)]
        rfl
      simp only [f_X9_plan, st, lt, o1, j3, o3, o4, o5, o6, o7, o8', if_false, if_true, ij, xj]
      rw [e5, ob]
  · refine ⟨0, K, ks M 0 0 0, ?_, ?_, h0⟩
    · have em : f_X5_make x y z v K = some (0, K) := by
        have e : (if x < 0 then (some 0) else (if 4 ≤ x then (some 0) else (if y < 20 then (some 0) else (if 120 < y then (some 0) else (if z < 0 then (some 0) else (if y ≤ z then (some 0) else (if v < 1 then (some 0) else (if y ≤ v then (some 0) else (some 1)))))))) : Option Int32) = some 0 := by
          by_cases q1 : x < 0
          · simp [q1]
          by_cases q2 : (4 : Int32) ≤ x
          · simp [q1, q2]
          by_cases q3 : y < 20
          · simp [q1, q2, q3]
          by_cases q4 : (120 : Int32) < y
          · simp [q1, q2, q3, q4]
          by_cases q5 : z < 0
          · simp [q1, q2, q3, q4, q5]
          by_cases q6 : y ≤ z
          · simp [q1, q2, q3, q4, q5, q6]
          by_cases q7 : v < 1
          · simp [q1, q2, q3, q4, q5, q6, q7]
          by_cases q8 : y ≤ v
          · simp [q1, q2, q3, q4, q5, q6, q7, q8]
          exact absurd ⟨q1, q2, q3, q4, q5, q6, q7, q8⟩ ok
        unfold f_X5_make
        rw [e, ob]
        rfl
      unfold f_X8_plan
      rw [em, ob]
      rfl
    · unfold f_X9_plan
      simp only [st, lt]
      by_cases q1 : x < 0
      · rw [if_pos q1]
      by_cases q2 : (3 : Int32) < x
      · rw [if_neg q1, if_pos q2]
      by_cases q3 : y < 20
      · rw [if_neg q1, if_neg q2, if_pos q3]
      by_cases q4 : (120 : Int32) < y
      · rw [if_neg q1, if_neg q2, if_neg q3, if_pos q4]
      by_cases q5 : z < 0
      · rw [if_neg q1, if_neg q2, if_neg q3, if_neg q4, if_pos q5]
      by_cases q6 : y ≤ z
      · rw [if_neg q1, if_neg q2, if_neg q3, if_neg q4, if_neg q5, if_pos q6]
      by_cases q7 : v < 1
      · rw [if_neg q1, if_neg q2, if_neg q3, if_neg q4, if_neg q5, if_neg q6, if_pos q7]
      by_cases q8 : v < y
      · have q2' : ¬ (4 : Int32) ≤ x := fun e => q2 (Int32.lt_of_lt_of_le (by decide) e)
        exact absurd ⟨q1, q2', q3, q4, q5, q6, q7, Int32.not_le.mpr q8⟩ ok
      · rw [if_neg q1, if_neg q2, if_neg q3, if_neg q4, if_neg q5, if_neg q6, if_neg q7, if_neg q8]
end Fg
