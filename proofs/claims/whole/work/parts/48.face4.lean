/-! THE FACE: signs, crossing, message -/
theorem nx_xor (a b : Nat) : nI a ^^^ nI b = nI (a ^^^ b) := by
  apply Int32.toBitVec_inj.1
  show BitVec.ofNat 32 a ^^^ BitVec.ofNat 32 b = BitVec.ofNat 32 (a ^^^ b)
  apply BitVec.eq_of_getLsbD_eq
  intro i hi
  simp [hi]
section Ff4
variable {T b c p : Nat} {K M : Mem}
theorem C_wrap {n y : Nat} (hn : n < 1048576) (h0 : 0 < y) (hy : y < 1048576) : f_X8_wrap (nI n) (nI y) K = some (nI (n % y)) := by
  have h1 : ¬ nI y ≤ 0 := nI_nle h0 (by omega)
  have h2 : ¬ nI y = 0 := nI_ne0 h0 (by omega)
  have hx : n ^^^ y < 1048576 := Nat.xor_lt_two_pow (n := 20) hn hy
  have h3 : (0 : Int32) ≤ nI n ^^^ nI y := by rw [nx_xor]; exact nI_0le (by omega)
  unfold f_X8_wrap f_J9_floorMod_7cf53
  rw [if_neg h1, if_neg h2]
  simp only [lt]
  rw [if_pos h3, ob, n_rem (by omega) h0 (by omega)]
theorem sg_w (hp : p < 8) (h : rRing b c (p / 4) K M) : ∃ w, w < 3 ∧ (if K (b + 16 + p / 4) 0 = nI p then K (b + 16 + p / 4) 8 else 0) = nI (4 * w) ∧ (if grn M c p = true then M 25 (2 * c + p / 4) else 0) = nI w := by
  obtain ⟨-, e0, -, -, -, -, h0, h1, ⟨w, hw, e1, e2⟩, h3⟩ := h
  rw [e0, e2, e1]
  unfold grn
  by_cases hq : M 20 (2 * c + p / 4) = nI p
  · rw [if_pos hq, hq]
    by_cases hs : M 19 (2 * c + p / 4) = 1
    · exact ⟨w, hw, rfl, by simp [hs]⟩
    · have hw0 : w = 0 := by
        by_cases hz : M 25 (2 * c + p / 4) = 0
        · rw [e1] at hz
          exact (nI_eq0 (by omega)).mp hz
        · exact absurd (h3 hz).2 hs
      subst hw0
      exact ⟨0, by omega, rfl, by simp [hs, nI_0]⟩
  · rw [if_neg hq]
    exact ⟨0, by omega, rfl, by simp [hq, nI_0]⟩
theorem sg_v : ∀ (w : Nat) (x y z : Bool), w < 3 → ((nI (4 * w) ||| bi x) ||| (if y then 2 else 0)) ||| (if z then 16 else 0) = (bi x + (if y then 2 else 0) + (if z then 16 else 0)) + (if w = 1 then 4 else if w = 2 then 8 else 0) := by
  intro w x y z hw
  rcases (show w = 0 ∨ w = 1 ∨ w = 2 by omega) with rfl | rfl | rfl <;> cases x <;> cases y <;> cases z <;> decide
theorem s_signs (h : RR T K M) (x y : Int32) : ∃ r M', f_X8_signs x y K = some r ∧ f_X9_signs x y M = some (r, M') ∧ RR T K M' := by
  have h0 := RR_code 0 h
  rcases cr_cases x with ⟨b, c, hbc, rfl, hc, hb⟩ | hn
  · rcases ph_cases y with ⟨p, hp, rfl⟩ | hy
    · have hR := RR_in hbc h0
      generalize hM0 : ks M 0 0 0 = M0 at h0 hR
      have i16 : inb (nI (8 * c + p)) 16 = true := inb_t (by omega) (by omega)
      have x16 : ix (nI (8 * c + p)) = 8 * c + p := ix_nI (by omega)
      have i4 : inb (nI (2 * c + p / 4)) 4 = true := inb_t (by omega) (by omega)
      have x4 : ix (nI (2 * c + p / 4)) = 2 * c + p / 4 := ix_nI (by omega)
      obtain ⟨w, hw, e1, e2⟩ := sg_w hp (rRing_at hp hR.2.2.2.2.2.2.2.2.1 hR.2.2.2.2.2.2.2.2.2.1)
      obtain ⟨z1, z2, -⟩ := hR.2.2.1.2.2 p hp
      have t1 := mk_tst hR.2.2.1.1 hp
      have t2 := mk_tst hR.2.2.1.2.1 hp
      have t3 := mk_tst hR.2.2.2.1.2.1 hp
      unfold one at t1 t2
      rw [one_z z1] at t1
      rw [one_z z2] at t2
      refine ⟨((nI (4 * w) ||| bi (!decide (M0 9 (8 * c + p) = 0))) ||| (if (!decide (M0 10 (8 * c + p) = 0)) then 2 else 0)) ||| (if decide ((60 : Int32) ≤ M0 12 (8 * c + p)) then 16 else 0), M0, ?_, ?_, h0⟩
      · simp only [f_X8_signs, hb, ob, oc, C_isPh hp, n10, if_false, f_X0_signsOf, C_ringOf hp, C_ring (show p / 4 < 2 by omega), C_bit hp, lt]
        have e3 : (if K (b + 16 + p / 4) 0 = nI p then some (K (b + 16 + p / 4) 8) else some 0 : Option Int32) = some (nI (4 * w)) := by
          rw [← e1]
          by_cases hq : K (b + 16 + p / 4) 0 = nI p <;> simp [hq]
        rw [e3, ob]
        generalize (!decide (M0 9 (8 * c + p) = 0)) = q1 at t1 ⊢
        generalize (!decide (M0 10 (8 * c + p) = 0)) = q2 at t2 ⊢
        generalize decide ((60 : Int32) ≤ M0 12 (8 * c + p)) = q3 at t3 ⊢
        cases q1 <;> cases q2 <;> cases q3 <;> simp [t1, t2, t3, bi]
      · simp only [f_X9_signs, st, hM0, M_isPh hc hp, ob, n10, if_false, lt, n_8, n_ak, i16, x16, if_true, M_failed hc hp, M_isGreen hc hp, M_ringOf hp, i4, x4]
        rw [sg_v w _ _ _ hw]
        have e3 : (if bi (grn M0 c p) = 0 then some 0 else some (M0 25 (2 * c + p / 4)) : Option Int32) = some (nI w) := by
          rw [← e2]
          cases grn M0 c p <;> simp [bi]
        rw [e3]
        by_cases q1 : M0 9 (8 * c + p) = 0 <;> by_cases q2 : M0 10 (8 * c + p) = 0 <;> by_cases q3 : (60 : Int32) ≤ M0 12 (8 * c + p) <;> simp only [q1, q2, q3, if_true, if_false, decide_true, decide_false, Bool.not_true, Bool.not_false, bi_t, bi_f, ob, n10, bi] <;> rcases (show w = 0 ∨ w = 1 ∨ w = 2 by omega) with rfl | rfl | rfl <;> rfl
    · exact ⟨-1, ks M 0 0 0, by simp [f_X8_signs, hb, oc, hy.1], by simp [f_X9_signs, st, hy.2 _ _ ⟨c, hc, rfl⟩], h0⟩
  · exact ⟨-1, ks M 0 0 0, by simp [f_X8_signs, (hn K M).1, oc], by simp [f_X9_signs, st, M_isPh0 (hn K _).2], h0⟩
theorem pl_neg (h : rLnk b c K M) : M 32 c < 0 ↔ M 32 c = -1 := by
  rcases h.2.2.2.2.1 with e | ⟨j, hj, e, -⟩
  · rw [e]
    decide
  · rw [e]
    exact ⟨fun q => absurd q (nI_ge0 (by omega)), fun q => absurd q (nI_ne_m1 (by omega))⟩
theorem s_crossing (h : RR T K M) (x y : Int32) : ∃ r M', f_X8_crossing x y K = some r ∧ f_X9_crossing x y M = some (r, M') ∧ RR T K M' := by
  have h0 := RR_code 0 h
  rcases cr_cases x with ⟨b, c, hbc, rfl, hc, hb⟩ | hn
  · have hR := RR_in hbc h0
    generalize hM0 : ks M 0 0 0 = M0 at h0 hR
    have i2 : inb (nI c) 2 = true := inb_t hc (by omega)
    have x2 : ix (nI c) = c := ix_nI (by omega)
    have i4 : inb (nI (2 * c)) 4 = true := inb_t (by omega) (by omega)
    have x4 : ix (nI (2 * c)) = 2 * c := ix_nI (by omega)
    have i5 : inb (nI (2 * c + 1)) 4 = true := inb_t (by omega) (by omega)
    have x5 : ix (nI (2 * c + 1)) = 2 * c + 1 := ix_nI (by omega)
    obtain ⟨s9, s11, s12, -, s4, -⟩ := hR.2.2.2.2.2.2.1
    have hL := hR.2.2.2.2.1
    have r0 : K (b + 16) 0 = M0 20 (2 * c) := hR.2.2.2.2.2.2.2.2.1.2.1
    have r1 : K (b + 17) 0 = M0 20 (2 * c + 1) := hR.2.2.2.2.2.2.2.2.2.1.2.1
    by_cases y0 : y = 0
    · exact ⟨K b 12, M0, by simp [f_X8_crossing, hb, oc, y0], by simp [f_X9_crossing, st, hM0, M_isCr hc, y0, i2, x2, s12], h0⟩
    by_cases y1 : y = 1
    · have hw := C_tif hR.2.2.2.2.2.1 hR.2.1
      have hi := M_inp hc hR.2.2.2.2.2.1
      by_cases hu : K b 10 = 0
      · rw [decide_eq_true hu] at s4
        exact ⟨0, M0, by simp [f_X8_crossing, hb, oc, y1, f_X0_way, f_X0_isOff, hu], by simp [f_X9_crossing, st, hM0, M_isCr hc, y1, i2, x2, s4, bi], h0⟩
      · rw [decide_eq_false hu] at s4
        by_cases hf : M0 5 c = 0
        · by_cases hin : inF M0 c = true
          · obtain ⟨j, hj, e1, -⟩ := inF_p hR.2.2.2.2.2.1 hin
            rw [if_pos hin, e1] at hw
            rw [if_pos hin] at hi
            have g1 : ¬ nI j = -1 := nI_ne_m1 (by omega)
            have g2 : ¬ nI (2 * c + kx M0 c) < 0 := nI_ge0 (by unfold kx; split <;> omega)
            exact ⟨3, M0, by simp [f_X8_crossing, hb, oc, y1, f_X0_way, f_X0_isOff, hu, s11, hf, hw, g1], by simp [f_X9_crossing, st, hM0, M_isCr hc, y1, i2, x2, s4, bi, hf, hi, g2], h0⟩
          · rw [if_neg hin] at hw hi
            have g2 : (-1 : Int32) < 0 := by decide
            by_cases hp : M0 32 c = -1
            · have hn := (pl_neg hL).mpr hp
              exact ⟨1, M0, by simp [f_X8_crossing, hb, oc, y1, f_X0_way, f_X0_isOff, hu, s11, hf, hw, hL.1, hp], by simp [f_X9_crossing, st, hM0, M_isCr hc, y1, i2, x2, s4, bi, hf, hi, g2, hn], h0⟩
            · have hn : ¬ M0 32 c < 0 := fun e => hp ((pl_neg hL).mp e)
              exact ⟨2, M0, by simp [f_X8_crossing, hb, oc, y1, f_X0_way, f_X0_isOff, hu, s11, hf, hw, hL.1, hp], by simp only [f_X9_crossing, st, hM0, M_isCr hc, ob, n10, y1, i2, x2, s4, bi_f, hf, hi, g2, hn, if_true, if_false], h0⟩
        · exact ⟨4, M0, by simp [f_X8_crossing, hb, oc, y1, f_X0_way, f_X0_isOff, hu, s11, hf], by simp [f_X9_crossing, st, hM0, M_isCr hc, y1, i2, x2, s4, bi, hf], h0⟩
    by_cases y2 : y = 2
    · exact ⟨K b 11, M0, by simp [f_X8_crossing, hb, oc, y2], by simp [f_X9_crossing, st, hM0, M_isCr hc, y2, i2, x2, s11], h0⟩
    by_cases y3 : y = 3
    · exact ⟨K (b + 8) 0, M0, by simp [f_X8_crossing, hb, oc, y3], by simp [f_X9_crossing, st, hM0, M_isCr hc, y3, i2, x2, hL.1], h0⟩
    by_cases y4 : y = 4
    · by_cases hp : M0 32 c = -1
      · have hn := (pl_neg hL).mpr hp
        have hn2 : ¬ (0 : Int32) ≤ M0 32 c := Int32.not_le.mpr hn
        exact ⟨-1, M0, by simp [f_X8_crossing, hb, oc, y4, f_X3_shownClock, hL.1, hp], by simp [f_X9_crossing, st, hM0, M_isCr hc, y4, i2, x2, hn2], h0⟩
      · have hn : ¬ M0 32 c < 0 := fun e => hp ((pl_neg hL).mp e)
        have hn2 : (0 : Int32) ≤ M0 32 c := Int32.not_lt.mp hn
        exact ⟨K (b + 8) 1, M0, by simp [f_X8_crossing, hb, oc, y4, f_X3_shownClock, hL.1, hp], by simp [f_X9_crossing, st, hM0, M_isCr hc, y4, i2, x2, hn2, hL.2.1], h0⟩
    by_cases y5 : y = 5
    · exact ⟨K (b + 16) 0, M0, by simp [f_X8_crossing, hb, oc, y5], by simp only [f_X9_crossing, st, hM0, M_isCr hc, ob, n10, if_false, if_true, y5, n_2, i4, x4, r0]; rfl, h0⟩
    by_cases y6 : y = 6
    · exact ⟨K (b + 17) 0, M0, by simp [f_X8_crossing, hb, oc, y6], by simp only [f_X9_crossing, st, hM0, M_isCr hc, ob, n10, if_false, if_true, y6, n_2, n_a1, i5, x5, r1]; rfl, h0⟩
    exact ⟨-1, M0, by simp [f_X8_crossing, hb, oc, y0, y1, y2, y3, y4, y5, y6], by simp [f_X9_crossing, st, hM0, M_isCr hc, y0, y1, y2, y3, y4, y5, y6], h0⟩
  · exact ⟨-1, ks M 0 0 0, by simp [f_X8_crossing, (hn K M).1, oc], by simp [f_X9_crossing, st, (hn K _).2], h0⟩
end Ff4
