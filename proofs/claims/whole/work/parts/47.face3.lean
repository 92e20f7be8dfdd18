/-! THE FACE: lamp, signs, crossing, occupancy; what is in force; lamps -/
def tgt (M : Mem) (c : Nat) : Int32 := if M 28 (2 * c) = 0 then (if M 28 (2 * c + 1) = 0 then -1 else M 27 (2 * c + 1)) else M 27 (2 * c)
def kx (M : Mem) (c : Nat) : Nat := if M 28 (2 * c) = 0 then 1 else 0
def inF (M : Mem) (c : Nat) : Bool := !decide (tgt M c < 0) && !decide (M 8 (8 * c + ix (tgt M c)) = 0)
def bas (M : Mem) (c p : Nat) : Int32 := if M 19 (2 * c + p / 4) = 0 then 1 else if M 20 (2 * c + p / 4) = nI p then (if M 19 (2 * c + p / 4) = 3 then 1 else if M 19 (2 * c + p / 4) = 1 then 4 else 2) else 1
def flt (w x : Int32) : Int32 := if w = 1 then x &&& (-2) else if w = 2 then x ||| 4 else if w = 3 then x &&& (-3) else x
section Fe
variable {T b c p : Nat} {K M : Mem}
theorem tgt_ok (h : rInp b c K M) : tgt M c = -1 ∨ ∃ j, j < 8 ∧ tgt M c = nI j := by
  unfold tgt
  have h0 : M 27 (2 * c) = -1 ∨ ∃ j, j < 8 ∧ M 27 (2 * c) = nI j := (h 0 (by omega)).2.2.2
  have h1 := (h 1 (by omega)).2.2.2
  by_cases e0 : M 28 (2 * c) = 0
  · rw [if_pos e0]
    by_cases e1 : M 28 (2 * c + 1) = 0
    · rw [if_pos e1]
      exact Or.inl rfl
    · rw [if_neg e1]
      exact h1
  · rw [if_neg e0]
    exact h0
theorem C_tif (hI : rInp b c K M) (hU : rUse b c K M) : f_X2_targetInForce (b + 9) (K b 10) K = some (if inF M c = true then tgt M c else -1) := by
  have h0 : K (b + 10) 0 = M 28 (2 * c) ∧ K (b + 11) 0 = M 27 (2 * c) := ⟨(hI 0 (by omega)).1, (hI 0 (by omega)).2.2.1⟩
  have h1 : K (b + 10) 1 = M 28 (2 * c + 1) ∧ K (b + 11) 1 = M 27 (2 * c + 1) := ⟨(hI 1 (by omega)).1, (hI 1 (by omega)).2.2.1⟩
  have e : f_X2_targetInForce (b + 9) (K b 10) K = (f_X8_bit (tgt M c) K).bind fun u => if (K b 10 &&& u) = 0 then some (-1) else some (tgt M c) := by
    unfold f_X2_targetInForce tgt
    show (if inb 0 2 = true then ((if K (b + 10) (ix 0) = 0 then _ else _ : Option Int32).bind _) else none) = _
    have i0 : inb 0 2 = true := rfl
    have i1 : inb 1 2 = true := rfl
    have x0 : ix 0 = 0 := rfl
    have x1 : ix 1 = 1 := rfl
    simp only [i0, i1, if_true, x0, x1, lt]
    rw [h0.1, h1.1, show b + 9 + 2 = b + 11 from rfl, h0.2, h1.2]
    by_cases e0 : M 28 (2 * c) = 0
    · by_cases e1 : M 28 (2 * c + 1) = 0
      · simp only [e0, e1, if_true, ob]
      · simp only [e0, e1, if_true, if_false, ob]
    · simp only [e0, if_false, ob]
  rw [e]
  unfold inF
  rcases tgt_ok hI with ht | ⟨j, hj, ht⟩
  · rw [ht, C_bitm, ob]
    have : (K b 10 &&& 0) = 0 := Int32.and_zero
    rw [if_pos this]
    have h1 : decide ((-1 : Int32) < 0) = true := by decide
    rw [h1]
    rfl
  · rw [ht, C_bit hj, ob, ix_nI (by omega)]
    have hm := mk_tst hU.1 hj
    have hz := (hU.2 j hj).1
    unfold one at hm
    rw [one_z hz] at hm
    have h1 : decide (nI j < 0) = false := decide_eq_false (nI_ge0 (by omega))
    rw [h1]
    by_cases h8 : M 8 (8 * c + j) = 0
    · rw [if_pos (hm.mpr (by simp [h8])), h8]
      rfl
    · rw [if_neg (fun e => by have := hm.mp e; simp [h8] at this), decide_eq_false h8]
      rfl
theorem M_inp (hc : c < 2) (hI : rInp b c K M) : f_X9_inputOf (nI c) M = some (if inF M c = true then nI (2 * c + kx M c) else -1) := by
  have i0 : inb (nI (2 * c)) 4 = true := inb_t (by omega) (by omega)
  have i1 : inb (nI (2 * c + 1)) 4 = true := inb_t (by omega) (by omega)
  have x0 : ix (nI (2 * c)) = 2 * c := ix_nI (by omega)
  have x1 : ix (nI (2 * c + 1)) = 2 * c + 1 := ix_nI (by omega)
  have g0 : ¬ nI (2 * c) < 0 := nI_ge0 (by omega)
  have g1 : ¬ nI (2 * c + 1) < 0 := nI_ge0 (by omega)
  have ht := tgt_ok hI
  unfold tgt at ht
  unfold f_X9_inputOf inF kx tgt
  simp only [n_2, n_a1, n_8, i0, i1, x0, x1, if_true, lt]
  by_cases e0 : M 28 (2 * c) = 0
  · by_cases e1 : M 28 (2 * c + 1) = 0
    · simp only [e0, e1, if_true, ob]
      rfl
    · simp only [e0, e1, if_true, if_false, ob, g1, i1, x1] at ht ⊢
      rcases ht with ht | ⟨j, hj, ht⟩
      · rw [ht]
        rfl
      · have hj0 : ¬ nI j < 0 := nI_ge0 (by omega)
        rw [ht, if_neg hj0, n_ak, if_pos (inb_t (by omega) (by omega)), ix_nI (by omega), ix_nI (by omega)]
        by_cases h8 : M 8 (8 * c + j) = 0 <;> simp [h8, hj0]
  · simp only [e0, if_false, ob, g0, i0, if_true, x0] at ht ⊢
    rcases ht with ht | ⟨j, hj, ht⟩
    · rw [ht]
      rfl
    · have hj0 : ¬ nI j < 0 := nI_ge0 (by omega)
      rw [ht, if_neg hj0, n_ak, if_pos (inb_t (by omega) (by omega)), ix_nI (by omega), ix_nI (by omega)]
      by_cases h8 : M 8 (8 * c + j) = 0 <;> simp [h8, hj0]
theorem inF_t (h : inF M c = true) : tgt M c = M 27 (2 * c + kx M c) := by
  unfold inF tgt at h
  unfold tgt kx
  by_cases e0 : M 28 (2 * c) = 0
  · by_cases e1 : M 28 (2 * c + 1) = 0
    · simp only [e0, e1, if_true] at h
      have h1 : decide ((-1 : Int32) < 0) = true := by decide
      rw [h1] at h
      cases h
    · simp only [e0, e1, if_true, if_false]
  · simp only [e0, if_false]
    rfl
theorem inF_p (hI : rInp b c K M) (h : inF M c = true) : ∃ j, j < 8 ∧ tgt M c = nI j ∧ ¬ M 8 (8 * c + j) = 0 := by
  rcases tgt_ok hI with ht | ⟨j, hj, ht⟩
  · unfold inF at h
    rw [ht] at h
    have h1 : decide ((-1 : Int32) < 0) = true := by decide
    rw [h1] at h
    cases h
  · refine ⟨j, hj, ht, fun e => ?_⟩
    unfold inF at h
    rw [ht, ix_nI (by omega), e] at h
    simp at h
/-! lamps -/
theorem bas_c (hp : p < 8) (h : rRing b c (p / 4) K M) : (if K (b + 16 + p / 4) 0 = nI p then K (b + 16 + p / 4) 4 else 1) = bas M c p := by
  obtain ⟨⟨s, hs, e1, e2⟩, e0, -, -, -, -, h0, h1, -⟩ := h
  unfold bas
  rw [e0, e2]
  by_cases hz : M 19 (2 * c + p / 4) = 0
  · rw [if_pos hz, h0 hz, if_neg (fun e => nI_ne_m1 (by omega) e.symm)]
  · rw [if_neg hz]
    by_cases hq : M 20 (2 * c + p / 4) = nI p
    · rw [if_pos hq, if_pos hq, e1]
      rw [e1] at hz
      rcases (show s = 0 ∨ s = 1 ∨ s = 2 ∨ s = 3 by omega) with rfl | rfl | rfl | rfl
      · exact absurd rfl hz
      · rfl
      · rfl
      · rfl
    · rw [if_neg hq, if_neg hq]
theorem bas_v : bas M c p = 1 ∨ bas M c p = 2 ∨ bas M c p = 4 := by
  unfold bas
  by_cases h1 : M 19 (2 * c + p / 4) = 0
  · simp [h1]
  · by_cases h2 : M 20 (2 * c + p / 4) = nI p
    · by_cases h3 : M 19 (2 * c + p / 4) = 3
      · simp [h2, h3]
      · by_cases h4 : M 19 (2 * c + p / 4) = 1
        · simp [h2, h4]
        · simp [h1, h2, h3, h4]
    · simp [h1, h2]
theorem rRing_at (hp : p < 8) (h0 : rRing b c 0 K M) (h1 : rRing b c 1 K M) : rRing b c (p / 4) K M := by
  rcases (show p / 4 = 0 ∨ p / 4 = 1 by omega) with e | e <;> rw [e]
  · exact h0
  · exact h1
theorem C_lamps (hp : p < 8) (h : RC b c K M) : f_X0_lampsOf b (nI p) K = some (if M 8 (8 * c + p) = 0 then 0 else if K b 11 = 0 then flt (M 14 (8 * c + p)) (bas M c p) else 8) := by
  have hU := h.2.1
  have hm := mk_tst hU.1 hp
  have hz := (hU.2 p hp).1
  unfold one at hm
  rw [one_z hz] at hm
  have hr := rRing_at hp h.2.2.2.2.2.2.2.2.1 h.2.2.2.2.2.2.2.2.2.1
  have hf := (h.2.2.2.2.2.2.2.2.2.2.2 p hp).2.2.2.2.1
  unfold f_X0_lampsOf
  rw [C_isPh hp, ob, if_neg n10, C_bit hp, ob]
  by_cases h8 : M 8 (8 * c + p) = 0
  · rw [if_pos (hm.mpr (by simp [h8])), if_pos h8]
  · rw [if_neg (fun e => by have := hm.mp e; simp [h8] at this), if_neg h8]
    by_cases hw : K b 11 = 0
    · rw [if_pos hw, if_pos hw, C_ringOf hp, ob, C_ring (by omega), ob]
      have e := bas_c hp hr
      have e2 : (if K (b + 16 + p / 4) 0 = nI p then some (K (b + 16 + p / 4) 4) else some 1 : Option Int32) = some (bas M c p) := by
        rw [← e]
        by_cases hq : K (b + 16 + p / 4) 0 = nI p <;> simp [hq]
      rw [e2, ob]
      simp only [lt]
      rw [if_pos (inb_t hp (by omega)), ix_nI (by omega), hf]
      unfold flt
      by_cases f1 : M 14 (8 * c + p) = 1
      · simp [f1]
      · by_cases f2 : M 14 (8 * c + p) = 2
        · simp [f2]
        · by_cases f3 : M 14 (8 * c + p) = 3 <;> simp [f1, f2, f3]
    · rw [if_neg hw, if_neg hw]
theorem M_lamps (hc : c < 2) (hp : p < 8) (hf : ∃ n, n < 4 ∧ M 14 (8 * c + p) = nI n) : f_X9_lampsOf (nI c) (nI p) M = some (if M 8 (8 * c + p) = 0 then 0 else flt (M 14 (8 * c + p)) (bas M c p)) := by
  have i16 : inb (nI (8 * c + p)) 16 = true := inb_t (by omega) (by omega)
  have x16 : ix (nI (8 * c + p)) = 8 * c + p := ix_nI (by omega)
  have i4 : inb (nI (2 * c + p / 4)) 4 = true := inb_t (by omega) (by omega)
  have x4 : ix (nI (2 * c + p / 4)) = 2 * c + p / 4 := ix_nI (by omega)
  unfold f_X9_lampsOf
  rw [M_ringOf hp, ob]
  simp only [lt, n_8, n_ak, i16, x16, i4, x4, if_true]
  by_cases h8 : M 8 (8 * c + p) = 0
  · rw [if_pos h8, if_pos h8]
  · rw [if_neg h8, if_neg h8]
    have e2 : (if M 19 (2 * c + p / 4) = 0 then some 1 else if M 20 (2 * c + p / 4) = nI p then (if M 19 (2 * c + p / 4) = 3 then some 1 else if M 19 (2 * c + p / 4) = 1 then some 4 else some 2) else some 1 : Option Int32) = some (bas M c p) := by
      unfold bas
      by_cases h1 : M 19 (2 * c + p / 4) = 0
      · simp [h1]
      · by_cases h2 : M 20 (2 * c + p / 4) = nI p
        · by_cases h3 : M 19 (2 * c + p / 4) = 3
          · simp [h2, h3]
          · by_cases h4 : M 19 (2 * c + p / 4) = 1
            · simp [h2, h4]
            · simp [h1, h2, h3, h4]
        · simp [h1, h2]
    rw [e2, ob]
    obtain ⟨n, hn, hf⟩ := hf
    rw [hf]
    rcases (show n = 0 ∨ n = 1 ∨ n = 2 ∨ n = 3 by omega) with rfl | rfl | rfl | rfl <;> rcases bas_v (M := M) (c := c) (p := p) with e | e | e <;> rw [e] <;> rfl
theorem lampv_flt (hf : ∃ n, n < 4 ∧ M 14 (8 * c + p) = nI n) : lampv (flt (M 14 (8 * c + p)) (bas M c p)) := by
  obtain ⟨n, hn, hf⟩ := hf
  rw [hf]
  unfold lampv
  rcases (show n = 0 ∨ n = 1 ∨ n = 2 ∨ n = 3 by omega) with rfl | rfl | rfl | rfl <;> rcases bas_v (M := M) (c := c) (p := p) with e | e | e <;> rw [e] <;> decide
theorem s_lamp (h : RR T K M) (x y : Int32) : ∃ r M', f_X8_lamp x y K = some r ∧ f_X9_lamp x y M = some (r, M') ∧ RR T K M' := by
  have h0 := RR_code 0 h
  rcases cr_cases x with ⟨b, c, hbc, rfl, hc, hb⟩ | hn
  · rcases ph_cases y with ⟨p, hp, rfl⟩ | hy
    · have hR := RR_in hbc h0
      generalize hM0 : ks M 0 0 0 = M0 at h0 hR
      have hS := hR.2.2.2.2.2.2.1
      have hU := hR.2.1
      have i16 : inb (nI (8 * c + p)) 16 = true := inb_t (by omega) (by omega)
      have x16 : ix (nI (8 * c + p)) = 8 * c + p := ix_nI (by omega)
      have i2 : inb (nI c) 2 = true := inb_t hc (by omega)
      have x2 : ix (nI c) = c := ix_nI (by omega)
      refine ⟨_, M0, by simp [f_X8_lamp, hb, oc, C_isPh hp, C_lamps hp hR]; rfl, ?_, h0⟩
      simp only [f_X9_lamp, st, hM0, M_isPh hc hp, ob, n10, if_false, i2, x2, if_true, n_8, n_ak, i16, x16, M_lamps hc hp (hR.2.2.2.2.2.2.2.2.2.2.2 p hp).2.2.2.2.2]
      have h4 := hS.2.2.2.2.1
      have h5 := hS.2.1
      by_cases h8 : M0 8 (8 * c + p) = 0
      · by_cases hk : M0 4 c = 0 <;> simp [h8, hk]
      · have hne : ¬ K b 10 = 0 := fun e => by
          have := (mk_eq0 hU.1).mp e p hp
          unfold one at this; rw [z01_one (hU.2 p hp).1 h8] at this; cases this
        rw [decide_eq_false hne] at h4
        rw [h5, h4]
        by_cases hk : M0 5 c = 0 <;> simp [h8, hk, bi]
    · exact ⟨-1, ks M 0 0 0, by simp [f_X8_lamp, hb, oc, hy.1], by simp [f_X9_lamp, st, hy.2 _ _ ⟨c, hc, rfl⟩], h0⟩
  · exact ⟨-1, ks M 0 0 0, by simp [f_X8_lamp, (hn K M).1, oc], by simp [f_X9_lamp, st, M_isPh0 (hn K _).2], h0⟩
theorem s_occ (h : RR T K M) (x y : Int32) : ∃ r M', f_X8_occupancy x y K = some r ∧ f_X9_occupancy x y M = some (r, M') ∧ RR T K M' ∧ fpos r := by
  have h0 := RR_code 0 h
  have f0 : fpos FP.fconst0 := Or.inl ⟨0, -149, by decide +kernel⟩
  rcases cr_cases x with ⟨b, c, hbc, rfl, hc, hb⟩ | hn
  · rcases ph_cases y with ⟨p, hp, rfl⟩ | hy
    · have hR := RR_in hbc h0
      obtain ⟨-, -, -, e, hf⟩ := hR.2.2.2.1.2.2 p hp
      have i16 : inb (nI (8 * c + p)) 16 = true := inb_t (by omega) (by omega)
      have x16 : ix (nI (8 * c + p)) = 8 * c + p := ix_nI (by omega)
      refine ⟨(ks M 0 0 0 13 (8 * c + p)).toUInt32, ks M 0 0 0, ?_, ?_, h0, hf⟩
      · rw [← e]
        simp [f_X8_occupancy, hb, oc, C_isPh hp, inb_t hp, ix_nI (show p < 2147483648 by omega)]
      · simp only [f_X9_occupancy, st, M_isPh hc hp, ob, n10, if_false, n_8, n_ak, i16, x16, if_true]
    · exact ⟨FP.fconst0, ks M 0 0 0, by simp [f_X8_occupancy, hb, oc, hy.1], by simp [f_X9_occupancy, st, hy.2 _ _ ⟨c, hc, rfl⟩], h0, f0⟩
  · exact ⟨FP.fconst0, ks M 0 0 0, by simp [f_X8_occupancy, (hn K M).1, oc], by simp [f_X9_occupancy, st, M_isPh0 (hn K _).2], h0, f0⟩
end Fe
