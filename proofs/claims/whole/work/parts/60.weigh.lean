/-! A TICK, (d): weigh -/
section We
variable {b c r s : Nat} {K M : Mem} {m : Int32}
theorem anyf_f {f : Nat → Bool} {n : Nat} (h : anyf f n = false) {p : Nat} (hp : p < n) : f p = false := by
  cases e : f p
  · rfl
  · rw [(anyf_iff f n).mpr ⟨p, hp, e⟩] at h
    cases h
def fo (M : Mem) (c r : Nat) : Int32 := if M 19 (2 * c + r) = 0 then -1 else fwd M c (ix (M 20 (2 * c + r)))
def wt (M : Mem) (c r s : Nat) : Bool := !decide (fo M c r = -1) || ndd M c s
theorem rg_cases (hr : r < 2) (h : rRing b c r K M) : M 19 (2 * c + r) = 0 ∨ (¬ M 19 (2 * c + r) = 0 ∧ ∃ q, q < 4 ∧ M 20 (2 * c + r) = nI (4 * r + q) ∧ M 8 (8 * c + (4 * r + q)) = 1 ∧ M 6 c = nI (q / 2)) := by
  by_cases h0 : M 19 (2 * c + r) = 0
  · exact Or.inl h0
  · exact Or.inr ⟨h0, (h.2.2.2.2.2.2.2.1 h0).1⟩
/-- what a ring is, in the reference's memory alone -/
def rgM (c r : Nat) (M : Mem) : Prop := M 19 (2 * c + r) = 0 ∨ (¬ M 19 (2 * c + r) = 0 ∧ ∃ q, q < 4 ∧ M 20 (2 * c + r) = nI (4 * r + q) ∧ M 8 (8 * c + (4 * r + q)) = 1 ∧ M 6 c = nI (q / 2))
theorem rg_M (hr : r < 2) (h : rRing b c r K M) : rgM c r M := rg_cases hr h
theorem M_fo (hc : c < 2) (hr : r < 2) (h : rgM c r M) : f_X9_forward (nI c) (nI (2 * c + r)) M = some (fo M c r) := by
  unfold fo
  rcases h with h0 | ⟨h0, q, hq, e, -⟩
  · rw [if_pos h0, M_forward0 hc hr h0]
  · rw [if_neg h0, M_forward hc hr (q := 4 * r + q) (by omega) h0 e, e, ix_nI (by omega)]
theorem M_wt (hc : c < 2) (hr : r < 2) (hs : s < 2) (hS : M 6 c = nI s) (h : rgM c r M) : f_X9_wanted (nI c) (nI (2 * c + r)) M = some (bi (wt M c r s)) := by
  unfold f_X9_wanted wt
  rw [M_fo hc hr h, ob, M_needed hc hs hS, ob]
  by_cases h2 : fo M c r = -1
  · rw [if_pos h2]
    cases ndd M c s <;> simp [bi, h2]
  · rw [if_neg h2]
    simp [bi, h2]
theorem C_before (hr : r < 2) (hs : s < 2) (hS : M 6 c = nI s) (h : rRing b c r K M) : ∃ m, f_X6_phaseBefore (b + 16 + r) K = some m ∧ mk m (fun p => decide (p / 4 = r) && ((!decide (M 19 (2 * c + r) = 0) && !decide (M 20 (2 * c + r) ≤ nI p)) && decide (p % 4 / 2 = s))) := by
  unfold f_X6_phaseBefore
  rw [C_waits, ob]
  rcases rg_cases hr h with h0 | ⟨h0, q, hq, e, -, e6⟩
  · rw [decide_eq_true ((rg_waits hr h).mpr h0), bi_t, if_neg n10]
    exact ⟨0, rfl, mk_congr mk_0 (fun i hi => by simp [h0])⟩
  · have hqs : q / 2 = s := by
      rw [hS] at e6
      exact ((eq_nI (by omega) (by omega)).mp e6).symm
    rw [decide_eq_false (fun e => h0 ((rg_waits hr h).mp e)), bi_f, if_pos rfl, h.2.1, e, n_rem2 (by omega)]
    have hle : ∀ i, i < 8 → (nI (4 * r + q) ≤ nI i ↔ 4 * r + q ≤ i) := fun i hi => le_nI (by omega) (by omega)
    by_cases ho : q % 2 = 0
    · rw [if_pos (by rw [show (4 * r + q) % 2 = 0 by omega]; rfl)]
      refine ⟨0, rfl, mk_congr mk_0 (fun i hi => ?_)⟩
      symm
      rw [Bool.eq_false_iff]
      intro hh
      simp only [Bool.and_eq_true, Bool.not_eq_true', decide_eq_true_eq, decide_eq_false_iff_not, hle i hi] at hh
      omega
    · have hn : ¬ nI ((4 * r + q) % 2) = 0 := fun e => by
        have := (nI_eq0 (by omega)).mp e
        omega
      have hsub : nI (4 * r + q) - 1 = nI (4 * r + q - 1) := pk_sub (a := 4 * r + q) (b := 1) (by omega)
      rw [if_neg hn, hsub, C_bit (by omega), ob]
      refine ⟨_, rfl, mk_congr (bit_lt (4 * r + q - 1) (by omega)) (fun i hi => ?_)⟩
      rw [Bool.eq_iff_iff]
      simp only [Bool.and_eq_true, Bool.not_eq_true', decide_eq_true_eq, decide_eq_false_iff_not, hle i hi, h0, not_false_iff, true_and]
      omega
theorem C_behind (hr : r < 2) (h : rRing b c r K M) (hm : mk m (fun p => cal M c p)) : ∃ u, f_X6_phaseBehind (b + 16 + r) K = some u ∧ (if m &&& u = 0 then some (-1) else some (K (b + 16 + r) 0 + 1) : Option Int32) = some (fo M c r) := by
  unfold f_X6_phaseBehind fo
  rw [C_waits, ob]
  rcases rg_cases hr h with h0 | ⟨h0, q, hq, e, -, e6⟩
  · rw [decide_eq_true ((rg_waits hr h).mpr h0), bi_t, if_neg n10]
    refine ⟨0, rfl, ?_⟩
    rw [if_pos h0, if_pos ((mk_eq0 (mk_and hm mk_0)).mpr (fun i hi => by simp))]
  · rw [decide_eq_false (fun e => h0 ((rg_waits hr h).mp e)), bi_f, if_pos rfl, h.2.1, e, n_rem2 (by omega), if_neg h0, ix_nI (by omega)]
    unfold fwd
    by_cases ho : q % 2 = 0
    · rw [if_pos (by rw [show (4 * r + q) % 2 = 0 by omega]; rfl), n_a1, C_bit (by omega), ob]
      refine ⟨_, rfl, ?_⟩
      rw [if_neg (show ¬ (4 * r + q) % 2 = 1 by omega)]
      have ht := mk_tst hm (p := 4 * r + q + 1) (by omega)
      cases hcl : cal M c (4 * r + q + 1)
      · rw [if_pos (ht.mpr hcl)]
        rfl
      · rw [if_neg (fun e => by rw [ht.mp e] at hcl; cases hcl)]
        rfl
    · have hn : ¬ nI ((4 * r + q) % 2) = 0 := fun e => by
        have := (nI_eq0 (by omega)).mp e
        omega
      rw [if_neg hn]
      refine ⟨0, rfl, ?_⟩
      rw [if_pos ((mk_eq0 (mk_and hm mk_0)).mpr (fun i hi => by simp)), if_pos (show (4 * r + q) % 2 = 1 by omega)]
theorem C_side (hs : s < 2) : ∃ u, f_X8_phasesOfSide (nI s) K = some u ∧ mk u (fun p => decide (p % 4 / 2 = s)) := by
  rcases (show s = 0 ∨ s = 1 by omega) with rfl | rfl
  · exact ⟨51, rfl, mk_51⟩
  · exact ⟨204, rfl, mk_204⟩
theorem C_weigh (hr : r < 2) (hs : s < 2) (h : RC b c K M) (hS : M 6 c = nI s) (hm : mk m (fun p => cal M c p)) : f_X0_weigh b (b + 16 + r) m K = some (ks (ks K (b + 16 + r) 2 (fo M c r)) (b + 16 + r) 3 (bi (wt M c r s))) := by
  have h0 := h.2.2.2.2.2.2.2.2.1
  have h1 := h.2.2.2.2.2.2.2.2.2.1
  have hrr : rRing b c r K M := by
    rcases (show r = 0 ∨ r = 1 by omega) with rfl | rfl
    · exact h0
    · exact h1
  obtain ⟨u0, f0, g0⟩ := C_before (by omega) hs hS h0
  obtain ⟨u1, f1, g1⟩ := C_before (by omega) hs hS h1
  obtain ⟨u2, f2, g2⟩ := C_side (K := K) (s := 1 - s) (by omega)
  obtain ⟨u3, f3, g3⟩ := C_behind hr hrr hm
  have h12 : K b 12 = nI s := by rw [h.2.2.2.2.2.2.1.2.2.1]; exact hS
  have hb : mk (u0 ||| u1) (fun p => (!decide (M 19 (2 * c + p / 4) = 0) && !decide (M 20 (2 * c + p / 4) ≤ nI p)) && decide (p % 4 / 2 = s)) := by
    refine mk_congr (mk_or g0 g1) (fun i hi => ?_)
    rcases (show i / 4 = 0 ∨ i / 4 = 1 by omega) with e | e <;> simp [e]
  have hn : (if m &&& (u2 ||| (u0 ||| u1)) = 0 then some 0 else some 1 : Option Int32) = some (bi (ndd M c s)) := by
    have hz := mk_eq0 (mk_and hm (mk_or g2 hb))
    cases hd : ndd M c s
    · rw [if_pos (hz.mpr (fun i hi => ?_))]
      · rfl
      · unfold ndd at hd
        rw [Bool.or_eq_false_iff] at hd
        have a1 := anyf_f hd.1 hi
        have a2 := anyf_f hd.2 hi
        unfold bfr at a2
        revert a1 a2
        cases cal M c i <;> cases decide (i % 4 / 2 = 1 - s) <;> cases decide (i % 4 / 2 = s) <;> cases (!decide (M 19 (2 * c + i / 4) = 0) && !decide (M 20 (2 * c + i / 4) ≤ nI i)) <;> simp
    · rw [if_neg]
      · rfl
      · intro e0
        have hf := hz.mp e0
        unfold ndd at hd
        rw [Bool.or_eq_true, anyf_iff, anyf_iff] at hd
        rcases hd with ⟨p, hp, e⟩ | ⟨p, hp, e⟩
        · have := hf p hp
          rw [Bool.and_eq_true] at e
          rw [e.1, e.2] at this
          cases this
        · have := hf p hp
          unfold bfr at e
          revert e this
          cases cal M c p <;> cases decide (p % 4 / 2 = 1 - s) <;> cases decide (p % 4 / 2 = s) <;> cases (!decide (M 19 (2 * c + p / 4) = 0) && !decide (M 20 (2 * c + p / 4) ≤ nI p)) <;> simp
  unfold f_X0_weigh
  have e0 : f_X6_phaseBefore (b + 16) K = some u0 := f0
  have e1 : f_X6_phaseBefore (b + 17) K = some u1 := f1
  rw [e0, ob, e1, ob, h12, n_1s hs, f2]
  simp only [lt]
  rw [ob, hn, ob, f3, ob, g3, ob]
  simp only [st, ks_s]
  unfold wt
  by_cases hfo : fo M c r = -1
  · cases ndd M c s <;> simp [bi, hfo]
  · cases ndd M c s <;> simp [bi, hfo]
end We
